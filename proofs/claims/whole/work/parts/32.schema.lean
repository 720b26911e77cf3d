/-! Worlds with names: each change gives a new world; what it holds is kept as facts. -/
theorem x_nb {a c : Nat} (h : Nat.beq a c = false) : a ≠ c := fun e => by
  subst e
  rw [Nat.beq_refl] at h
  cases h
theorem x_ltL {fs : List Value} {n k : Nat} (h : fs.length = n) (hk : Nat.ble (k + 1) n = true) : k < fs.length := by
  rw [h]
  exact Nat.le_of_ble_eq_true hk
theorem x_wf_at {fs fs1 : List Value} {k : Nat} {v : Value} (h : fs1 = fs.set k v) (hl : k < fs.length) : fs1[k]? = some v := by
  rw [h]
  exact List.getElem?_set_self hl
theorem x_wf_ne {fs fs1 : List Value} {k i : Nat} {v w : Value} (h : fs1 = fs.set k v) (p : fs[i]? = some w) (hne : i ≠ k) : fs1[i]? = some w := by
  rw [h, List.getElem?_set_ne (fun q => hne q.symm)]
  exact p
theorem x_wf_len {fs fs1 : List Value} {k n : Nat} {v : Value} (h : fs1 = fs.set k v) (p : fs.length = n) : fs1.length = n := by
  rw [h, List.length_set]
  exact p
section XNW
variable {S S1 : xS} {a c : Nat} {e : xE}
theorem x_wo_ne {q : Nat × List Value} (h : S1 = S.set c e) (p : x_obj S a = some q) (hne : a ≠ c) : x_obj S1 a = some q := by
  rw [h, x_obj_ne hne]
  exact p
theorem x_wa_ne {q : Nat × vp_A} (h : S1 = S.set c e) (p : x_arr S a = some q) (hne : a ≠ c) : x_arr S1 a = some q := by
  rw [h, x_arr_ne hne]
  exact p
theorem x_wo_at {q q0 : Nat × List Value} (h : S1 = S.set a (.inl q)) (p : x_obj S a = some q0) : x_obj S1 a = some q := by
  rw [h]
  exact x_obj_at p
theorem x_wa_at {q q0 : Nat × vp_A} (h : S1 = S.set a (.inr q)) (p : x_arr S a = some q0) : x_arr S1 a = some q := by
  rw [h]
  exact x_arr_at p
theorem x_wsO {W : xS} {ci cj : Nat} {fs fs0 : List Value} (h : S1 = S.set a (.inl (ci, fs))) (p : x_obj S a = some (cj, fs0)) (hl : fs.length = fs0.length) (s : x_sv W S) : x_sv W S1 := by
  rw [h]
  exact x_sv_set s (x_obj_inv p) hl
theorem x_wsA {W : xS} {q q0 : Nat × vp_A} (h : S1 = S.set a (.inr q)) (p : x_arr S a = some q0) (hl : q.2.1 = q0.2.1) (s : x_sv W S) : x_sv W S1 := by
  rw [h]
  exact x_sv_set s (x_arr_inv p) hl
end XNW
section XNR
variable {d : Nat} {scr : Option (Nat × (Nat → Int32))} {M : xM} {pc : Nat} {L : xLs} {st : List Value} {S : xS} {Q : Option Value → xS → Prop}
theorem g_putN {i kd ci k a : Nat} {tc : Int} {fs fs' : List Value} {v : Value} (hr : x_row M pc = some (.putfield i, 3)) (hp : x_pool M i = (kd, ci, k, tc)) (hk : kd = 0 ∨ (kd = 1 ∧ M.2.2.2.2.1 = 2)) (ho : x_obj S a = some (ci, fs)) (hl : k < fs.length) (hv : x_fit tc v = true) (he : fs.set k v = fs') (kk : ∀ S1, S1 = S.set a (.inl (ci, fs')) → x_go d scr M (pc + 3) L st S1 Q) : x_go d scr M pc L (v :: .ref a :: st) S Q := g_put hr hp hk ho hl hv (kk _ (by rw [he]))
theorem g_putV {i kd ci k a : Nat} {tc : Int} {fs : List Value} {v : Value} (hr : x_row M pc = some (.putfield i, 3)) (hp : x_pool M i = (kd, ci, k, tc)) (hk : kd = 0 ∨ (kd = 1 ∧ M.2.2.2.2.1 = 2)) (ho : x_obj S a = some (ci, fs)) (hl : k < fs.length) (hv : x_fit tc v = true) (kk : ∀ S1 fs1, fs1 = fs.set k v → S1 = S.set a (.inl (ci, fs1)) → x_go d scr M (pc + 3) L st S1 Q) : x_go d scr M pc L (v :: .ref a :: st) S Q := g_put hr hp hk ho hl hv (kk _ _ rfl rfl)
theorem g_isN {a n : Nat} {i x : Int32} {f : Nat → Int32} (hr : x_row M pc = some (.iastore, 1)) (ha : x_arr S a = some (0, n, .inl f)) (hi : x_in i n) (kk : ∀ S1, S1 = S.set a (.inr (0, n, .inl (upd f i.toNatClampNeg x))) → x_go d scr M (pc + 1) L st S1 Q) : x_go d scr M pc L (.int x :: .int i :: .ref a :: st) S Q := g_is hr ha hi (kk _ rfl)
theorem g_bsN {a n : Nat} {i x : Int32} {f : Nat → Int32} (hr : x_row M pc = some (.bastore, 1)) (ha : x_arr S a = some (2, n, .inl f)) (hi : x_in i n) (kk : ∀ S1, S1 = S.set a (.inr (2, n, .inl (upd f i.toNatClampNeg (vp_nar .byte x)))) → x_go d scr M (pc + 1) L st S1 Q) : x_go d scr M pc L (.int x :: .int i :: .ref a :: st) S Q := g_bs hr ha hi (kk _ rfl)
theorem g_bs3N {a n : Nat} {i x : Int32} {f : Nat → Int32} (hr : x_row M pc = some (.bastore, 1)) (ha : x_arr S a = some (3, n, .inl f)) (hi : x_in i n) (kk : ∀ S1, S1 = S.set a (.inr (3, n, .inl (upd f i.toNatClampNeg (vp_nar .boolean x)))) → x_go d scr M (pc + 1) L st S1 Q) : x_go d scr M pc L (.int x :: .int i :: .ref a :: st) S Q := by
  refine g_s0 (pc' := pc + 1) (L' := L) (st' := st) (S' := S.set a (.inr (3, n, .inl (upd f i.toNatClampNeg (vp_nar .boolean x))))) ?_ (kk _ rfl)
  rw [x_st0_heap hr rfl rfl]
  show x_bast pc L (.int x :: .int i :: .ref a :: st) S = _
  unfold x_bast
  simp only [ha]
  rw [if_pos hi]
theorem g_ba3 {a n : Nat} {i v : Int32} {f : Nat → Int32} (hr : x_row M pc = some (.baload, 1)) (ha : x_arr S a = some (3, n, .inl f)) (hi : x_in i n) (hv : f i.toNatClampNeg = v) (kk : x_go d scr M (pc + 1) L (.int v :: st) S Q) : x_go d scr M pc L (.int i :: .ref a :: st) S Q := by
  refine g_s0 (pc' := pc + 1) (L' := L) (st' := .int v :: st) (S' := S) ?_ kk
  rw [x_st0_heap hr rfl rfl]
  show x_bald pc L (.int i :: .ref a :: st) S = _
  unfold x_bald
  simp only [ha]
  rw [if_pos hi, hv]
theorem g_asN {t a n v ci : Nat} {i : Int32} {fs : List Value} {f : Nat → Option Nat} (hr : x_row M pc = some (.aastore, 1)) (ha : x_arr S a = some (t, n, .inr (.inr (.inr (.inr f))))) (ho : x_obj S v = some (ci, fs)) (hi : 4 ≤ t ∧ t ≤ 6 ∧ ci = x_tc t ∧ x_in i n) (kk : ∀ S1, S1 = S.set a (.inr (t, n, .inr (.inr (.inr (.inr (va_up f i.toNatClampNeg (some v))))))) → x_go d scr M (pc + 1) L st S1 Q) : x_go d scr M pc L (.ref v :: .int i :: .ref a :: st) S Q := by
  refine g_s0 (pc' := pc + 1) (L' := L) (st' := st) (S' := S.set a (.inr (t, n, .inr (.inr (.inr (.inr (va_up f i.toNatClampNeg (some v)))))))) ?_ (kk _ rfl)
  rw [x_st0_heap hr rfl rfl]
  show x_aast pc L (.ref v :: .int i :: .ref a :: st) S = _
  unfold x_aast
  simp only [ha, ho]
  rw [if_pos hi]
theorem x_wipeN {a c n : Nat} {fs : List Value} {f0 : Nat → Int64} (ha : x_obj S a = some (8, .ref c :: fs)) (hc : x_arr S c = some (1, n, .inr (.inl f0))) (hn : n < 2147483648) (k : ∀ f S1, S1 = S.set c (.inr (1, n, .inr (.inl f))) → Q none S1) : x_ev (d + 1) 266 [.ref a] S Q := x_wipe ha hc hn (fun f => k f _ rfl)
end XNR
/-! The first schema. -/
set_option maxRecDepth 100000 in
set_option maxHeartbeats 100000000 in
theorem x_op8 {fi : Nat → Nat → Int32} {fl : Nat → Nat → Int64} {fr : Nat → Nat → Option Nat} (hF : x_F fl fr) (a : Int32) : x_ev 30 360 [.ref 0, .int a] (x_W fi fl fr) fun r S1 => (∃ fs, x_obj S1 281 = some (12, fs)) ∧ x_ev 30 489 [.ref 281, .int a] S1 (x_finI (x_W fi fl fr) r) := by
  refine g_in (M := x_M360) (L := [some (.ref 0), some (.int a), none, none]) x_pl360 rfl ?_
  refine g_n 1 (pc' := 1) (L' := [some (.ref 0), some (.int a), none, none]) (st' := [.int a]) rfl ?_
  refine g_call (ins := .invokestatic 173) (len := 3) (j := 348) (as := [.int a]) (rest := []) rfl rfl rfl rfl (fun _ => rfl) rfl ?_
  refine g_in (M := x_M348) (L := [some (.int a)]) x_pl348 rfl ?_
  refine g_n 1 (pc' := 1) (L' := [some (.int a)]) (st' := [.int a]) rfl ?_
  refine g_br (c := a < (0 : Int32)) (t := 13) (f := 4) (L' := [some (.int a)]) (st' := []) rfl (fun h1 => ?_) (fun h1 => ?_)
  · have p2 : a.toInt ≤ -1 := x_up_lt h1 (by decide)
    refine g_n 1 (pc' := 14) (L' := [some (.int a)]) (st' := [.int 0]) rfl ?_
    refine g_ret (ins := .ireturn) (len := 1) (r := (some (.int 0))) rfl rfl rfl ?_
    refine g_n 2 (pc' := 8) (L' := [some (.ref 0), some (.int a), none, none]) (st' := [.int (-1)]) rfl ?_
    refine g_ret (ins := .ireturn) (len := 1) (r := (some (.int (-1)))) rfl rfl rfl ?_
    have b3 : x_obj (x_W fi fl fr) 281 = some (12, x_MF) := rfl
    refine ⟨⟨_, b3⟩, ?_⟩
    refine g_in (M := x_M489) (L := [some (.ref 281), some (.int a), none]) x_pl489 rfl ?_
    refine g_n 2 (pc' := 2) (L' := [some (.ref 281), some (.int a), none]) (st' := [.int a, .ref 281]) rfl ?_
    refine g_vcall (i := 1015) (kd := 3) (j := 488) (np := 1) (ci := 12) (as := [.ref 281, .int a]) (rest := []) rfl rfl (Or.inl rfl) (Nat.le_of_ble_eq_true rfl) rfl rfl b3 rfl rfl ?_
    refine g_in (M := x_M488) (L := [some (.ref 281), some (.int a)]) x_pl488 rfl ?_
    refine g_n 1 (pc' := 1) (L' := [some (.ref 281), some (.int a)]) (st' := [.int a]) rfl ?_
    refine g_brT (c := a < (0 : Int32)) (t := 13) (f := 4) (L' := [some (.ref 281), some (.int a)]) (st' := []) rfl (x_Tlt (u := -1) (l := 0) p2 (by decide) (by decide)) ?_
    refine g_n 1 (pc' := 14) (L' := [some (.ref 281), some (.int a)]) (st' := [.int 0]) rfl ?_
    refine g_ret (ins := .ireturn) (len := 1) (r := (some (.int 0))) rfl rfl rfl ?_
    refine g_n 2 (pc' := 9) (L' := [some (.ref 281), some (.int a), none]) (st' := [.int (-1)]) rfl ?_
    exact g_ret (ins := .ireturn) (len := 1) (r := (some (.int (-1)))) rfl rfl rfl ⟨_, rfl, rfl, (x_sv_rf _)⟩
  · have p4 : 0 ≤ a.toInt := x_lo_le (x_nlt h1) (by decide)
    refine g_n 2 (pc' := 6) (L' := [some (.int a)]) (st' := [.int 4, .int a]) rfl ?_
    refine g_br (c := (4 : Int32) ≤ a) (t := 13) (f := 9) (L' := [some (.int a)]) (st' := []) rfl (fun h5 => ?_) (fun h5 => ?_)
    · have p6 : 4 ≤ a.toInt := x_lo_le h5 (by decide)
      refine g_n 1 (pc' := 14) (L' := [some (.int a)]) (st' := [.int 0]) rfl ?_
      refine g_ret (ins := .ireturn) (len := 1) (r := (some (.int 0))) rfl rfl rfl ?_
      refine g_n 2 (pc' := 8) (L' := [some (.ref 0), some (.int a), none, none]) (st' := [.int (-1)]) rfl ?_
      refine g_ret (ins := .ireturn) (len := 1) (r := (some (.int (-1)))) rfl rfl rfl ?_
      have b7 : x_obj (x_W fi fl fr) 281 = some (12, x_MF) := rfl
      refine ⟨⟨_, b7⟩, ?_⟩
      refine g_in (M := x_M489) (L := [some (.ref 281), some (.int a), none]) x_pl489 rfl ?_
      refine g_n 2 (pc' := 2) (L' := [some (.ref 281), some (.int a), none]) (st' := [.int a, .ref 281]) rfl ?_
      refine g_vcall (i := 1015) (kd := 3) (j := 488) (np := 1) (ci := 12) (as := [.ref 281, .int a]) (rest := []) rfl rfl (Or.inl rfl) (Nat.le_of_ble_eq_true rfl) rfl rfl b7 rfl rfl ?_
      refine g_in (M := x_M488) (L := [some (.ref 281), some (.int a)]) x_pl488 rfl ?_
      refine g_n 1 (pc' := 1) (L' := [some (.ref 281), some (.int a)]) (st' := [.int a]) rfl ?_
      refine g_brF (c := a < (0 : Int32)) (t := 13) (f := 4) (L' := [some (.ref 281), some (.int a)]) (st' := []) rfl (x_Flt (l := 4) (u := 0) p6 (by decide) (by decide)) ?_
      refine g_n 2 (pc' := 6) (L' := [some (.ref 281), some (.int a)]) (st' := [.int 4, .int a]) rfl ?_
      refine g_brT (c := (4 : Int32) ≤ a) (t := 13) (f := 9) (L' := [some (.ref 281), some (.int a)]) (st' := []) rfl (x_Tle (u := 4) (l := 4) (by decide) p6 (by decide)) ?_
      refine g_n 1 (pc' := 14) (L' := [some (.ref 281), some (.int a)]) (st' := [.int 0]) rfl ?_
      refine g_ret (ins := .ireturn) (len := 1) (r := (some (.int 0))) rfl rfl rfl ?_
      refine g_n 2 (pc' := 9) (L' := [some (.ref 281), some (.int a), none]) (st' := [.int (-1)]) rfl ?_
      exact g_ret (ins := .ireturn) (len := 1) (r := (some (.int (-1)))) rfl rfl rfl ⟨_, rfl, rfl, (x_sv_rf _)⟩
    · have p8 : a.toInt ≤ 3 := x_up_lt (x_nle h5) (by decide)
      refine g_n 2 (pc' := 14) (L' := [some (.int a)]) (st' := [.int 1]) rfl ?_
      refine g_ret (ins := .ireturn) (len := 1) (r := (some (.int 1))) rfl rfl rfl ?_
      refine g_n 2 (pc' := 10) (L' := [some (.ref 0), some (.int a), none, none]) (st' := [.ref 0]) rfl ?_
      have b9 : x_obj (x_W fi fl fr) 0 = some (11, [.ref 179, .ref 1, .ref 2, .ref 3, .ref 183, .ref 211, .ref 224, .ref 235, .ref 237, .ref 238, .ref 240, .ref 248, .ref 206, .ref 4, .ref 181, .ref 9, .int (-2), .int 0, .long 0]) := rfl
      refine g_get (i := 89) (kd := 1) (ci := 11) (k := 5) (tc := 3) (v := .ref 211) rfl rfl (Or.inl (by decide)) b9 rfl ?_
      refine g_n 1 (pc' := 14) (L' := [some (.ref 0), some (.int a), none, none]) (st' := [.ref 0, .ref 211]) rfl ?_
      refine g_get (i := 76) (kd := 1) (ci := 11) (k := 0) (tc := 3) (v := .ref 179) rfl rfl (Or.inl (by decide)) b9 rfl ?_
      have b10 : x_obj (x_W fi fl fr) 211 = some (2, [.ref 212, .ref 213, .ref 214, .ref 215, .ref 216, .ref 217, .ref 218, .ref 219, .ref 220, .ref 222, .ref 179, .int 0, .int 0, .int 0, .int 0]) := rfl
      refine g_vcall (i := 176) (kd := 3) (j := 45) (np := 1) (ci := 2) (as := [.ref 211, .ref 179]) (rest := []) rfl rfl (Or.inl rfl) (Nat.le_of_ble_eq_true rfl) rfl rfl b10 rfl rfl ?_
      refine g_in (M := x_M45) (L := [some (.ref 211), some (.ref 179), none, none]) x_pl45 rfl ?_
      refine g_n 2 (pc' := 2) (L' := [some (.ref 211), some (.ref 179), none, none]) (st' := [.ref 179, .ref 211]) rfl ?_
      refine g_putN (i := 49) (kd := 0) (ci := 2) (k := 10) (tc := 3) (fs' := [.ref 212, .ref 213, .ref 214, .ref 215, .ref 216, .ref 217, .ref 218, .ref 219, .ref 220, .ref 222, .ref 179, .int 0, .int 0, .int 0, .int 0]) rfl rfl (Or.inl rfl) b10 (x_ltL rfl rfl) rfl rfl (fun S11 w12 => ?_)
      have s13 := x_wsO w12 b10 rfl (x_sv_rf _)
      have g14 := x_wo_at w12 b10
      refine g_n 2 (pc' := 7) (L' := [some (.ref 211), some (.ref 179), none, none]) (st' := [.int 0, .ref 211]) rfl ?_
      refine g_putN (i := 52) (kd := 0) (ci := 2) (k := 11) (tc := 0) (fs' := [.ref 212, .ref 213, .ref 214, .ref 215, .ref 216, .ref 217, .ref 218, .ref 219, .ref 220, .ref 222, .ref 179, .int 0, .int 0, .int 0, .int 0]) rfl rfl (Or.inl rfl) g14 (x_ltL rfl rfl) rfl rfl (fun S15 w16 => ?_)
      have s17 := x_wsO w16 g14 rfl s13
      have g18 := x_wo_at w16 g14
      refine g_n 1 (pc' := 11) (L' := [some (.ref 211), some (.ref 179), none, none]) (st' := [.ref 211]) rfl ?_
      refine g_get (i := 42) (kd := 1) (ci := 2) (k := 8) (tc := 3) (v := .ref 220) rfl rfl (Or.inl (by decide)) g18 rfl ?_
      have b19 : x_obj (x_W fi fl fr) 220 = some (0, [.ref 221, .int 0, .int 0]) := rfl
      have g20 := x_wo_ne w16 (x_wo_ne w12 b19 (x_nb rfl)) (x_nb rfl)
      refine g_vcall (i := 56) (kd := 3) (j := 2) (np := 0) (ci := 0) (as := [.ref 220]) (rest := []) rfl rfl (Or.inl rfl) (Nat.le_of_ble_eq_true rfl) rfl rfl g20 rfl rfl ?_
      refine g_in (M := x_M2) (L := [some (.ref 220)]) x_pl2 rfl ?_
      refine g_n 2 (pc' := 2) (L' := [some (.ref 220)]) (st' := [.int 0, .ref 220]) rfl ?_
      refine g_putN (i := 19) (kd := 0) (ci := 0) (k := 1) (tc := 0) (fs' := [.ref 221, .int 0, .int 0]) rfl rfl (Or.inl rfl) g20 (x_ltL rfl rfl) rfl rfl (fun S21 w22 => ?_)
      have s23 := x_wsO w22 g20 rfl s17
      have g24 := x_wo_at w22 g20
      refine g_n 2 (pc' := 7) (L' := [some (.ref 220)]) (st' := [.int 0, .ref 220]) rfl ?_
      refine g_putN (i := 23) (kd := 0) (ci := 0) (k := 2) (tc := 0) (fs' := [.ref 221, .int 0, .int 0]) rfl rfl (Or.inl rfl) g24 (x_ltL rfl rfl) rfl rfl (fun S25 w26 => ?_)
      have s27 := x_wsO w26 g24 rfl s23
      have g28 := x_wo_at w26 g24
      refine g_ret (ins := .return_) (len := 1) (r := none) rfl rfl rfl ?_
      refine g_n 1 (pc' := 18) (L' := [some (.ref 211), some (.ref 179), none, none]) (st' := [.ref 211]) rfl ?_
      have g29 := x_wo_ne w26 (x_wo_ne w22 g18 (x_nb rfl)) (x_nb rfl)
      refine g_get (i := 46) (kd := 1) (ci := 2) (k := 9) (tc := 3) (v := .ref 222) rfl rfl (Or.inl (by decide)) g29 rfl ?_
      have b30 : x_obj (x_W fi fl fr) 222 = some (0, [.ref 223, .int 0, .int 0]) := rfl
      have g31 := x_wo_ne w26 (x_wo_ne w22 (x_wo_ne w16 (x_wo_ne w12 b30 (x_nb rfl)) (x_nb rfl)) (x_nb rfl)) (x_nb rfl)
      refine g_vcall (i := 56) (kd := 3) (j := 2) (np := 0) (ci := 0) (as := [.ref 222]) (rest := []) rfl rfl (Or.inl rfl) (Nat.le_of_ble_eq_true rfl) rfl rfl g31 rfl rfl ?_
      refine g_in (M := x_M2) (L := [some (.ref 222)]) x_pl2 rfl ?_
      refine g_n 2 (pc' := 2) (L' := [some (.ref 222)]) (st' := [.int 0, .ref 222]) rfl ?_
      refine g_putN (i := 19) (kd := 0) (ci := 0) (k := 1) (tc := 0) (fs' := [.ref 223, .int 0, .int 0]) rfl rfl (Or.inl rfl) g31 (x_ltL rfl rfl) rfl rfl (fun S32 w33 => ?_)
      have s34 := x_wsO w33 g31 rfl s27
      have g35 := x_wo_at w33 g31
      refine g_n 2 (pc' := 7) (L' := [some (.ref 222)]) (st' := [.int 0, .ref 222]) rfl ?_
      refine g_putN (i := 23) (kd := 0) (ci := 0) (k := 2) (tc := 0) (fs' := [.ref 223, .int 0, .int 0]) rfl rfl (Or.inl rfl) g35 (x_ltL rfl rfl) rfl rfl (fun S36 w37 => ?_)
      have s38 := x_wsO w37 g35 rfl s34
      have g39 := x_wo_at w37 g35
      refine g_ret (ins := .return_) (len := 1) (r := none) rfl rfl rfl ?_
      refine g_n 2 (pc' := 26) (L' := [some (.ref 211), some (.ref 179), none, none]) (st' := [.int 0, .ref 211]) rfl ?_
      have g40 := x_wo_ne w37 (x_wo_ne w33 g29 (x_nb rfl)) (x_nb rfl)
      refine g_vcall (i := 59) (kd := 3) (j := 55) (np := 1) (ci := 2) (as := [.ref 211, .int 0]) (rest := []) rfl rfl (Or.inl rfl) (Nat.le_of_ble_eq_true rfl) rfl rfl g40 rfl rfl ?_
      refine g_in (M := x_M55) (L := [some (.ref 211), some (.int 0), none, none, none]) x_pl55 rfl ?_
      refine g_n 6 (pc' := 6) (L' := [some (.ref 211), some (.int 0), some (.int 0), some (.int 0), none]) (st' := [.ref 211, .int 0]) rfl ?_
      refine g_get (i := 49) (kd := 0) (ci := 2) (k := 10) (tc := 3) (v := .ref 179) rfl rfl (Or.inl (by decide)) g40 rfl ?_
      have b41 : x_obj (x_W fi fl fr) 179 = some (0, [.ref 180, .int 0, .int 0]) := rfl
      have g42 := x_wo_ne w37 (x_wo_ne w33 (x_wo_ne w26 (x_wo_ne w22 (x_wo_ne w16 (x_wo_ne w12 b41 (x_nb rfl)) (x_nb rfl)) (x_nb rfl)) (x_nb rfl)) (x_nb rfl)) (x_nb rfl)
      refine g_get (i := 78) (kd := 0) (ci := 0) (k := 1) (tc := 0) (v := .int 0) rfl rfl (Or.inl (by decide)) g42 rfl ?_
      refine g_n 2 (pc' := 84) (L' := [some (.ref 211), some (.int 0), some (.int 0), some (.int 0), none]) (st' := [.int 0]) rfl ?_
      refine g_ret (ins := .ireturn) (len := 1) (r := (some (.int 0))) rfl rfl rfl ?_
      refine g_n 10 (pc' := 45) (L' := [some (.ref 211), some (.ref 179), some (.int 0), some (.int 0)]) (st' := [.int 0, .ref 211]) rfl ?_
      refine g_vcall (i := 63) (kd := 3) (j := 56) (np := 1) (ci := 2) (as := [.ref 211, .int 0]) (rest := []) rfl rfl (Or.inl rfl) (Nat.le_of_ble_eq_true rfl) rfl rfl g40 rfl rfl ?_
      refine g_in (M := x_M56) (L := [some (.ref 211), some (.int 0), none, none]) x_pl56 rfl ?_
      refine g_n 2 (pc' := 2) (L' := [some (.ref 211), some (.int 0), none, none]) (st' := [.ref 211, .int 0]) rfl ?_
      refine g_get (i := 49) (kd := 0) (ci := 2) (k := 10) (tc := 3) (v := .ref 179) rfl rfl (Or.inl (by decide)) g40 rfl ?_
      refine g_get (i := 78) (kd := 0) (ci := 0) (k := 1) (tc := 0) (v := .int 0) rfl rfl (Or.inl (by decide)) g42 rfl ?_
      refine g_n 5 (pc' := 15) (L' := [some (.ref 211), some (.int 0), none, none]) (st' := [.int 0, .int 0, .int 0, .ref 211]) rfl ?_
      refine g_vcall (i := 84) (kd := 3) (j := 57) (np := 3) (ci := 2) (as := [.ref 211, .int 0, .int 0, .int 0]) (rest := []) rfl rfl (Or.inl rfl) (Nat.le_of_ble_eq_true rfl) rfl rfl g40 rfl rfl ?_
      refine g_in (M := x_M57) (L := [some (.ref 211), some (.int 0), some (.int 0), some (.int 0), none]) x_pl57 rfl ?_
      refine g_n 1 (pc' := 1) (L' := [some (.ref 211), some (.int 0), some (.int 0), some (.int 0), none]) (st' := [.ref 211]) rfl ?_
      refine g_get (i := 52) (kd := 0) (ci := 2) (k := 11) (tc := 0) (v := .int 0) rfl rfl (Or.inl (by decide)) g40 rfl ?_
      refine g_n 2 (pc' := 8) (L' := [some (.ref 211), some (.int 0), some (.int 0), some (.int 0), none]) (st' := [.ref 211]) rfl ?_
      refine g_get (i := 52) (kd := 0) (ci := 2) (k := 11) (tc := 0) (v := .int 0) rfl rfl (Or.inl (by decide)) g40 rfl ?_
      refine g_n 3 (pc' := 19) (L' := [some (.ref 211), some (.int 0), some (.int 0), some (.int 0), none]) (st' := [.ref 211]) rfl ?_
      refine g_get (i := 11) (kd := 1) (ci := 2) (k := 0) (tc := 3) (v := .ref 212) rfl rfl (Or.inl (by decide)) g40 rfl ?_
      refine g_n 1 (pc' := 23) (L' := [some (.ref 211), some (.int 0), some (.int 0), some (.int 0), none]) (st' := [.ref 211, .ref 212]) rfl ?_
      refine g_get (i := 52) (kd := 0) (ci := 2) (k := 11) (tc := 0) (v := .int 0) rfl rfl (Or.inl (by decide)) g40 rfl ?_
      refine g_n 1 (pc' := 27) (L' := [some (.ref 211), some (.int 0), some (.int 0), some (.int 0), none]) (st' := [.int 0, .int 0, .ref 212]) rfl ?_
      have b43 : x_arr (x_W fi fl fr) 212 = some (0, 4002, .inl (fi 212)) := rfl
      have g44 := x_wa_ne w37 (x_wa_ne w33 (x_wa_ne w26 (x_wa_ne w22 (x_wa_ne w16 (x_wa_ne w12 b43 (x_nb rfl)) (x_nb rfl)) (x_nb rfl)) (x_nb rfl)) (x_nb rfl)) (x_nb rfl)
      refine g_isN rfl g44 (by decide) (fun S45 w46 => ?_)
      have s47 := x_wsA w46 g44 rfl s38
      have g48 := x_wa_at w46 g44
      refine g_n 1 (pc' := 29) (L' := [some (.ref 211), some (.int 0), some (.int 0), some (.int 0), none]) (st' := [.ref 211]) rfl ?_
      have g49 := x_wo_ne w46 g40 (x_nb rfl)
      refine g_get (i := 15) (kd := 1) (ci := 2) (k := 1) (tc := 3) (v := .ref 213) rfl rfl (Or.inl (by decide)) g49 rfl ?_
      refine g_n 1 (pc' := 33) (L' := [some (.ref 211), some (.int 0), some (.int 0), some (.int 0), none]) (st' := [.ref 211, .ref 213]) rfl ?_
      refine g_get (i := 52) (kd := 0) (ci := 2) (k := 11) (tc := 0) (v := .int 0) rfl rfl (Or.inl (by decide)) g49 rfl ?_
      refine g_n 1 (pc' := 37) (L' := [some (.ref 211), some (.int 0), some (.int 0), some (.int 0), none]) (st' := [.int 0, .int 0, .ref 213]) rfl ?_
      have b50 : x_arr (x_W fi fl fr) 213 = some (0, 4002, .inl (fi 213)) := rfl
      have g51 := x_wa_ne w46 (x_wa_ne w37 (x_wa_ne w33 (x_wa_ne w26 (x_wa_ne w22 (x_wa_ne w16 (x_wa_ne w12 b50 (x_nb rfl)) (x_nb rfl)) (x_nb rfl)) (x_nb rfl)) (x_nb rfl)) (x_nb rfl)) (x_nb rfl)
      refine g_isN rfl g51 (by decide) (fun S52 w53 => ?_)
      have s54 := x_wsA w53 g51 rfl s47
      have g55 := x_wa_at w53 g51
      refine g_n 1 (pc' := 39) (L' := [some (.ref 211), some (.int 0), some (.int 0), some (.int 0), none]) (st' := [.ref 211]) rfl ?_
      have g56 := x_wo_ne w53 g49 (x_nb rfl)
      refine g_get (i := 18) (kd := 1) (ci := 2) (k := 2) (tc := 3) (v := .ref 214) rfl rfl (Or.inl (by decide)) g56 rfl ?_
      refine g_n 1 (pc' := 43) (L' := [some (.ref 211), some (.int 0), some (.int 0), some (.int 0), none]) (st' := [.ref 211, .ref 214]) rfl ?_
      refine g_get (i := 52) (kd := 0) (ci := 2) (k := 11) (tc := 0) (v := .int 0) rfl rfl (Or.inl (by decide)) g56 rfl ?_
      refine g_n 1 (pc' := 47) (L' := [some (.ref 211), some (.int 0), some (.int 0), some (.int 0), none]) (st' := [.ref 211, .int 0, .ref 214]) rfl ?_
      refine g_get (i := 42) (kd := 1) (ci := 2) (k := 8) (tc := 3) (v := .ref 220) rfl rfl (Or.inl (by decide)) g56 rfl ?_
      have g57 := x_wo_ne w53 (x_wo_ne w46 (x_wo_ne w37 (x_wo_ne w33 g28 (x_nb rfl)) (x_nb rfl)) (x_nb rfl)) (x_nb rfl)
      refine g_get (i := 78) (kd := 0) (ci := 0) (k := 1) (tc := 0) (v := .int 0) rfl rfl (Or.inl (by decide)) g57 rfl ?_
      have b58 : x_arr (x_W fi fl fr) 214 = some (0, 4002, .inl (fi 214)) := rfl
      have g59 := x_wa_ne w53 (x_wa_ne w46 (x_wa_ne w37 (x_wa_ne w33 (x_wa_ne w26 (x_wa_ne w22 (x_wa_ne w16 (x_wa_ne w12 b58 (x_nb rfl)) (x_nb rfl)) (x_nb rfl)) (x_nb rfl)) (x_nb rfl)) (x_nb rfl)) (x_nb rfl)) (x_nb rfl)
      refine g_isN rfl g59 (by decide) (fun S60 w61 => ?_)
      have s62 := x_wsA w61 g59 rfl s54
      have g63 := x_wa_at w61 g59
      refine g_n 1 (pc' := 55) (L' := [some (.ref 211), some (.int 0), some (.int 0), some (.int 0), none]) (st' := [.ref 211]) rfl ?_
      have g64 := x_wo_ne w61 g56 (x_nb rfl)
      refine g_get (i := 24) (kd := 1) (ci := 2) (k := 4) (tc := 3) (v := .ref 216) rfl rfl (Or.inl (by decide)) g64 rfl ?_
      refine g_n 1 (pc' := 59) (L' := [some (.ref 211), some (.int 0), some (.int 0), some (.int 0), none]) (st' := [.ref 211, .ref 216]) rfl ?_
      refine g_get (i := 52) (kd := 0) (ci := 2) (k := 11) (tc := 0) (v := .int 0) rfl rfl (Or.inl (by decide)) g64 rfl ?_
      refine g_n 1 (pc' := 63) (L' := [some (.ref 211), some (.int 0), some (.int 0), some (.int 0), none]) (st' := [.ref 211, .int 0, .ref 216]) rfl ?_
      refine g_get (i := 42) (kd := 1) (ci := 2) (k := 8) (tc := 3) (v := .ref 220) rfl rfl (Or.inl (by decide)) g64 rfl ?_
      have g65 := x_wo_ne w61 g57 (x_nb rfl)
      refine g_get (i := 78) (kd := 0) (ci := 0) (k := 1) (tc := 0) (v := .int 0) rfl rfl (Or.inl (by decide)) g65 rfl ?_
      have b66 : x_arr (x_W fi fl fr) 216 = some (0, 4002, .inl (fi 216)) := rfl
      have g67 := x_wa_ne w61 (x_wa_ne w53 (x_wa_ne w46 (x_wa_ne w37 (x_wa_ne w33 (x_wa_ne w26 (x_wa_ne w22 (x_wa_ne w16 (x_wa_ne w12 b66 (x_nb rfl)) (x_nb rfl)) (x_nb rfl)) (x_nb rfl)) (x_nb rfl)) (x_nb rfl)) (x_nb rfl)) (x_nb rfl)) (x_nb rfl)
      refine g_isN rfl g67 (by decide) (fun S68 w69 => ?_)
      have s70 := x_wsA w69 g67 rfl s62
      have g71 := x_wa_at w69 g67
      refine g_n 6 (pc' := 107) (L' := [some (.ref 211), some (.int 0), some (.int 0), some (.int 0), some (.int 0)]) (st' := [.ref 211]) rfl ?_
      have g72 := x_wo_ne w69 g64 (x_nb rfl)
      refine g_get (i := 21) (kd := 1) (ci := 2) (k := 3) (tc := 3) (v := .ref 215) rfl rfl (Or.inl (by decide)) g72 rfl ?_
      refine g_n 1 (pc' := 111) (L' := [some (.ref 211), some (.int 0), some (.int 0), some (.int 0), some (.int 0)]) (st' := [.ref 211, .ref 215]) rfl ?_
      refine g_get (i := 52) (kd := 0) (ci := 2) (k := 11) (tc := 0) (v := .int 0) rfl rfl (Or.inl (by decide)) g72 rfl ?_
      refine g_n 3 (pc' := 118) (L' := [some (.ref 211), some (.int 0), some (.int 0), some (.int 0), some (.int 0)]) (st' := [.int 0, .int 0, .ref 215]) rfl ?_
      have b73 : x_arr (x_W fi fl fr) 215 = some (0, 4002, .inl (fi 215)) := rfl
      have g74 := x_wa_ne w69 (x_wa_ne w61 (x_wa_ne w53 (x_wa_ne w46 (x_wa_ne w37 (x_wa_ne w33 (x_wa_ne w26 (x_wa_ne w22 (x_wa_ne w16 (x_wa_ne w12 b73 (x_nb rfl)) (x_nb rfl)) (x_nb rfl)) (x_nb rfl)) (x_nb rfl)) (x_nb rfl)) (x_nb rfl)) (x_nb rfl)) (x_nb rfl)) (x_nb rfl)
      refine g_isN rfl g74 (by decide) (fun S75 w76 => ?_)
      have s77 := x_wsA w76 g74 rfl s70
      have g78 := x_wa_at w76 g74
      refine g_n 2 (pc' := 121) (L' := [some (.ref 211), some (.int 0), some (.int 0), some (.int 0), some (.int 0)]) (st' := [.ref 211, .ref 211]) rfl ?_
      have g79 := x_wo_ne w76 g72 (x_nb rfl)
      refine g_get (i := 52) (kd := 0) (ci := 2) (k := 11) (tc := 0) (v := .int 0) rfl rfl (Or.inl (by decide)) g79 rfl ?_
      refine g_n 2 (pc' := 126) (L' := [some (.ref 211), some (.int 0), some (.int 0), some (.int 0), some (.int 0)]) (st' := [.int 1, .ref 211]) rfl ?_
      refine g_putN (i := 52) (kd := 0) (ci := 2) (k := 11) (tc := 0) (fs' := [.ref 212, .ref 213, .ref 214, .ref 215, .ref 216, .ref 217, .ref 218, .ref 219, .ref 220, .ref 222, .ref 179, .int 1, .int 0, .int 0, .int 0]) rfl rfl (Or.inl rfl) g79 (x_ltL rfl rfl) rfl rfl (fun S80 w81 => ?_)
      have s82 := x_wsO w81 g79 rfl s77
      have g83 := x_wo_at w81 g79
      refine g_n 3 (pc' := 160) (L' := [some (.ref 211), some (.int 0), some (.int 0), some (.int 0), some (.int 0)]) (st' := []) rfl ?_
      refine g_ret (ins := .return_) (len := 1) (r := none) rfl rfl rfl ?_
      refine g_n 1 (pc' := 19) (L' := [some (.ref 211), some (.int 0), none, none]) (st' := [.int (-1)]) rfl ?_
      refine g_ret (ins := .ireturn) (len := 1) (r := (some (.int (-1)))) rfl rfl rfl ?_
      refine g_n 9 (pc' := 56) (L' := [some (.ref 211), some (.ref 179), some (.int (-1)), some (.int 1)]) (st' := [.ref 179]) rfl ?_
      have g84 := x_wo_ne w81 (x_wo_ne w76 (x_wo_ne w69 (x_wo_ne w61 (x_wo_ne w53 (x_wo_ne w46 g42 (x_nb rfl)) (x_nb rfl)) (x_nb rfl)) (x_nb rfl)) (x_nb rfl)) (x_nb rfl)
      refine g_vcall (i := 56) (kd := 3) (j := 2) (np := 0) (ci := 0) (as := [.ref 179]) (rest := []) rfl rfl (Or.inl rfl) (Nat.le_of_ble_eq_true rfl) rfl rfl g84 rfl rfl ?_
      refine g_in (M := x_M2) (L := [some (.ref 179)]) x_pl2 rfl ?_
      refine g_n 2 (pc' := 2) (L' := [some (.ref 179)]) (st' := [.int 0, .ref 179]) rfl ?_
      refine g_putN (i := 19) (kd := 0) (ci := 0) (k := 1) (tc := 0) (fs' := [.ref 180, .int 0, .int 0]) rfl rfl (Or.inl rfl) g84 (x_ltL rfl rfl) rfl rfl (fun S85 w86 => ?_)
      have s87 := x_wsO w86 g84 rfl s82
      have g88 := x_wo_at w86 g84
      refine g_n 2 (pc' := 7) (L' := [some (.ref 179)]) (st' := [.int 0, .ref 179]) rfl ?_
      refine g_putN (i := 23) (kd := 0) (ci := 0) (k := 2) (tc := 0) (fs' := [.ref 180, .int 0, .int 0]) rfl rfl (Or.inl rfl) g88 (x_ltL rfl rfl) rfl rfl (fun S89 w90 => ?_)
      have s91 := x_wsO w90 g88 rfl s87
      have g92 := x_wo_at w90 g88
      refine g_ret (ins := .return_) (len := 1) (r := none) rfl rfl rfl ?_
      refine g_n 2 (pc' := 61) (L' := [some (.ref 211), some (.ref 179), some (.int (-1)), some (.int 1)]) (st' := [.int (-1), .ref 211]) rfl ?_
      have g93 := x_wo_ne w90 (x_wo_ne w86 g83 (x_nb rfl)) (x_nb rfl)
      refine g_putN (i := 66) (kd := 0) (ci := 2) (k := 12) (tc := 0) (fs' := [.ref 212, .ref 213, .ref 214, .ref 215, .ref 216, .ref 217, .ref 218, .ref 219, .ref 220, .ref 222, .ref 179, .int 1, .int (-1), .int 0, .int 0]) rfl rfl (Or.inl rfl) g93 (x_ltL rfl rfl) rfl rfl (fun S94 w95 => ?_)
      have s96 := x_wsO w95 g93 rfl s91
      have g97 := x_wo_at w95 g93
      refine g_n 1 (pc' := 65) (L' := [some (.ref 211), some (.ref 179), some (.int (-1)), some (.int 1)]) (st' := [.ref 211]) rfl ?_
      refine g_vcall (i := 69) (kd := 3) (j := 46) (np := 0) (ci := 2) (as := [.ref 211]) (rest := []) rfl rfl (Or.inl rfl) (Nat.le_of_ble_eq_true rfl) rfl rfl g97 rfl rfl ?_
      refine g_in (M := x_M46) (L := [some (.ref 211)]) x_pl46 rfl ?_
      refine g_n 1 (pc' := 1) (L' := [some (.ref 211)]) (st' := [.ref 211]) rfl ?_
      refine g_get (i := 66) (kd := 0) (ci := 2) (k := 12) (tc := 0) (v := .int (-1)) rfl rfl (Or.inl (by decide)) g97 rfl ?_
      refine g_n 3 (pc' := 7) (L' := [some (.ref 211)]) (st' := [.ref 211, .int 0]) rfl ?_
      refine g_get (i := 52) (kd := 0) (ci := 2) (k := 11) (tc := 0) (v := .int 1) rfl rfl (Or.inl (by decide)) g97 rfl ?_
      refine g_n 3 (pc' := 15) (L' := [some (.ref 211)]) (st' := [.ref 211, .ref 211]) rfl ?_
      refine g_get (i := 66) (kd := 0) (ci := 2) (k := 12) (tc := 0) (v := .int (-1)) rfl rfl (Or.inl (by decide)) g97 rfl ?_
      refine g_n 2 (pc' := 20) (L' := [some (.ref 211)]) (st' := [.int 0, .ref 211]) rfl ?_
      refine g_putN (i := 66) (kd := 0) (ci := 2) (k := 12) (tc := 0) (fs' := [.ref 212, .ref 213, .ref 214, .ref 215, .ref 216, .ref 217, .ref 218, .ref 219, .ref 220, .ref 222, .ref 179, .int 1, .int 0, .int 0, .int 0]) rfl rfl (Or.inl rfl) g97 (x_ltL rfl rfl) rfl rfl (fun S98 w99 => ?_)
      have s100 := x_wsO w99 g97 rfl s96
      have g101 := x_wo_at w99 g97
      refine g_n 2 (pc' := 25) (L' := [some (.ref 211)]) (st' := [.ref 211, .ref 211]) rfl ?_
      refine g_get (i := 66) (kd := 0) (ci := 2) (k := 12) (tc := 0) (v := .int 0) rfl rfl (Or.inl (by decide)) g101 rfl ?_
      refine g_n 2 (pc' := 32) (L' := [some (.ref 211)]) (st' := [.ref 211, .ref 211]) rfl ?_
      refine g_get (i := 66) (kd := 0) (ci := 2) (k := 12) (tc := 0) (v := .int 0) rfl rfl (Or.inl (by decide)) g101 rfl ?_
      refine g_n 3 (pc' := 42) (L' := [some (.ref 211)]) (st' := [.ref 211, .ref 211]) rfl ?_
      refine g_get (i := 11) (kd := 1) (ci := 2) (k := 0) (tc := 3) (v := .ref 212) rfl rfl (Or.inl (by decide)) g101 rfl ?_
      refine g_n 1 (pc' := 46) (L' := [some (.ref 211)]) (st' := [.ref 211, .ref 212, .ref 211]) rfl ?_
      refine g_get (i := 66) (kd := 0) (ci := 2) (k := 12) (tc := 0) (v := .int 0) rfl rfl (Or.inl (by decide)) g101 rfl ?_
      have g102 := x_wa_ne w99 (x_wa_ne w95 (x_wa_ne w90 (x_wa_ne w86 (x_wa_ne w81 (x_wa_ne w76 (x_wa_ne w69 (x_wa_ne w61 (x_wa_ne w53 g48 (x_nb rfl)) (x_nb rfl)) (x_nb rfl)) (x_nb rfl)) (x_nb rfl)) (x_nb rfl)) (x_nb rfl)) (x_nb rfl)) (x_nb rfl)
      refine g_ia (i := 0) (a := 212) (n := 4002) (v := 0) rfl g102 (by decide) rfl ?_
      refine g_n 1 (pc' := 54) (L' := [some (.ref 211)]) (st' := [.int 0, .ref 211]) rfl ?_
      refine g_putN (i := 72) (kd := 0) (ci := 2) (k := 13) (tc := 0) (fs' := [.ref 212, .ref 213, .ref 214, .ref 215, .ref 216, .ref 217, .ref 218, .ref 219, .ref 220, .ref 222, .ref 179, .int 1, .int 0, .int 0, .int 0]) rfl rfl (Or.inl rfl) g101 (x_ltL rfl rfl) rfl rfl (fun S103 w104 => ?_)
      have s105 := x_wsO w104 g101 rfl s100
      have g106 := x_wo_at w104 g101
      refine g_n 2 (pc' := 59) (L' := [some (.ref 211)]) (st' := [.ref 211, .ref 211]) rfl ?_
      refine g_get (i := 66) (kd := 0) (ci := 2) (k := 12) (tc := 0) (v := .int 0) rfl rfl (Or.inl (by decide)) g106 rfl ?_
      refine g_n 2 (pc' := 66) (L' := [some (.ref 211)]) (st' := [.ref 211, .ref 211]) rfl ?_
      refine g_get (i := 66) (kd := 0) (ci := 2) (k := 12) (tc := 0) (v := .int 0) rfl rfl (Or.inl (by decide)) g106 rfl ?_
      refine g_n 3 (pc' := 76) (L' := [some (.ref 211)]) (st' := [.ref 211, .ref 211]) rfl ?_
      refine g_get (i := 15) (kd := 1) (ci := 2) (k := 1) (tc := 3) (v := .ref 213) rfl rfl (Or.inl (by decide)) g106 rfl ?_
      refine g_n 1 (pc' := 80) (L' := [some (.ref 211)]) (st' := [.ref 211, .ref 213, .ref 211]) rfl ?_
      refine g_get (i := 66) (kd := 0) (ci := 2) (k := 12) (tc := 0) (v := .int 0) rfl rfl (Or.inl (by decide)) g106 rfl ?_
      have g107 := x_wa_ne w104 (x_wa_ne w99 (x_wa_ne w95 (x_wa_ne w90 (x_wa_ne w86 (x_wa_ne w81 (x_wa_ne w76 (x_wa_ne w69 (x_wa_ne w61 g55 (x_nb rfl)) (x_nb rfl)) (x_nb rfl)) (x_nb rfl)) (x_nb rfl)) (x_nb rfl)) (x_nb rfl)) (x_nb rfl)) (x_nb rfl)
      refine g_ia (i := 0) (a := 213) (n := 4002) (v := 0) rfl g107 (by decide) rfl ?_
      refine g_n 1 (pc' := 88) (L' := [some (.ref 211)]) (st' := [.int 0, .ref 211]) rfl ?_
      refine g_putN (i := 75) (kd := 0) (ci := 2) (k := 14) (tc := 0) (fs' := [.ref 212, .ref 213, .ref 214, .ref 215, .ref 216, .ref 217, .ref 218, .ref 219, .ref 220, .ref 222, .ref 179, .int 1, .int 0, .int 0, .int 0]) rfl rfl (Or.inl rfl) g106 (x_ltL rfl rfl) rfl rfl (fun S108 w109 => ?_)
      have s110 := x_wsO w109 g106 rfl s105
      have g111 := x_wo_at w109 g106
      refine g_ret (ins := .return_) (len := 1) (r := none) rfl rfl rfl ?_
      refine g_ret (ins := .return_) (len := 1) (r := none) rfl rfl rfl ?_
      refine g_n 1 (pc' := 21) (L' := [some (.ref 0), some (.int a), none, none]) (st' := [.ref 0]) rfl ?_
      have g112 := x_wo_ne w109 (x_wo_ne w104 (x_wo_ne w99 (x_wo_ne w95 (x_wo_ne w90 (x_wo_ne w86 (x_wo_ne w81 (x_wo_ne w76 (x_wo_ne w69 (x_wo_ne w61 (x_wo_ne w53 (x_wo_ne w46 (x_wo_ne w37 (x_wo_ne w33 (x_wo_ne w26 (x_wo_ne w22 (x_wo_ne w16 (x_wo_ne w12 b9 (x_nb rfl)) (x_nb rfl)) (x_nb rfl)) (x_nb rfl)) (x_nb rfl)) (x_nb rfl)) (x_nb rfl)) (x_nb rfl)) (x_nb rfl)) (x_nb rfl)) (x_nb rfl)) (x_nb rfl)) (x_nb rfl)) (x_nb rfl)) (x_nb rfl)) (x_nb rfl)) (x_nb rfl)) (x_nb rfl)
      refine g_get (i := 98) (kd := 1) (ci := 11) (k := 6) (tc := 3) (v := .ref 224) rfl rfl (Or.inl (by decide)) g112 rfl ?_
      refine g_n 1 (pc' := 25) (L' := [some (.ref 0), some (.int a), none, none]) (st' := [.ref 0, .ref 224]) rfl ?_
      refine g_get (i := 82) (kd := 0) (ci := 11) (k := 4) (tc := 3) (v := .ref 183) rfl rfl (Or.inl (by decide)) g112 rfl ?_
      have b113 : x_obj (x_W fi fl fr) 224 = some (5, [.ref 211, .ref 183, .int 0, .int 0, .int 0, .int 0, .ref 225, .ref 227, .ref 229, .ref 231, .ref 233, .int 0]) := rfl
      have g114 := x_wo_ne w109 (x_wo_ne w104 (x_wo_ne w99 (x_wo_ne w95 (x_wo_ne w90 (x_wo_ne w86 (x_wo_ne w81 (x_wo_ne w76 (x_wo_ne w69 (x_wo_ne w61 (x_wo_ne w53 (x_wo_ne w46 (x_wo_ne w37 (x_wo_ne w33 (x_wo_ne w26 (x_wo_ne w22 (x_wo_ne w16 (x_wo_ne w12 b113 (x_nb rfl)) (x_nb rfl)) (x_nb rfl)) (x_nb rfl)) (x_nb rfl)) (x_nb rfl)) (x_nb rfl)) (x_nb rfl)) (x_nb rfl)) (x_nb rfl)) (x_nb rfl)) (x_nb rfl)) (x_nb rfl)) (x_nb rfl)) (x_nb rfl)) (x_nb rfl)) (x_nb rfl)) (x_nb rfl)
      refine g_vcall (i := 179) (kd := 3) (j := 133) (np := 1) (ci := 5) (as := [.ref 224, .ref 183]) (rest := []) rfl rfl (Or.inl rfl) (Nat.le_of_ble_eq_true rfl) rfl rfl g114 rfl rfl ?_
      refine g_in (M := x_M133) (L := [some (.ref 224), some (.ref 183), none]) x_pl133 rfl ?_
      refine g_n 2 (pc' := 2) (L' := [some (.ref 224), some (.ref 183), none]) (st' := [.ref 183, .ref 224]) rfl ?_
      refine g_putN (i := 38) (kd := 0) (ci := 5) (k := 1) (tc := 3) (fs' := [.ref 211, .ref 183, .int 0, .int 0, .int 0, .int 0, .ref 225, .ref 227, .ref 229, .ref 231, .ref 233, .int 0]) rfl rfl (Or.inl rfl) g114 (x_ltL rfl rfl) rfl rfl (fun S115 w116 => ?_)
      have s117 := x_wsO w116 g114 rfl s110
      have g118 := x_wo_at w116 g114
      refine g_n 1 (pc' := 6) (L' := [some (.ref 224), some (.ref 183), none]) (st' := [.ref 224]) rfl ?_
      refine g_get (i := 38) (kd := 0) (ci := 5) (k := 1) (tc := 3) (v := .ref 183) rfl rfl (Or.inl (by decide)) g118 rfl ?_
      have b119 : x_obj (x_W fi fl fr) 183 = some (4, [.ref 184, .ref 186, .ref 188, .ref 190, .ref 192, .ref 194, .ref 196, .ref 198, .ref 200, .ref 202, .ref 204, .ref 205, .int 0, .int 0, .int 0, .int 0, .int 0]) := rfl
      have g120 := x_wo_ne w116 (x_wo_ne w109 (x_wo_ne w104 (x_wo_ne w99 (x_wo_ne w95 (x_wo_ne w90 (x_wo_ne w86 (x_wo_ne w81 (x_wo_ne w76 (x_wo_ne w69 (x_wo_ne w61 (x_wo_ne w53 (x_wo_ne w46 (x_wo_ne w37 (x_wo_ne w33 (x_wo_ne w26 (x_wo_ne w22 (x_wo_ne w16 (x_wo_ne w12 b119 (x_nb rfl)) (x_nb rfl)) (x_nb rfl)) (x_nb rfl)) (x_nb rfl)) (x_nb rfl)) (x_nb rfl)) (x_nb rfl)) (x_nb rfl)) (x_nb rfl)) (x_nb rfl)) (x_nb rfl)) (x_nb rfl)) (x_nb rfl)) (x_nb rfl)) (x_nb rfl)) (x_nb rfl)) (x_nb rfl)) (x_nb rfl)
      refine g_vcall (i := 42) (kd := 3) (j := 107) (np := 0) (ci := 4) (as := [.ref 183]) (rest := []) rfl rfl (Or.inl rfl) (Nat.le_of_ble_eq_true rfl) rfl rfl g120 rfl rfl ?_
      refine g_in (M := x_M107) (L := [some (.ref 183)]) x_pl107 rfl ?_
      refine g_n 2 (pc' := 2) (L' := [some (.ref 183)]) (st' := [.int 0, .ref 183]) rfl ?_
      refine g_putN (i := 61) (kd := 0) (ci := 4) (k := 12) (tc := 0) (fs' := [.ref 184, .ref 186, .ref 188, .ref 190, .ref 192, .ref 194, .ref 196, .ref 198, .ref 200, .ref 202, .ref 204, .ref 205, .int 0, .int 0, .int 0, .int 0, .int 0]) rfl rfl (Or.inl rfl) g120 (x_ltL rfl rfl) rfl rfl (fun S121 w122 => ?_)
      have s123 := x_wsO w122 g120 rfl s117
      have g124 := x_wo_at w122 g120
      refine g_n 2 (pc' := 7) (L' := [some (.ref 183)]) (st' := [.int 0, .ref 183]) rfl ?_
      refine g_putN (i := 65) (kd := 0) (ci := 4) (k := 13) (tc := 0) (fs' := [.ref 184, .ref 186, .ref 188, .ref 190, .ref 192, .ref 194, .ref 196, .ref 198, .ref 200, .ref 202, .ref 204, .ref 205, .int 0, .int 0, .int 0, .int 0, .int 0]) rfl rfl (Or.inl rfl) g124 (x_ltL rfl rfl) rfl rfl (fun S125 w126 => ?_)
      have s127 := x_wsO w126 g124 rfl s123
      have g128 := x_wo_at w126 g124
      refine g_n 2 (pc' := 12) (L' := [some (.ref 183)]) (st' := [.int 0, .ref 183]) rfl ?_
      refine g_putN (i := 68) (kd := 0) (ci := 4) (k := 14) (tc := 0) (fs' := [.ref 184, .ref 186, .ref 188, .ref 190, .ref 192, .ref 194, .ref 196, .ref 198, .ref 200, .ref 202, .ref 204, .ref 205, .int 0, .int 0, .int 0, .int 0, .int 0]) rfl rfl (Or.inl rfl) g128 (x_ltL rfl rfl) rfl rfl (fun S129 w130 => ?_)
      have s131 := x_wsO w130 g128 rfl s127
      have g132 := x_wo_at w130 g128
      refine g_n 2 (pc' := 17) (L' := [some (.ref 183)]) (st' := [.int 0, .ref 183]) rfl ?_
      refine g_putN (i := 71) (kd := 0) (ci := 4) (k := 15) (tc := 0) (fs' := [.ref 184, .ref 186, .ref 188, .ref 190, .ref 192, .ref 194, .ref 196, .ref 198, .ref 200, .ref 202, .ref 204, .ref 205, .int 0, .int 0, .int 0, .int 0, .int 0]) rfl rfl (Or.inl rfl) g132 (x_ltL rfl rfl) rfl rfl (fun S133 w134 => ?_)
      have s135 := x_wsO w134 g132 rfl s131
      have g136 := x_wo_at w134 g132
      refine g_n 2 (pc' := 22) (L' := [some (.ref 183)]) (st' := [.int 0, .ref 183]) rfl ?_
      refine g_putN (i := 74) (kd := 0) (ci := 4) (k := 16) (tc := 2) (fs' := [.ref 184, .ref 186, .ref 188, .ref 190, .ref 192, .ref 194, .ref 196, .ref 198, .ref 200, .ref 202, .ref 204, .ref 205, .int 0, .int 0, .int 0, .int 0, .int 0]) rfl rfl (Or.inl rfl) g136 (x_ltL rfl rfl) rfl rfl (fun S137 w138 => ?_)
      have s139 := x_wsO w138 g136 rfl s135
      have g140 := x_wo_at w138 g136
      refine g_n 1 (pc' := 26) (L' := [some (.ref 183)]) (st' := [.ref 183]) rfl ?_
      refine g_get (i := 46) (kd := 1) (ci := 4) (k := 8) (tc := 3) (v := .ref 200) rfl rfl (Or.inl (by decide)) g140 rfl ?_
      have b141 : x_obj (x_W fi fl fr) 200 = some (0, [.ref 201, .int 0, .int 0]) := rfl
      have g142 := x_wo_ne w138 (x_wo_ne w134 (x_wo_ne w130 (x_wo_ne w126 (x_wo_ne w122 (x_wo_ne w116 (x_wo_ne w109 (x_wo_ne w104 (x_wo_ne w99 (x_wo_ne w95 (x_wo_ne w90 (x_wo_ne w86 (x_wo_ne w81 (x_wo_ne w76 (x_wo_ne w69 (x_wo_ne w61 (x_wo_ne w53 (x_wo_ne w46 (x_wo_ne w37 (x_wo_ne w33 (x_wo_ne w26 (x_wo_ne w22 (x_wo_ne w16 (x_wo_ne w12 b141 (x_nb rfl)) (x_nb rfl)) (x_nb rfl)) (x_nb rfl)) (x_nb rfl)) (x_nb rfl)) (x_nb rfl)) (x_nb rfl)) (x_nb rfl)) (x_nb rfl)) (x_nb rfl)) (x_nb rfl)) (x_nb rfl)) (x_nb rfl)) (x_nb rfl)) (x_nb rfl)) (x_nb rfl)) (x_nb rfl)) (x_nb rfl)) (x_nb rfl)) (x_nb rfl)) (x_nb rfl)) (x_nb rfl)) (x_nb rfl)
      refine g_vcall (i := 78) (kd := 3) (j := 2) (np := 0) (ci := 0) (as := [.ref 200]) (rest := []) rfl rfl (Or.inl rfl) (Nat.le_of_ble_eq_true rfl) rfl rfl g142 rfl rfl ?_
      refine g_in (M := x_M2) (L := [some (.ref 200)]) x_pl2 rfl ?_
      refine g_n 2 (pc' := 2) (L' := [some (.ref 200)]) (st' := [.int 0, .ref 200]) rfl ?_
      refine g_putN (i := 19) (kd := 0) (ci := 0) (k := 1) (tc := 0) (fs' := [.ref 201, .int 0, .int 0]) rfl rfl (Or.inl rfl) g142 (x_ltL rfl rfl) rfl rfl (fun S143 w144 => ?_)
      have s145 := x_wsO w144 g142 rfl s139
      have g146 := x_wo_at w144 g142
      refine g_n 2 (pc' := 7) (L' := [some (.ref 200)]) (st' := [.int 0, .ref 200]) rfl ?_
      refine g_putN (i := 23) (kd := 0) (ci := 0) (k := 2) (tc := 0) (fs' := [.ref 201, .int 0, .int 0]) rfl rfl (Or.inl rfl) g146 (x_ltL rfl rfl) rfl rfl (fun S147 w148 => ?_)
      have s149 := x_wsO w148 g146 rfl s145
      have g150 := x_wo_at w148 g146
      refine g_ret (ins := .return_) (len := 1) (r := none) rfl rfl rfl ?_
      refine g_n 1 (pc' := 33) (L' := [some (.ref 183)]) (st' := [.ref 183]) rfl ?_
      have g151 := x_wo_ne w148 (x_wo_ne w144 g140 (x_nb rfl)) (x_nb rfl)
      refine g_get (i := 50) (kd := 1) (ci := 4) (k := 9) (tc := 3) (v := .ref 202) rfl rfl (Or.inl (by decide)) g151 rfl ?_
      have b152 : x_obj (x_W fi fl fr) 202 = some (0, [.ref 203, .int 0, .int 0]) := rfl
      have g153 := x_wo_ne w148 (x_wo_ne w144 (x_wo_ne w138 (x_wo_ne w134 (x_wo_ne w130 (x_wo_ne w126 (x_wo_ne w122 (x_wo_ne w116 (x_wo_ne w109 (x_wo_ne w104 (x_wo_ne w99 (x_wo_ne w95 (x_wo_ne w90 (x_wo_ne w86 (x_wo_ne w81 (x_wo_ne w76 (x_wo_ne w69 (x_wo_ne w61 (x_wo_ne w53 (x_wo_ne w46 (x_wo_ne w37 (x_wo_ne w33 (x_wo_ne w26 (x_wo_ne w22 (x_wo_ne w16 (x_wo_ne w12 b152 (x_nb rfl)) (x_nb rfl)) (x_nb rfl)) (x_nb rfl)) (x_nb rfl)) (x_nb rfl)) (x_nb rfl)) (x_nb rfl)) (x_nb rfl)) (x_nb rfl)) (x_nb rfl)) (x_nb rfl)) (x_nb rfl)) (x_nb rfl)) (x_nb rfl)) (x_nb rfl)) (x_nb rfl)) (x_nb rfl)) (x_nb rfl)) (x_nb rfl)) (x_nb rfl)) (x_nb rfl)) (x_nb rfl)) (x_nb rfl)) (x_nb rfl)) (x_nb rfl)
      refine g_vcall (i := 78) (kd := 3) (j := 2) (np := 0) (ci := 0) (as := [.ref 202]) (rest := []) rfl rfl (Or.inl rfl) (Nat.le_of_ble_eq_true rfl) rfl rfl g153 rfl rfl ?_
      refine g_in (M := x_M2) (L := [some (.ref 202)]) x_pl2 rfl ?_
      refine g_n 2 (pc' := 2) (L' := [some (.ref 202)]) (st' := [.int 0, .ref 202]) rfl ?_
      refine g_putN (i := 19) (kd := 0) (ci := 0) (k := 1) (tc := 0) (fs' := [.ref 203, .int 0, .int 0]) rfl rfl (Or.inl rfl) g153 (x_ltL rfl rfl) rfl rfl (fun S154 w155 => ?_)
      have s156 := x_wsO w155 g153 rfl s149
      have g157 := x_wo_at w155 g153
      refine g_n 2 (pc' := 7) (L' := [some (.ref 202)]) (st' := [.int 0, .ref 202]) rfl ?_
      refine g_putN (i := 23) (kd := 0) (ci := 0) (k := 2) (tc := 0) (fs' := [.ref 203, .int 0, .int 0]) rfl rfl (Or.inl rfl) g157 (x_ltL rfl rfl) rfl rfl (fun S158 w159 => ?_)
      have s160 := x_wsO w159 g157 rfl s156
      have g161 := x_wo_at w159 g157
      refine g_ret (ins := .return_) (len := 1) (r := none) rfl rfl rfl ?_
      refine g_n 1 (pc' := 40) (L' := [some (.ref 183)]) (st' := [.ref 183]) rfl ?_
      have g162 := x_wo_ne w159 (x_wo_ne w155 g151 (x_nb rfl)) (x_nb rfl)
      refine g_get (i := 16) (kd := 1) (ci := 4) (k := 0) (tc := 3) (v := .ref 184) rfl rfl (Or.inl (by decide)) g162 rfl ?_
      have b163 : x_obj (x_W fi fl fr) 184 = some (8, [.ref 185, .int 1, .int 30, .int 9]) := rfl
      have g164 := x_wo_ne w159 (x_wo_ne w155 (x_wo_ne w148 (x_wo_ne w144 (x_wo_ne w138 (x_wo_ne w134 (x_wo_ne w130 (x_wo_ne w126 (x_wo_ne w122 (x_wo_ne w116 (x_wo_ne w109 (x_wo_ne w104 (x_wo_ne w99 (x_wo_ne w95 (x_wo_ne w90 (x_wo_ne w86 (x_wo_ne w81 (x_wo_ne w76 (x_wo_ne w69 (x_wo_ne w61 (x_wo_ne w53 (x_wo_ne w46 (x_wo_ne w37 (x_wo_ne w33 (x_wo_ne w26 (x_wo_ne w22 (x_wo_ne w16 (x_wo_ne w12 b163 (x_nb rfl)) (x_nb rfl)) (x_nb rfl)) (x_nb rfl)) (x_nb rfl)) (x_nb rfl)) (x_nb rfl)) (x_nb rfl)) (x_nb rfl)) (x_nb rfl)) (x_nb rfl)) (x_nb rfl)) (x_nb rfl)) (x_nb rfl)) (x_nb rfl)) (x_nb rfl)) (x_nb rfl)) (x_nb rfl)) (x_nb rfl)) (x_nb rfl)) (x_nb rfl)) (x_nb rfl)) (x_nb rfl)) (x_nb rfl)) (x_nb rfl)) (x_nb rfl)) (x_nb rfl)) (x_nb rfl)
      refine g_vcall (i := 81) (kd := 3) (j := 266) (np := 0) (ci := 8) (as := [.ref 184]) (rest := []) rfl rfl (Or.inl rfl) (Nat.le_of_ble_eq_true rfl) rfl rfl g164 rfl rfl ?_
      have b165 : x_arr (x_W fi fl fr) 185 = some (1, 270, .inr (.inl (fl 185))) := rfl
      have g166 := x_wa_ne w159 (x_wa_ne w155 (x_wa_ne w148 (x_wa_ne w144 (x_wa_ne w138 (x_wa_ne w134 (x_wa_ne w130 (x_wa_ne w126 (x_wa_ne w122 (x_wa_ne w116 (x_wa_ne w109 (x_wa_ne w104 (x_wa_ne w99 (x_wa_ne w95 (x_wa_ne w90 (x_wa_ne w86 (x_wa_ne w81 (x_wa_ne w76 (x_wa_ne w69 (x_wa_ne w61 (x_wa_ne w53 (x_wa_ne w46 (x_wa_ne w37 (x_wa_ne w33 (x_wa_ne w26 (x_wa_ne w22 (x_wa_ne w16 (x_wa_ne w12 b165 (x_nb rfl)) (x_nb rfl)) (x_nb rfl)) (x_nb rfl)) (x_nb rfl)) (x_nb rfl)) (x_nb rfl)) (x_nb rfl)) (x_nb rfl)) (x_nb rfl)) (x_nb rfl)) (x_nb rfl)) (x_nb rfl)) (x_nb rfl)) (x_nb rfl)) (x_nb rfl)) (x_nb rfl)) (x_nb rfl)) (x_nb rfl)) (x_nb rfl)) (x_nb rfl)) (x_nb rfl)) (x_nb rfl)) (x_nb rfl)) (x_nb rfl)) (x_nb rfl)) (x_nb rfl)) (x_nb rfl)
      refine x_wipeN (a := 184) (c := 185) (n := 270) g164 g166 (by decide) (fun f167 S168 w169 => ?_)
      have s170 := x_wsA w169 g166 rfl s160
      have g171 := x_wa_at w169 g166
      refine g_n 1 (pc' := 47) (L' := [some (.ref 183)]) (st' := [.ref 183]) rfl ?_
      have g172 := x_wo_ne w169 g162 (x_nb rfl)
      refine g_get (i := 20) (kd := 1) (ci := 4) (k := 1) (tc := 3) (v := .ref 186) rfl rfl (Or.inl (by decide)) g172 rfl ?_
      have b173 : x_obj (x_W fi fl fr) 186 = some (8, [.ref 187, .int 30, .int 24, .int 17]) := rfl
      have g174 := x_wo_ne w169 (x_wo_ne w159 (x_wo_ne w155 (x_wo_ne w148 (x_wo_ne w144 (x_wo_ne w138 (x_wo_ne w134 (x_wo_ne w130 (x_wo_ne w126 (x_wo_ne w122 (x_wo_ne w116 (x_wo_ne w109 (x_wo_ne w104 (x_wo_ne w99 (x_wo_ne w95 (x_wo_ne w90 (x_wo_ne w86 (x_wo_ne w81 (x_wo_ne w76 (x_wo_ne w69 (x_wo_ne w61 (x_wo_ne w53 (x_wo_ne w46 (x_wo_ne w37 (x_wo_ne w33 (x_wo_ne w26 (x_wo_ne w22 (x_wo_ne w16 (x_wo_ne w12 b173 (x_nb rfl)) (x_nb rfl)) (x_nb rfl)) (x_nb rfl)) (x_nb rfl)) (x_nb rfl)) (x_nb rfl)) (x_nb rfl)) (x_nb rfl)) (x_nb rfl)) (x_nb rfl)) (x_nb rfl)) (x_nb rfl)) (x_nb rfl)) (x_nb rfl)) (x_nb rfl)) (x_nb rfl)) (x_nb rfl)) (x_nb rfl)) (x_nb rfl)) (x_nb rfl)) (x_nb rfl)) (x_nb rfl)) (x_nb rfl)) (x_nb rfl)) (x_nb rfl)) (x_nb rfl)) (x_nb rfl)) (x_nb rfl)
      refine g_vcall (i := 81) (kd := 3) (j := 266) (np := 0) (ci := 8) (as := [.ref 186]) (rest := []) rfl rfl (Or.inl rfl) (Nat.le_of_ble_eq_true rfl) rfl rfl g174 rfl rfl ?_
      have b175 : x_arr (x_W fi fl fr) 187 = some (1, 12240, .inr (.inl (fl 187))) := rfl
      have g176 := x_wa_ne w169 (x_wa_ne w159 (x_wa_ne w155 (x_wa_ne w148 (x_wa_ne w144 (x_wa_ne w138 (x_wa_ne w134 (x_wa_ne w130 (x_wa_ne w126 (x_wa_ne w122 (x_wa_ne w116 (x_wa_ne w109 (x_wa_ne w104 (x_wa_ne w99 (x_wa_ne w95 (x_wa_ne w90 (x_wa_ne w86 (x_wa_ne w81 (x_wa_ne w76 (x_wa_ne w69 (x_wa_ne w61 (x_wa_ne w53 (x_wa_ne w46 (x_wa_ne w37 (x_wa_ne w33 (x_wa_ne w26 (x_wa_ne w22 (x_wa_ne w16 (x_wa_ne w12 b175 (x_nb rfl)) (x_nb rfl)) (x_nb rfl)) (x_nb rfl)) (x_nb rfl)) (x_nb rfl)) (x_nb rfl)) (x_nb rfl)) (x_nb rfl)) (x_nb rfl)) (x_nb rfl)) (x_nb rfl)) (x_nb rfl)) (x_nb rfl)) (x_nb rfl)) (x_nb rfl)) (x_nb rfl)) (x_nb rfl)) (x_nb rfl)) (x_nb rfl)) (x_nb rfl)) (x_nb rfl)) (x_nb rfl)) (x_nb rfl)) (x_nb rfl)) (x_nb rfl)) (x_nb rfl)) (x_nb rfl)) (x_nb rfl)
      refine x_wipeN (a := 186) (c := 187) (n := 12240) g174 g176 (by decide) (fun f177 S178 w179 => ?_)
      have s180 := x_wsA w179 g176 rfl s170
      have g181 := x_wa_at w179 g176
      refine g_n 1 (pc' := 54) (L' := [some (.ref 183)]) (st' := [.ref 183]) rfl ?_
      have g182 := x_wo_ne w179 g172 (x_nb rfl)
      refine g_get (i := 23) (kd := 1) (ci := 4) (k := 2) (tc := 3) (v := .ref 188) rfl rfl (Or.inl (by decide)) g182 rfl ?_
      have b183 : x_obj (x_W fi fl fr) 188 = some (8, [.ref 189, .int 30, .int 8, .int 5]) := rfl
      have g184 := x_wo_ne w179 (x_wo_ne w169 (x_wo_ne w159 (x_wo_ne w155 (x_wo_ne w148 (x_wo_ne w144 (x_wo_ne w138 (x_wo_ne w134 (x_wo_ne w130 (x_wo_ne w126 (x_wo_ne w122 (x_wo_ne w116 (x_wo_ne w109 (x_wo_ne w104 (x_wo_ne w99 (x_wo_ne w95 (x_wo_ne w90 (x_wo_ne w86 (x_wo_ne w81 (x_wo_ne w76 (x_wo_ne w69 (x_wo_ne w61 (x_wo_ne w53 (x_wo_ne w46 (x_wo_ne w37 (x_wo_ne w33 (x_wo_ne w26 (x_wo_ne w22 (x_wo_ne w16 (x_wo_ne w12 b183 (x_nb rfl)) (x_nb rfl)) (x_nb rfl)) (x_nb rfl)) (x_nb rfl)) (x_nb rfl)) (x_nb rfl)) (x_nb rfl)) (x_nb rfl)) (x_nb rfl)) (x_nb rfl)) (x_nb rfl)) (x_nb rfl)) (x_nb rfl)) (x_nb rfl)) (x_nb rfl)) (x_nb rfl)) (x_nb rfl)) (x_nb rfl)) (x_nb rfl)) (x_nb rfl)) (x_nb rfl)) (x_nb rfl)) (x_nb rfl)) (x_nb rfl)) (x_nb rfl)) (x_nb rfl)) (x_nb rfl)) (x_nb rfl)) (x_nb rfl)
      refine g_vcall (i := 81) (kd := 3) (j := 266) (np := 0) (ci := 8) (as := [.ref 188]) (rest := []) rfl rfl (Or.inl rfl) (Nat.le_of_ble_eq_true rfl) rfl rfl g184 rfl rfl ?_
      have b185 : x_arr (x_W fi fl fr) 189 = some (1, 1200, .inr (.inl (fl 189))) := rfl
      have g186 := x_wa_ne w179 (x_wa_ne w169 (x_wa_ne w159 (x_wa_ne w155 (x_wa_ne w148 (x_wa_ne w144 (x_wa_ne w138 (x_wa_ne w134 (x_wa_ne w130 (x_wa_ne w126 (x_wa_ne w122 (x_wa_ne w116 (x_wa_ne w109 (x_wa_ne w104 (x_wa_ne w99 (x_wa_ne w95 (x_wa_ne w90 (x_wa_ne w86 (x_wa_ne w81 (x_wa_ne w76 (x_wa_ne w69 (x_wa_ne w61 (x_wa_ne w53 (x_wa_ne w46 (x_wa_ne w37 (x_wa_ne w33 (x_wa_ne w26 (x_wa_ne w22 (x_wa_ne w16 (x_wa_ne w12 b185 (x_nb rfl)) (x_nb rfl)) (x_nb rfl)) (x_nb rfl)) (x_nb rfl)) (x_nb rfl)) (x_nb rfl)) (x_nb rfl)) (x_nb rfl)) (x_nb rfl)) (x_nb rfl)) (x_nb rfl)) (x_nb rfl)) (x_nb rfl)) (x_nb rfl)) (x_nb rfl)) (x_nb rfl)) (x_nb rfl)) (x_nb rfl)) (x_nb rfl)) (x_nb rfl)) (x_nb rfl)) (x_nb rfl)) (x_nb rfl)) (x_nb rfl)) (x_nb rfl)) (x_nb rfl)) (x_nb rfl)) (x_nb rfl)) (x_nb rfl)
      refine x_wipeN (a := 188) (c := 189) (n := 1200) g184 g186 (by decide) (fun f187 S188 w189 => ?_)
      have s190 := x_wsA w189 g186 rfl s180
      have g191 := x_wa_at w189 g186
      refine g_n 1 (pc' := 61) (L' := [some (.ref 183)]) (st' := [.ref 183]) rfl ?_
      have g192 := x_wo_ne w189 g182 (x_nb rfl)
      refine g_get (i := 26) (kd := 1) (ci := 4) (k := 3) (tc := 3) (v := .ref 190) rfl rfl (Or.inl (by decide)) g192 rfl ?_
      have b193 : x_obj (x_W fi fl fr) 190 = some (8, [.ref 191, .int 1, .int 4, .int 6]) := rfl
      have g194 := x_wo_ne w189 (x_wo_ne w179 (x_wo_ne w169 (x_wo_ne w159 (x_wo_ne w155 (x_wo_ne w148 (x_wo_ne w144 (x_wo_ne w138 (x_wo_ne w134 (x_wo_ne w130 (x_wo_ne w126 (x_wo_ne w122 (x_wo_ne w116 (x_wo_ne w109 (x_wo_ne w104 (x_wo_ne w99 (x_wo_ne w95 (x_wo_ne w90 (x_wo_ne w86 (x_wo_ne w81 (x_wo_ne w76 (x_wo_ne w69 (x_wo_ne w61 (x_wo_ne w53 (x_wo_ne w46 (x_wo_ne w37 (x_wo_ne w33 (x_wo_ne w26 (x_wo_ne w22 (x_wo_ne w16 (x_wo_ne w12 b193 (x_nb rfl)) (x_nb rfl)) (x_nb rfl)) (x_nb rfl)) (x_nb rfl)) (x_nb rfl)) (x_nb rfl)) (x_nb rfl)) (x_nb rfl)) (x_nb rfl)) (x_nb rfl)) (x_nb rfl)) (x_nb rfl)) (x_nb rfl)) (x_nb rfl)) (x_nb rfl)) (x_nb rfl)) (x_nb rfl)) (x_nb rfl)) (x_nb rfl)) (x_nb rfl)) (x_nb rfl)) (x_nb rfl)) (x_nb rfl)) (x_nb rfl)) (x_nb rfl)) (x_nb rfl)) (x_nb rfl)) (x_nb rfl)) (x_nb rfl)) (x_nb rfl)
      refine g_vcall (i := 81) (kd := 3) (j := 266) (np := 0) (ci := 8) (as := [.ref 190]) (rest := []) rfl rfl (Or.inl rfl) (Nat.le_of_ble_eq_true rfl) rfl rfl g194 rfl rfl ?_
      have b195 : x_arr (x_W fi fl fr) 191 = some (1, 24, .inr (.inl (fl 191))) := rfl
      have g196 := x_wa_ne w189 (x_wa_ne w179 (x_wa_ne w169 (x_wa_ne w159 (x_wa_ne w155 (x_wa_ne w148 (x_wa_ne w144 (x_wa_ne w138 (x_wa_ne w134 (x_wa_ne w130 (x_wa_ne w126 (x_wa_ne w122 (x_wa_ne w116 (x_wa_ne w109 (x_wa_ne w104 (x_wa_ne w99 (x_wa_ne w95 (x_wa_ne w90 (x_wa_ne w86 (x_wa_ne w81 (x_wa_ne w76 (x_wa_ne w69 (x_wa_ne w61 (x_wa_ne w53 (x_wa_ne w46 (x_wa_ne w37 (x_wa_ne w33 (x_wa_ne w26 (x_wa_ne w22 (x_wa_ne w16 (x_wa_ne w12 b195 (x_nb rfl)) (x_nb rfl)) (x_nb rfl)) (x_nb rfl)) (x_nb rfl)) (x_nb rfl)) (x_nb rfl)) (x_nb rfl)) (x_nb rfl)) (x_nb rfl)) (x_nb rfl)) (x_nb rfl)) (x_nb rfl)) (x_nb rfl)) (x_nb rfl)) (x_nb rfl)) (x_nb rfl)) (x_nb rfl)) (x_nb rfl)) (x_nb rfl)) (x_nb rfl)) (x_nb rfl)) (x_nb rfl)) (x_nb rfl)) (x_nb rfl)) (x_nb rfl)) (x_nb rfl)) (x_nb rfl)) (x_nb rfl)) (x_nb rfl)) (x_nb rfl)
      refine x_wipeN (a := 190) (c := 191) (n := 24) g194 g196 (by decide) (fun f197 S198 w199 => ?_)
      have s200 := x_wsA w199 g196 rfl s190
      have g201 := x_wa_at w199 g196
      refine g_n 1 (pc' := 68) (L' := [some (.ref 183)]) (st' := [.ref 183]) rfl ?_
      have g202 := x_wo_ne w199 g192 (x_nb rfl)
      refine g_get (i := 29) (kd := 1) (ci := 4) (k := 4) (tc := 3) (v := .ref 192) rfl rfl (Or.inl (by decide)) g202 rfl ?_
      have b203 : x_obj (x_W fi fl fr) 192 = some (8, [.ref 193, .int 4, .int 10, .int 8]) := rfl
      have g204 := x_wo_ne w199 (x_wo_ne w189 (x_wo_ne w179 (x_wo_ne w169 (x_wo_ne w159 (x_wo_ne w155 (x_wo_ne w148 (x_wo_ne w144 (x_wo_ne w138 (x_wo_ne w134 (x_wo_ne w130 (x_wo_ne w126 (x_wo_ne w122 (x_wo_ne w116 (x_wo_ne w109 (x_wo_ne w104 (x_wo_ne w99 (x_wo_ne w95 (x_wo_ne w90 (x_wo_ne w86 (x_wo_ne w81 (x_wo_ne w76 (x_wo_ne w69 (x_wo_ne w61 (x_wo_ne w53 (x_wo_ne w46 (x_wo_ne w37 (x_wo_ne w33 (x_wo_ne w26 (x_wo_ne w22 (x_wo_ne w16 (x_wo_ne w12 b203 (x_nb rfl)) (x_nb rfl)) (x_nb rfl)) (x_nb rfl)) (x_nb rfl)) (x_nb rfl)) (x_nb rfl)) (x_nb rfl)) (x_nb rfl)) (x_nb rfl)) (x_nb rfl)) (x_nb rfl)) (x_nb rfl)) (x_nb rfl)) (x_nb rfl)) (x_nb rfl)) (x_nb rfl)) (x_nb rfl)) (x_nb rfl)) (x_nb rfl)) (x_nb rfl)) (x_nb rfl)) (x_nb rfl)) (x_nb rfl)) (x_nb rfl)) (x_nb rfl)) (x_nb rfl)) (x_nb rfl)) (x_nb rfl)) (x_nb rfl)) (x_nb rfl)) (x_nb rfl)
      refine g_vcall (i := 81) (kd := 3) (j := 266) (np := 0) (ci := 8) (as := [.ref 192]) (rest := []) rfl rfl (Or.inl rfl) (Nat.le_of_ble_eq_true rfl) rfl rfl g204 rfl rfl ?_
      have b205 : x_arr (x_W fi fl fr) 193 = some (1, 320, .inr (.inl (fl 193))) := rfl
      have g206 := x_wa_ne w199 (x_wa_ne w189 (x_wa_ne w179 (x_wa_ne w169 (x_wa_ne w159 (x_wa_ne w155 (x_wa_ne w148 (x_wa_ne w144 (x_wa_ne w138 (x_wa_ne w134 (x_wa_ne w130 (x_wa_ne w126 (x_wa_ne w122 (x_wa_ne w116 (x_wa_ne w109 (x_wa_ne w104 (x_wa_ne w99 (x_wa_ne w95 (x_wa_ne w90 (x_wa_ne w86 (x_wa_ne w81 (x_wa_ne w76 (x_wa_ne w69 (x_wa_ne w61 (x_wa_ne w53 (x_wa_ne w46 (x_wa_ne w37 (x_wa_ne w33 (x_wa_ne w26 (x_wa_ne w22 (x_wa_ne w16 (x_wa_ne w12 b205 (x_nb rfl)) (x_nb rfl)) (x_nb rfl)) (x_nb rfl)) (x_nb rfl)) (x_nb rfl)) (x_nb rfl)) (x_nb rfl)) (x_nb rfl)) (x_nb rfl)) (x_nb rfl)) (x_nb rfl)) (x_nb rfl)) (x_nb rfl)) (x_nb rfl)) (x_nb rfl)) (x_nb rfl)) (x_nb rfl)) (x_nb rfl)) (x_nb rfl)) (x_nb rfl)) (x_nb rfl)) (x_nb rfl)) (x_nb rfl)) (x_nb rfl)) (x_nb rfl)) (x_nb rfl)) (x_nb rfl)) (x_nb rfl)) (x_nb rfl)) (x_nb rfl)) (x_nb rfl)
      refine x_wipeN (a := 192) (c := 193) (n := 320) g204 g206 (by decide) (fun f207 S208 w209 => ?_)
      have s210 := x_wsA w209 g206 rfl s200
      have g211 := x_wa_at w209 g206
      refine g_n 1 (pc' := 75) (L' := [some (.ref 183)]) (st' := [.ref 183]) rfl ?_
      have g212 := x_wo_ne w209 g202 (x_nb rfl)
      refine g_get (i := 32) (kd := 1) (ci := 4) (k := 5) (tc := 3) (v := .ref 194) rfl rfl (Or.inl (by decide)) g212 rfl ?_
      have b213 : x_obj (x_W fi fl fr) 194 = some (8, [.ref 195, .int 4, .int 8, .int 2]) := rfl
      have g214 := x_wo_ne w209 (x_wo_ne w199 (x_wo_ne w189 (x_wo_ne w179 (x_wo_ne w169 (x_wo_ne w159 (x_wo_ne w155 (x_wo_ne w148 (x_wo_ne w144 (x_wo_ne w138 (x_wo_ne w134 (x_wo_ne w130 (x_wo_ne w126 (x_wo_ne w122 (x_wo_ne w116 (x_wo_ne w109 (x_wo_ne w104 (x_wo_ne w99 (x_wo_ne w95 (x_wo_ne w90 (x_wo_ne w86 (x_wo_ne w81 (x_wo_ne w76 (x_wo_ne w69 (x_wo_ne w61 (x_wo_ne w53 (x_wo_ne w46 (x_wo_ne w37 (x_wo_ne w33 (x_wo_ne w26 (x_wo_ne w22 (x_wo_ne w16 (x_wo_ne w12 b213 (x_nb rfl)) (x_nb rfl)) (x_nb rfl)) (x_nb rfl)) (x_nb rfl)) (x_nb rfl)) (x_nb rfl)) (x_nb rfl)) (x_nb rfl)) (x_nb rfl)) (x_nb rfl)) (x_nb rfl)) (x_nb rfl)) (x_nb rfl)) (x_nb rfl)) (x_nb rfl)) (x_nb rfl)) (x_nb rfl)) (x_nb rfl)) (x_nb rfl)) (x_nb rfl)) (x_nb rfl)) (x_nb rfl)) (x_nb rfl)) (x_nb rfl)) (x_nb rfl)) (x_nb rfl)) (x_nb rfl)) (x_nb rfl)) (x_nb rfl)) (x_nb rfl)) (x_nb rfl)) (x_nb rfl)
      refine g_vcall (i := 81) (kd := 3) (j := 266) (np := 0) (ci := 8) (as := [.ref 194]) (rest := []) rfl rfl (Or.inl rfl) (Nat.le_of_ble_eq_true rfl) rfl rfl g214 rfl rfl ?_
      have b215 : x_arr (x_W fi fl fr) 195 = some (1, 64, .inr (.inl (fl 195))) := rfl
      have g216 := x_wa_ne w209 (x_wa_ne w199 (x_wa_ne w189 (x_wa_ne w179 (x_wa_ne w169 (x_wa_ne w159 (x_wa_ne w155 (x_wa_ne w148 (x_wa_ne w144 (x_wa_ne w138 (x_wa_ne w134 (x_wa_ne w130 (x_wa_ne w126 (x_wa_ne w122 (x_wa_ne w116 (x_wa_ne w109 (x_wa_ne w104 (x_wa_ne w99 (x_wa_ne w95 (x_wa_ne w90 (x_wa_ne w86 (x_wa_ne w81 (x_wa_ne w76 (x_wa_ne w69 (x_wa_ne w61 (x_wa_ne w53 (x_wa_ne w46 (x_wa_ne w37 (x_wa_ne w33 (x_wa_ne w26 (x_wa_ne w22 (x_wa_ne w16 (x_wa_ne w12 b215 (x_nb rfl)) (x_nb rfl)) (x_nb rfl)) (x_nb rfl)) (x_nb rfl)) (x_nb rfl)) (x_nb rfl)) (x_nb rfl)) (x_nb rfl)) (x_nb rfl)) (x_nb rfl)) (x_nb rfl)) (x_nb rfl)) (x_nb rfl)) (x_nb rfl)) (x_nb rfl)) (x_nb rfl)) (x_nb rfl)) (x_nb rfl)) (x_nb rfl)) (x_nb rfl)) (x_nb rfl)) (x_nb rfl)) (x_nb rfl)) (x_nb rfl)) (x_nb rfl)) (x_nb rfl)) (x_nb rfl)) (x_nb rfl)) (x_nb rfl)) (x_nb rfl)) (x_nb rfl)) (x_nb rfl)
      refine x_wipeN (a := 194) (c := 195) (n := 64) g214 g216 (by decide) (fun f217 S218 w219 => ?_)
      have s220 := x_wsA w219 g216 rfl s210
      have g221 := x_wa_at w219 g216
      refine g_ret (ins := .return_) (len := 1) (r := none) rfl rfl rfl ?_
      refine g_n 2 (pc' := 14) (L' := [some (.ref 224), some (.ref 183), none]) (st' := [.int 0, .ref 224]) rfl ?_
      have g222 := x_wo_ne w219 (x_wo_ne w209 (x_wo_ne w199 (x_wo_ne w189 (x_wo_ne w179 (x_wo_ne w169 (x_wo_ne w159 (x_wo_ne w155 (x_wo_ne w148 (x_wo_ne w144 (x_wo_ne w138 (x_wo_ne w134 (x_wo_ne w130 (x_wo_ne w126 (x_wo_ne w122 g118 (x_nb rfl)) (x_nb rfl)) (x_nb rfl)) (x_nb rfl)) (x_nb rfl)) (x_nb rfl)) (x_nb rfl)) (x_nb rfl)) (x_nb rfl)) (x_nb rfl)) (x_nb rfl)) (x_nb rfl)) (x_nb rfl)) (x_nb rfl)) (x_nb rfl)
      refine g_putN (i := 45) (kd := 0) (ci := 5) (k := 2) (tc := 0) (fs' := [.ref 211, .ref 183, .int 0, .int 0, .int 0, .int 0, .ref 225, .ref 227, .ref 229, .ref 231, .ref 233, .int 0]) rfl rfl (Or.inl rfl) g222 (x_ltL rfl rfl) rfl rfl (fun S223 w224 => ?_)
      have s225 := x_wsO w224 g222 rfl s220
      have g226 := x_wo_at w224 g222
      refine g_n 2 (pc' := 19) (L' := [some (.ref 224), some (.ref 183), none]) (st' := [.int 0, .ref 224]) rfl ?_
      refine g_putN (i := 49) (kd := 0) (ci := 5) (k := 3) (tc := 0) (fs' := [.ref 211, .ref 183, .int 0, .int 0, .int 0, .int 0, .ref 225, .ref 227, .ref 229, .ref 231, .ref 233, .int 0]) rfl rfl (Or.inl rfl) g226 (x_ltL rfl rfl) rfl rfl (fun S227 w228 => ?_)
      have s229 := x_wsO w228 g226 rfl s225
      have g230 := x_wo_at w228 g226
      refine g_n 2 (pc' := 24) (L' := [some (.ref 224), some (.ref 183), none]) (st' := [.int 0, .ref 224]) rfl ?_
      refine g_putN (i := 52) (kd := 0) (ci := 5) (k := 4) (tc := 0) (fs' := [.ref 211, .ref 183, .int 0, .int 0, .int 0, .int 0, .ref 225, .ref 227, .ref 229, .ref 231, .ref 233, .int 0]) rfl rfl (Or.inl rfl) g230 (x_ltL rfl rfl) rfl rfl (fun S231 w232 => ?_)
      have s233 := x_wsO w232 g230 rfl s229
      have g234 := x_wo_at w232 g230
      refine g_n 2 (pc' := 29) (L' := [some (.ref 224), some (.ref 183), none]) (st' := [.int 0, .ref 224]) rfl ?_
      refine g_putN (i := 55) (kd := 0) (ci := 5) (k := 5) (tc := 0) (fs' := [.ref 211, .ref 183, .int 0, .int 0, .int 0, .int 0, .ref 225, .ref 227, .ref 229, .ref 231, .ref 233, .int 0]) rfl rfl (Or.inl rfl) g234 (x_ltL rfl rfl) rfl rfl (fun S235 w236 => ?_)
      have s237 := x_wsO w236 g234 rfl s233
      have g238 := x_wo_at w236 g234
      refine g_n 1 (pc' := 33) (L' := [some (.ref 224), some (.ref 183), none]) (st' := [.ref 224]) rfl ?_
      refine g_get (i := 16) (kd := 1) (ci := 5) (k := 6) (tc := 3) (v := .ref 225) rfl rfl (Or.inl (by decide)) g238 rfl ?_
      have b239 : x_obj (x_W fi fl fr) 225 = some (8, [.ref 226, .int 1, .int 2001, .int 1]) := rfl
      have g240 := x_wo_ne w236 (x_wo_ne w232 (x_wo_ne w228 (x_wo_ne w224 (x_wo_ne w219 (x_wo_ne w209 (x_wo_ne w199 (x_wo_ne w189 (x_wo_ne w179 (x_wo_ne w169 (x_wo_ne w159 (x_wo_ne w155 (x_wo_ne w148 (x_wo_ne w144 (x_wo_ne w138 (x_wo_ne w134 (x_wo_ne w130 (x_wo_ne w126 (x_wo_ne w122 (x_wo_ne w116 (x_wo_ne w109 (x_wo_ne w104 (x_wo_ne w99 (x_wo_ne w95 (x_wo_ne w90 (x_wo_ne w86 (x_wo_ne w81 (x_wo_ne w76 (x_wo_ne w69 (x_wo_ne w61 (x_wo_ne w53 (x_wo_ne w46 (x_wo_ne w37 (x_wo_ne w33 (x_wo_ne w26 (x_wo_ne w22 (x_wo_ne w16 (x_wo_ne w12 b239 (x_nb rfl)) (x_nb rfl)) (x_nb rfl)) (x_nb rfl)) (x_nb rfl)) (x_nb rfl)) (x_nb rfl)) (x_nb rfl)) (x_nb rfl)) (x_nb rfl)) (x_nb rfl)) (x_nb rfl)) (x_nb rfl)) (x_nb rfl)) (x_nb rfl)) (x_nb rfl)) (x_nb rfl)) (x_nb rfl)) (x_nb rfl)) (x_nb rfl)) (x_nb rfl)) (x_nb rfl)) (x_nb rfl)) (x_nb rfl)) (x_nb rfl)) (x_nb rfl)) (x_nb rfl)) (x_nb rfl)) (x_nb rfl)) (x_nb rfl)) (x_nb rfl)) (x_nb rfl)) (x_nb rfl)) (x_nb rfl)) (x_nb rfl)) (x_nb rfl)) (x_nb rfl)) (x_nb rfl)
      refine g_vcall (i := 58) (kd := 3) (j := 266) (np := 0) (ci := 8) (as := [.ref 225]) (rest := []) rfl rfl (Or.inl rfl) (Nat.le_of_ble_eq_true rfl) rfl rfl g240 rfl rfl ?_
      have b241 : x_arr (x_W fi fl fr) 226 = some (1, 2001, .inr (.inl (fl 226))) := rfl
      have g242 := x_wa_ne w236 (x_wa_ne w232 (x_wa_ne w228 (x_wa_ne w224 (x_wa_ne w219 (x_wa_ne w209 (x_wa_ne w199 (x_wa_ne w189 (x_wa_ne w179 (x_wa_ne w169 (x_wa_ne w159 (x_wa_ne w155 (x_wa_ne w148 (x_wa_ne w144 (x_wa_ne w138 (x_wa_ne w134 (x_wa_ne w130 (x_wa_ne w126 (x_wa_ne w122 (x_wa_ne w116 (x_wa_ne w109 (x_wa_ne w104 (x_wa_ne w99 (x_wa_ne w95 (x_wa_ne w90 (x_wa_ne w86 (x_wa_ne w81 (x_wa_ne w76 (x_wa_ne w69 (x_wa_ne w61 (x_wa_ne w53 (x_wa_ne w46 (x_wa_ne w37 (x_wa_ne w33 (x_wa_ne w26 (x_wa_ne w22 (x_wa_ne w16 (x_wa_ne w12 b241 (x_nb rfl)) (x_nb rfl)) (x_nb rfl)) (x_nb rfl)) (x_nb rfl)) (x_nb rfl)) (x_nb rfl)) (x_nb rfl)) (x_nb rfl)) (x_nb rfl)) (x_nb rfl)) (x_nb rfl)) (x_nb rfl)) (x_nb rfl)) (x_nb rfl)) (x_nb rfl)) (x_nb rfl)) (x_nb rfl)) (x_nb rfl)) (x_nb rfl)) (x_nb rfl)) (x_nb rfl)) (x_nb rfl)) (x_nb rfl)) (x_nb rfl)) (x_nb rfl)) (x_nb rfl)) (x_nb rfl)) (x_nb rfl)) (x_nb rfl)) (x_nb rfl)) (x_nb rfl)) (x_nb rfl)) (x_nb rfl)) (x_nb rfl)) (x_nb rfl)) (x_nb rfl)) (x_nb rfl)
      refine x_wipeN (a := 225) (c := 226) (n := 2001) g240 g242 (by decide) (fun f243 S244 w245 => ?_)
      have s246 := x_wsA w245 g242 rfl s237
      have g247 := x_wa_at w245 g242
      refine g_n 1 (pc' := 40) (L' := [some (.ref 224), some (.ref 183), none]) (st' := [.ref 224]) rfl ?_
      have g248 := x_wo_ne w245 g238 (x_nb rfl)
      refine g_get (i := 38) (kd := 0) (ci := 5) (k := 1) (tc := 3) (v := .ref 183) rfl rfl (Or.inl (by decide)) g248 rfl ?_
      have g249 := x_wo_ne w245 (x_wo_ne w236 (x_wo_ne w232 (x_wo_ne w228 (x_wo_ne w224 (x_wo_ne w219 g212 (x_nb rfl)) (x_nb rfl)) (x_nb rfl)) (x_nb rfl)) (x_nb rfl)) (x_nb rfl)
      refine g_get (i := 61) (kd := 16) (ci := 4) (k := 8) (tc := 3) (v := .ref 200) rfl rfl (Or.inr rfl) g249 rfl ?_
      refine g_n 1 (pc' := 47) (L' := [some (.ref 224), some (.ref 183), none]) (st' := [.ref 224, .ref 200]) rfl ?_
      refine g_get (i := 34) (kd := 1) (ci := 5) (k := 0) (tc := 3) (v := .ref 211) rfl rfl (Or.inl (by decide)) g248 rfl ?_
      have g250 := x_wo_ne w245 (x_wo_ne w236 (x_wo_ne w232 (x_wo_ne w228 (x_wo_ne w224 (x_wo_ne w219 (x_wo_ne w209 (x_wo_ne w199 (x_wo_ne w189 (x_wo_ne w179 (x_wo_ne w169 (x_wo_ne w159 (x_wo_ne w155 (x_wo_ne w148 (x_wo_ne w144 (x_wo_ne w138 (x_wo_ne w134 (x_wo_ne w130 (x_wo_ne w126 (x_wo_ne w122 (x_wo_ne w116 g111 (x_nb rfl)) (x_nb rfl)) (x_nb rfl)) (x_nb rfl)) (x_nb rfl)) (x_nb rfl)) (x_nb rfl)) (x_nb rfl)) (x_nb rfl)) (x_nb rfl)) (x_nb rfl)) (x_nb rfl)) (x_nb rfl)) (x_nb rfl)) (x_nb rfl)) (x_nb rfl)) (x_nb rfl)) (x_nb rfl)) (x_nb rfl)) (x_nb rfl)) (x_nb rfl)
      refine g_get (i := 65) (kd := 16) (ci := 2) (k := 8) (tc := 3) (v := .ref 220) rfl rfl (Or.inr rfl) g250 rfl ?_
      have g251 := x_wo_ne w245 (x_wo_ne w236 (x_wo_ne w232 (x_wo_ne w228 (x_wo_ne w224 (x_wo_ne w219 (x_wo_ne w209 (x_wo_ne w199 (x_wo_ne w189 (x_wo_ne w179 (x_wo_ne w169 (x_wo_ne w159 (x_wo_ne w155 g150 (x_nb rfl)) (x_nb rfl)) (x_nb rfl)) (x_nb rfl)) (x_nb rfl)) (x_nb rfl)) (x_nb rfl)) (x_nb rfl)) (x_nb rfl)) (x_nb rfl)) (x_nb rfl)) (x_nb rfl)) (x_nb rfl)
      refine g_vcall (i := 70) (kd := 3) (j := 7) (np := 1) (ci := 0) (as := [.ref 200, .ref 220]) (rest := []) rfl rfl (Or.inl rfl) (Nat.le_of_ble_eq_true rfl) rfl rfl g251 rfl rfl ?_
      refine g_in (M := x_M7) (L := [some (.ref 200), some (.ref 220)]) x_pl7 rfl ?_
      refine g_n 1 (pc' := 1) (L' := [some (.ref 200), some (.ref 220)]) (st' := [.ref 200]) rfl ?_
      refine g_vcall (i := 26) (kd := 3) (j := 2) (np := 0) (ci := 0) (as := [.ref 200]) (rest := []) rfl rfl (Or.inl rfl) (Nat.le_of_ble_eq_true rfl) rfl rfl g251 rfl rfl ?_
      refine g_in (M := x_M2) (L := [some (.ref 200)]) x_pl2 rfl ?_
      refine g_n 2 (pc' := 2) (L' := [some (.ref 200)]) (st' := [.int 0, .ref 200]) rfl ?_
      refine g_putN (i := 19) (kd := 0) (ci := 0) (k := 1) (tc := 0) (fs' := [.ref 201, .int 0, .int 0]) rfl rfl (Or.inl rfl) g251 (x_ltL rfl rfl) rfl rfl (fun S252 w253 => ?_)
      have s254 := x_wsO w253 g251 rfl s246
      have g255 := x_wo_at w253 g251
      refine g_n 2 (pc' := 7) (L' := [some (.ref 200)]) (st' := [.int 0, .ref 200]) rfl ?_
      refine g_putN (i := 23) (kd := 0) (ci := 0) (k := 2) (tc := 0) (fs' := [.ref 201, .int 0, .int 0]) rfl rfl (Or.inl rfl) g255 (x_ltL rfl rfl) rfl rfl (fun S256 w257 => ?_)
      have s258 := x_wsO w257 g255 rfl s254
      have g259 := x_wo_at w257 g255
      refine g_ret (ins := .return_) (len := 1) (r := none) rfl rfl rfl ?_
      refine g_n 4 (pc' := 8) (L' := [some (.ref 200), some (.ref 220)]) (st' := [.ref 220, .int 0, .ref 220, .ref 200]) rfl ?_
      have g260 := x_wo_ne w257 (x_wo_ne w253 (x_wo_ne w245 (x_wo_ne w236 (x_wo_ne w232 (x_wo_ne w228 (x_wo_ne w224 (x_wo_ne w219 (x_wo_ne w209 (x_wo_ne w199 (x_wo_ne w189 (x_wo_ne w179 (x_wo_ne w169 (x_wo_ne w159 (x_wo_ne w155 (x_wo_ne w148 (x_wo_ne w144 (x_wo_ne w138 (x_wo_ne w134 (x_wo_ne w130 (x_wo_ne w126 (x_wo_ne w122 (x_wo_ne w116 (x_wo_ne w109 (x_wo_ne w104 (x_wo_ne w99 (x_wo_ne w95 (x_wo_ne w90 (x_wo_ne w86 (x_wo_ne w81 (x_wo_ne w76 (x_wo_ne w69 g65 (x_nb rfl)) (x_nb rfl)) (x_nb rfl)) (x_nb rfl)) (x_nb rfl)) (x_nb rfl)) (x_nb rfl)) (x_nb rfl)) (x_nb rfl)) (x_nb rfl)) (x_nb rfl)) (x_nb rfl)) (x_nb rfl)) (x_nb rfl)) (x_nb rfl)) (x_nb rfl)) (x_nb rfl)) (x_nb rfl)) (x_nb rfl)) (x_nb rfl)) (x_nb rfl)) (x_nb rfl)) (x_nb rfl)) (x_nb rfl)) (x_nb rfl)) (x_nb rfl)) (x_nb rfl)) (x_nb rfl)) (x_nb rfl)) (x_nb rfl)) (x_nb rfl)) (x_nb rfl)
      refine g_get (i := 19) (kd := 0) (ci := 0) (k := 1) (tc := 0) (v := .int 0) rfl rfl (Or.inl (by decide)) g260 rfl ?_
      refine g_vcall (i := 29) (kd := 3) (j := 6) (np := 3) (ci := 0) (as := [.ref 200, .ref 220, .int 0, .int 0]) (rest := []) rfl rfl (Or.inl rfl) (Nat.le_of_ble_eq_true rfl) rfl rfl g259 rfl rfl ?_
      refine g_in (M := x_M6) (L := [some (.ref 200), some (.ref 220), some (.int 0), some (.int 0), none, none]) x_pl6 rfl ?_
      refine g_n 7 (pc' := 115) (L' := [some (.ref 200), some (.ref 220), some (.int 0), some (.int 0), some (.int 0), none]) (st' := []) rfl ?_
      refine g_ret (ins := .return_) (len := 1) (r := none) rfl rfl rfl ?_
      refine g_ret (ins := .return_) (len := 1) (r := none) rfl rfl rfl ?_
      refine g_n 6 (pc' := 65) (L' := [some (.ref 224), some (.ref 183), some (.int 0)]) (st' := [.ref 224]) rfl ?_
      have g261 := x_wo_ne w257 (x_wo_ne w253 g248 (x_nb rfl)) (x_nb rfl)
      refine g_get (i := 45) (kd := 0) (ci := 5) (k := 2) (tc := 0) (v := .int 0) rfl rfl (Or.inl (by decide)) g261 rfl ?_
      refine g_n 2 (pc' := 72) (L' := [some (.ref 224), some (.ref 183), some (.int 0)]) (st' := [.ref 224]) rfl ?_
      refine g_get (i := 34) (kd := 1) (ci := 5) (k := 0) (tc := 3) (v := .ref 211) rfl rfl (Or.inl (by decide)) g261 rfl ?_
      have g262 := x_wo_ne w257 (x_wo_ne w253 g250 (x_nb rfl)) (x_nb rfl)
      refine g_get (i := 77) (kd := 0) (ci := 2) (k := 13) (tc := 0) (v := .int 0) rfl rfl (Or.inl (by decide)) g262 rfl ?_
      refine g_n 2 (pc' := 163) (L' := [some (.ref 224), some (.ref 183), some (.int 0)]) (st' := [.ref 224]) rfl ?_
      refine g_get (i := 45) (kd := 0) (ci := 5) (k := 2) (tc := 0) (v := .int 0) rfl rfl (Or.inl (by decide)) g261 rfl ?_
      refine g_n 2 (pc' := 170) (L' := [some (.ref 224), some (.ref 183), some (.int 0)]) (st' := [.ref 224]) rfl ?_
      refine g_vcall (i := 90) (kd := 3) (j := 169) (np := 0) (ci := 5) (as := [.ref 224]) (rest := []) rfl rfl (Or.inl rfl) (Nat.le_of_ble_eq_true rfl) rfl rfl g261 rfl rfl ?_
      refine g_in (M := x_M169) (L := [some (.ref 224), none, none]) x_pl169 rfl ?_
      refine g_n 4 (pc' := 4) (L' := [some (.ref 224), some (.int 0), none]) (st' := [.ref 224, .int 0]) rfl ?_
      refine g_get (i := 38) (kd := 0) (ci := 5) (k := 1) (tc := 3) (v := .ref 183) rfl rfl (Or.inl (by decide)) g261 rfl ?_
      have g263 := x_wo_ne w257 (x_wo_ne w253 g249 (x_nb rfl)) (x_nb rfl)
      refine g_get (i := 96) (kd := 0) (ci := 4) (k := 12) (tc := 0) (v := .int 0) rfl rfl (Or.inl (by decide)) g263 rfl ?_
      refine g_n 5 (pc' := 60) (L' := [some (.ref 224), some (.int 0), none]) (st' := [.ref 224, .int 0]) rfl ?_
      refine g_get (i := 38) (kd := 0) (ci := 5) (k := 1) (tc := 3) (v := .ref 183) rfl rfl (Or.inl (by decide)) g261 rfl ?_
      refine g_get (i := 96) (kd := 0) (ci := 4) (k := 12) (tc := 0) (v := .int 0) rfl rfl (Or.inl (by decide)) g263 rfl ?_
      refine g_n 1 (pc' := 112) (L' := [some (.ref 224), some (.int 0), none]) (st' := []) rfl ?_
      refine g_ret (ins := .return_) (len := 1) (r := none) rfl rfl rfl ?_
      refine g_n 1 (pc' := 174) (L' := [some (.ref 224), some (.ref 183), some (.int 0)]) (st' := [.ref 224]) rfl ?_
      refine g_vcall (i := 93) (kd := 3) (j := 174) (np := 0) (ci := 5) (as := [.ref 224]) (rest := []) rfl rfl (Or.inl rfl) (Nat.le_of_ble_eq_true rfl) rfl rfl g261 rfl rfl ?_
      refine g_in (M := x_M174) (L := [some (.ref 224), none, none, none, none, none, none]) x_pl174 rfl ?_
      refine g_n 4 (pc' := 4) (L' := [some (.ref 224), some (.int 0), none, none, none, none, none]) (st' := [.ref 224, .int 0]) rfl ?_
      refine g_get (i := 38) (kd := 0) (ci := 5) (k := 1) (tc := 3) (v := .ref 183) rfl rfl (Or.inl (by decide)) g261 rfl ?_
      refine g_get (i := 175) (kd := 0) (ci := 4) (k := 13) (tc := 0) (v := .int 0) rfl rfl (Or.inl (by decide)) g263 rfl ?_
      refine g_n 1 (pc' := 165) (L' := [some (.ref 224), some (.int 0), none, none, none, none, none]) (st' := []) rfl ?_
      refine g_ret (ins := .return_) (len := 1) (r := none) rfl rfl rfl ?_
      refine g_n 2 (pc' := 179) (L' := [some (.ref 224), some (.ref 183), some (.int 0)]) (st' := [.ref 224, .ref 224]) rfl ?_
      refine g_get (i := 52) (kd := 0) (ci := 5) (k := 4) (tc := 0) (v := .int 0) rfl rfl (Or.inl (by decide)) g261 rfl ?_
      refine g_putN (i := 45) (kd := 0) (ci := 5) (k := 2) (tc := 0) (fs' := [.ref 211, .ref 183, .int 0, .int 0, .int 0, .int 0, .ref 225, .ref 227, .ref 229, .ref 231, .ref 233, .int 0]) rfl rfl (Or.inl rfl) g261 (x_ltL rfl rfl) rfl rfl (fun S264 w265 => ?_)
      have s266 := x_wsO w265 g261 rfl s258
      have g267 := x_wo_at w265 g261
      refine g_n 2 (pc' := 187) (L' := [some (.ref 224), some (.ref 183), some (.int 0)]) (st' := [.ref 224, .ref 224]) rfl ?_
      refine g_get (i := 55) (kd := 0) (ci := 5) (k := 5) (tc := 0) (v := .int 0) rfl rfl (Or.inl (by decide)) g267 rfl ?_
      refine g_putN (i := 49) (kd := 0) (ci := 5) (k := 3) (tc := 0) (fs' := [.ref 211, .ref 183, .int 0, .int 0, .int 0, .int 0, .ref 225, .ref 227, .ref 229, .ref 231, .ref 233, .int 0]) rfl rfl (Or.inl rfl) g267 (x_ltL rfl rfl) rfl rfl (fun S268 w269 => ?_)
      have s270 := x_wsO w269 g267 rfl s266
      have g271 := x_wo_at w269 g267
      refine g_n 1 (pc' := 194) (L' := [some (.ref 224), some (.ref 183), some (.int 0)]) (st' := [.ref 224]) rfl ?_
      refine g_get (i := 45) (kd := 0) (ci := 5) (k := 2) (tc := 0) (v := .int 0) rfl rfl (Or.inl (by decide)) g271 rfl ?_
      refine g_n 5 (pc' := 204) (L' := [some (.ref 224), some (.ref 183), some (.int 0)]) (st' := [.ref 224, .int 0]) rfl ?_
      refine g_get (i := 38) (kd := 0) (ci := 5) (k := 1) (tc := 3) (v := .ref 183) rfl rfl (Or.inl (by decide)) g271 rfl ?_
      have g272 := x_wo_ne w269 (x_wo_ne w265 g263 (x_nb rfl)) (x_nb rfl)
      refine g_get (i := 96) (kd := 0) (ci := 4) (k := 12) (tc := 0) (v := .int 0) rfl rfl (Or.inl (by decide)) g272 rfl ?_
      refine g_n 2 (pc' := 247) (L' := [some (.ref 224), some (.ref 183), some (.int 0)]) (st' := [.ref 224]) rfl ?_
      refine g_get (i := 38) (kd := 0) (ci := 5) (k := 1) (tc := 3) (v := .ref 183) rfl rfl (Or.inl (by decide)) g271 rfl ?_
      refine g_n 1 (pc' := 251) (L' := [some (.ref 224), some (.ref 183), some (.int 0)]) (st' := [.int 1, .ref 183]) rfl ?_
      refine g_putN (i := 110) (kd := 0) (ci := 4) (k := 16) (tc := 2) (fs' := [.ref 184, .ref 186, .ref 188, .ref 190, .ref 192, .ref 194, .ref 196, .ref 198, .ref 200, .ref 202, .ref 204, .ref 205, .int 0, .int 0, .int 0, .int 0, .int 1]) rfl rfl (Or.inl rfl) g272 (x_ltL rfl rfl) rfl rfl (fun S273 w274 => ?_)
      have s275 := x_wsO w274 g272 rfl s270
      have g276 := x_wo_at w274 g272
      refine g_ret (ins := .return_) (len := 1) (r := none) rfl rfl rfl ?_
      refine g_n 1 (pc' := 32) (L' := [some (.ref 0), some (.int a), none, none]) (st' := [.ref 0]) rfl ?_
      have g277 := x_wo_ne w274 (x_wo_ne w269 (x_wo_ne w265 (x_wo_ne w257 (x_wo_ne w253 (x_wo_ne w245 (x_wo_ne w236 (x_wo_ne w232 (x_wo_ne w228 (x_wo_ne w224 (x_wo_ne w219 (x_wo_ne w209 (x_wo_ne w199 (x_wo_ne w189 (x_wo_ne w179 (x_wo_ne w169 (x_wo_ne w159 (x_wo_ne w155 (x_wo_ne w148 (x_wo_ne w144 (x_wo_ne w138 (x_wo_ne w134 (x_wo_ne w130 (x_wo_ne w126 (x_wo_ne w122 (x_wo_ne w116 g112 (x_nb rfl)) (x_nb rfl)) (x_nb rfl)) (x_nb rfl)) (x_nb rfl)) (x_nb rfl)) (x_nb rfl)) (x_nb rfl)) (x_nb rfl)) (x_nb rfl)) (x_nb rfl)) (x_nb rfl)) (x_nb rfl)) (x_nb rfl)) (x_nb rfl)) (x_nb rfl)) (x_nb rfl)) (x_nb rfl)) (x_nb rfl)) (x_nb rfl)) (x_nb rfl)) (x_nb rfl)) (x_nb rfl)) (x_nb rfl)) (x_nb rfl)) (x_nb rfl)
      refine g_get (i := 98) (kd := 1) (ci := 11) (k := 6) (tc := 3) (v := .ref 224) rfl rfl (Or.inl (by decide)) g277 rfl ?_
      have g278 := x_wo_ne w274 g271 (x_nb rfl)
      refine g_get (i := 183) (kd := 0) (ci := 5) (k := 2) (tc := 0) (v := .int 0) rfl rfl (Or.inl (by decide)) g278 rfl ?_
      refine g_n 3 (pc' := 66) (L' := [some (.ref 0), some (.int a), none, none]) (st' := [.int (-2), .ref 0]) rfl ?_
      refine g_putN (i := 66) (kd := 0) (ci := 11) (k := 16) (tc := 0) (fs' := [.ref 179, .ref 1, .ref 2, .ref 3, .ref 183, .ref 211, .ref 224, .ref 235, .ref 237, .ref 238, .ref 240, .ref 248, .ref 206, .ref 4, .ref 181, .ref 9, .int (-2), .int 0, .long 0]) rfl rfl (Or.inl rfl) g277 (x_ltL rfl rfl) rfl rfl (fun S279 w280 => ?_)
      have s281 := x_wsO w280 g277 rfl s275
      have g282 := x_wo_at w280 g277
      refine g_n 1 (pc' := 70) (L' := [some (.ref 0), some (.int a), none, none]) (st' := [.ref 0]) rfl ?_
      refine g_get (i := 42) (kd := 1) (ci := 11) (k := 2) (tc := 3) (v := .ref 2) rfl rfl (Or.inl (by decide)) g282 rfl ?_
      refine g_n 1 (pc' := 74) (L' := [some (.ref 0), some (.int a), none, none]) (st' := [.int a, .ref 2]) rfl ?_
      by_cases h283 : a = 0
      · have e284 : a = 0 := h283
        subst e284
        have b285 : x_arr (x_W fi fl fr) 2 = some (5, 4, .inr (.inr (.inr (.inr (fr 2))))) := rfl
        have g286 := x_wa_ne w280 (x_wa_ne w274 (x_wa_ne w269 (x_wa_ne w265 (x_wa_ne w257 (x_wa_ne w253 (x_wa_ne w245 (x_wa_ne w236 (x_wa_ne w232 (x_wa_ne w228 (x_wa_ne w224 (x_wa_ne w219 (x_wa_ne w209 (x_wa_ne w199 (x_wa_ne w189 (x_wa_ne w179 (x_wa_ne w169 (x_wa_ne w159 (x_wa_ne w155 (x_wa_ne w148 (x_wa_ne w144 (x_wa_ne w138 (x_wa_ne w134 (x_wa_ne w130 (x_wa_ne w126 (x_wa_ne w122 (x_wa_ne w116 (x_wa_ne w109 (x_wa_ne w104 (x_wa_ne w99 (x_wa_ne w95 (x_wa_ne w90 (x_wa_ne w86 (x_wa_ne w81 (x_wa_ne w76 (x_wa_ne w69 (x_wa_ne w61 (x_wa_ne w53 (x_wa_ne w46 (x_wa_ne w37 (x_wa_ne w33 (x_wa_ne w26 (x_wa_ne w22 (x_wa_ne w16 (x_wa_ne w12 b285 (x_nb rfl)) (x_nb rfl)) (x_nb rfl)) (x_nb rfl)) (x_nb rfl)) (x_nb rfl)) (x_nb rfl)) (x_nb rfl)) (x_nb rfl)) (x_nb rfl)) (x_nb rfl)) (x_nb rfl)) (x_nb rfl)) (x_nb rfl)) (x_nb rfl)) (x_nb rfl)) (x_nb rfl)) (x_nb rfl)) (x_nb rfl)) (x_nb rfl)) (x_nb rfl)) (x_nb rfl)) (x_nb rfl)) (x_nb rfl)) (x_nb rfl)) (x_nb rfl)) (x_nb rfl)) (x_nb rfl)) (x_nb rfl)) (x_nb rfl)) (x_nb rfl)) (x_nb rfl)) (x_nb rfl)) (x_nb rfl)) (x_nb rfl)) (x_nb rfl)) (x_nb rfl)) (x_nb rfl)) (x_nb rfl)) (x_nb rfl)) (x_nb rfl)) (x_nb rfl)) (x_nb rfl)) (x_nb rfl)) (x_nb rfl)
        refine g_aa (i := 0) (a := 2) (n := 4) (v := 27) rfl g286 (by decide) (x_at (x_f2 hF) (k := 0) rfl) ?_
        refine g_n 2 (pc' := 77) (L' := [some (.ref 0), some (.int 0), some (.ref 27), none]) (st' := [.ref 0]) rfl ?_
        refine g_get (i := 42) (kd := 1) (ci := 11) (k := 2) (tc := 3) (v := .ref 2) rfl rfl (Or.inl (by decide)) g282 rfl ?_
        refine g_n 2 (pc' := 82) (L' := [some (.ref 0), some (.int 0), some (.ref 27), none]) (st' := [.ref 0, .int 0, .ref 2]) rfl ?_
        refine g_get (i := 82) (kd := 0) (ci := 11) (k := 4) (tc := 3) (v := .ref 183) rfl rfl (Or.inl (by decide)) g282 rfl ?_
        have g289 := x_wo_ne w280 g276 (x_nb rfl)
        refine g_asN rfl g286 g289 (by decide) (fun S287 w288 => ?_)
        have s290 := x_wsA w288 g286 rfl s281
        have g291 := x_wa_at w288 g286
        refine g_n 2 (pc' := 88) (L' := [some (.ref 0), some (.int 0), some (.ref 27), none]) (st' := [.ref 27, .ref 0]) rfl ?_
        have g292 := x_wo_ne w288 g282 (x_nb rfl)
        refine g_putN (i := 82) (kd := 0) (ci := 11) (k := 4) (tc := 3) (fs' := [.ref 179, .ref 1, .ref 2, .ref 3, .ref 27, .ref 211, .ref 224, .ref 235, .ref 237, .ref 238, .ref 240, .ref 248, .ref 206, .ref 4, .ref 181, .ref 9, .int (-2), .int 0, .long 0]) rfl rfl (Or.inl rfl) g292 (x_ltL rfl rfl) rfl rfl (fun S293 w294 => ?_)
        have s295 := x_wsO w294 g292 rfl s290
        have g296 := x_wo_at w294 g292
        refine g_n 6 (pc' := 100) (L' := [some (.ref 0), some (.int 0), some (.ref 27), some (.int 0)]) (st' := [.ref 0]) rfl ?_
        refine g_get (i := 48) (kd := 1) (ci := 11) (k := 3) (tc := 3) (v := .ref 3) rfl rfl (Or.inl (by decide)) g296 rfl ?_
        refine g_n 1 (pc' := 104) (L' := [some (.ref 0), some (.int 0), some (.ref 27), some (.int 0)]) (st' := [.int 0, .ref 3]) rfl ?_
        have b297 : x_arr (x_W fi fl fr) 3 = some (6, 12, .inr (.inr (.inr (.inr (fr 3))))) := rfl
        have g298 := x_wa_ne w294 (x_wa_ne w288 (x_wa_ne w280 (x_wa_ne w274 (x_wa_ne w269 (x_wa_ne w265 (x_wa_ne w257 (x_wa_ne w253 (x_wa_ne w245 (x_wa_ne w236 (x_wa_ne w232 (x_wa_ne w228 (x_wa_ne w224 (x_wa_ne w219 (x_wa_ne w209 (x_wa_ne w199 (x_wa_ne w189 (x_wa_ne w179 (x_wa_ne w169 (x_wa_ne w159 (x_wa_ne w155 (x_wa_ne w148 (x_wa_ne w144 (x_wa_ne w138 (x_wa_ne w134 (x_wa_ne w130 (x_wa_ne w126 (x_wa_ne w122 (x_wa_ne w116 (x_wa_ne w109 (x_wa_ne w104 (x_wa_ne w99 (x_wa_ne w95 (x_wa_ne w90 (x_wa_ne w86 (x_wa_ne w81 (x_wa_ne w76 (x_wa_ne w69 (x_wa_ne w61 (x_wa_ne w53 (x_wa_ne w46 (x_wa_ne w37 (x_wa_ne w33 (x_wa_ne w26 (x_wa_ne w22 (x_wa_ne w16 (x_wa_ne w12 b297 (x_nb rfl)) (x_nb rfl)) (x_nb rfl)) (x_nb rfl)) (x_nb rfl)) (x_nb rfl)) (x_nb rfl)) (x_nb rfl)) (x_nb rfl)) (x_nb rfl)) (x_nb rfl)) (x_nb rfl)) (x_nb rfl)) (x_nb rfl)) (x_nb rfl)) (x_nb rfl)) (x_nb rfl)) (x_nb rfl)) (x_nb rfl)) (x_nb rfl)) (x_nb rfl)) (x_nb rfl)) (x_nb rfl)) (x_nb rfl)) (x_nb rfl)) (x_nb rfl)) (x_nb rfl)) (x_nb rfl)) (x_nb rfl)) (x_nb rfl)) (x_nb rfl)) (x_nb rfl)) (x_nb rfl)) (x_nb rfl)) (x_nb rfl)) (x_nb rfl)) (x_nb rfl)) (x_nb rfl)) (x_nb rfl)) (x_nb rfl)) (x_nb rfl)) (x_nb rfl)) (x_nb rfl)) (x_nb rfl)) (x_nb rfl)) (x_nb rfl)) (x_nb rfl)
        refine g_aa (i := 0) (a := 3) (n := 12) (v := 119) rfl g298 (by decide) (x_at (x_f3 hF) (k := 0) rfl) ?_
        have b299 : x_obj (x_W fi fl fr) 119 = some (10, [.ref 120, .ref 122, .int 402, .int 0, .int 0, .int 0, .int 0, .int 0, .int 0, .int 0, .int 0, .int 0]) := rfl
        have g300 := x_wo_ne w294 (x_wo_ne w288 (x_wo_ne w280 (x_wo_ne w274 (x_wo_ne w269 (x_wo_ne w265 (x_wo_ne w257 (x_wo_ne w253 (x_wo_ne w245 (x_wo_ne w236 (x_wo_ne w232 (x_wo_ne w228 (x_wo_ne w224 (x_wo_ne w219 (x_wo_ne w209 (x_wo_ne w199 (x_wo_ne w189 (x_wo_ne w179 (x_wo_ne w169 (x_wo_ne w159 (x_wo_ne w155 (x_wo_ne w148 (x_wo_ne w144 (x_wo_ne w138 (x_wo_ne w134 (x_wo_ne w130 (x_wo_ne w126 (x_wo_ne w122 (x_wo_ne w116 (x_wo_ne w109 (x_wo_ne w104 (x_wo_ne w99 (x_wo_ne w95 (x_wo_ne w90 (x_wo_ne w86 (x_wo_ne w81 (x_wo_ne w76 (x_wo_ne w69 (x_wo_ne w61 (x_wo_ne w53 (x_wo_ne w46 (x_wo_ne w37 (x_wo_ne w33 (x_wo_ne w26 (x_wo_ne w22 (x_wo_ne w16 (x_wo_ne w12 b299 (x_nb rfl)) (x_nb rfl)) (x_nb rfl)) (x_nb rfl)) (x_nb rfl)) (x_nb rfl)) (x_nb rfl)) (x_nb rfl)) (x_nb rfl)) (x_nb rfl)) (x_nb rfl)) (x_nb rfl)) (x_nb rfl)) (x_nb rfl)) (x_nb rfl)) (x_nb rfl)) (x_nb rfl)) (x_nb rfl)) (x_nb rfl)) (x_nb rfl)) (x_nb rfl)) (x_nb rfl)) (x_nb rfl)) (x_nb rfl)) (x_nb rfl)) (x_nb rfl)) (x_nb rfl)) (x_nb rfl)) (x_nb rfl)) (x_nb rfl)) (x_nb rfl)) (x_nb rfl)) (x_nb rfl)) (x_nb rfl)) (x_nb rfl)) (x_nb rfl)) (x_nb rfl)) (x_nb rfl)) (x_nb rfl)) (x_nb rfl)) (x_nb rfl)) (x_nb rfl)) (x_nb rfl)) (x_nb rfl)) (x_nb rfl)) (x_nb rfl)) (x_nb rfl)
        refine g_get (i := 189) (kd := 0) (ci := 10) (k := 6) (tc := 0) (v := .int 0) rfl rfl (Or.inl (by decide)) g300 rfl ?_
        refine g_n 3 (pc' := 113) (L' := [some (.ref 0), some (.int 0), some (.ref 27), some (.int 0)]) (st' := [.ref 0]) rfl ?_
        refine g_get (i := 48) (kd := 1) (ci := 11) (k := 3) (tc := 3) (v := .ref 3) rfl rfl (Or.inl (by decide)) g296 rfl ?_
        refine g_n 1 (pc' := 117) (L' := [some (.ref 0), some (.int 0), some (.ref 27), some (.int 0)]) (st' := [.int 0, .ref 3]) rfl ?_
        refine g_aa (i := 0) (a := 3) (n := 12) (v := 119) rfl g298 (by decide) (x_at (x_f3 hF) (k := 0) rfl) ?_
        refine g_n 1 (pc' := 119) (L' := [some (.ref 0), some (.int 0), some (.ref 27), some (.int 0)]) (st' := [.int 0, .ref 119]) rfl ?_
        refine g_putN (i := 192) (kd := 0) (ci := 10) (k := 5) (tc := 2) (fs' := [.ref 120, .ref 122, .int 402, .int 0, .int 0, .int 0, .int 0, .int 0, .int 0, .int 0, .int 0, .int 0]) rfl rfl (Or.inl rfl) g300 (x_ltL rfl rfl) rfl rfl (fun S301 w302 => ?_)
        have s303 := x_wsO w302 g300 rfl s295
        have g304 := x_wo_at w302 g300
        refine g_n 6 (pc' := 100) (L' := [some (.ref 0), some (.int 0), some (.ref 27), some (.int 1)]) (st' := [.ref 0]) rfl ?_
        have g305 := x_wo_ne w302 g296 (x_nb rfl)
        refine g_get (i := 48) (kd := 1) (ci := 11) (k := 3) (tc := 3) (v := .ref 3) rfl rfl (Or.inl (by decide)) g305 rfl ?_
        refine g_n 1 (pc' := 104) (L' := [some (.ref 0), some (.int 0), some (.ref 27), some (.int 1)]) (st' := [.int 1, .ref 3]) rfl ?_
        have g306 := x_wa_ne w302 g298 (x_nb rfl)
        refine g_aa (i := 1) (a := 3) (n := 12) (v := 124) rfl g306 (by decide) (x_at (x_f3 hF) (k := 1) rfl) ?_
        have b307 : x_obj (x_W fi fl fr) 124 = some (10, [.ref 125, .ref 127, .int 402, .int 0, .int 0, .int 0, .int 0, .int 0, .int 0, .int 0, .int 0, .int 0]) := rfl
        have g308 := x_wo_ne w302 (x_wo_ne w294 (x_wo_ne w288 (x_wo_ne w280 (x_wo_ne w274 (x_wo_ne w269 (x_wo_ne w265 (x_wo_ne w257 (x_wo_ne w253 (x_wo_ne w245 (x_wo_ne w236 (x_wo_ne w232 (x_wo_ne w228 (x_wo_ne w224 (x_wo_ne w219 (x_wo_ne w209 (x_wo_ne w199 (x_wo_ne w189 (x_wo_ne w179 (x_wo_ne w169 (x_wo_ne w159 (x_wo_ne w155 (x_wo_ne w148 (x_wo_ne w144 (x_wo_ne w138 (x_wo_ne w134 (x_wo_ne w130 (x_wo_ne w126 (x_wo_ne w122 (x_wo_ne w116 (x_wo_ne w109 (x_wo_ne w104 (x_wo_ne w99 (x_wo_ne w95 (x_wo_ne w90 (x_wo_ne w86 (x_wo_ne w81 (x_wo_ne w76 (x_wo_ne w69 (x_wo_ne w61 (x_wo_ne w53 (x_wo_ne w46 (x_wo_ne w37 (x_wo_ne w33 (x_wo_ne w26 (x_wo_ne w22 (x_wo_ne w16 (x_wo_ne w12 b307 (x_nb rfl)) (x_nb rfl)) (x_nb rfl)) (x_nb rfl)) (x_nb rfl)) (x_nb rfl)) (x_nb rfl)) (x_nb rfl)) (x_nb rfl)) (x_nb rfl)) (x_nb rfl)) (x_nb rfl)) (x_nb rfl)) (x_nb rfl)) (x_nb rfl)) (x_nb rfl)) (x_nb rfl)) (x_nb rfl)) (x_nb rfl)) (x_nb rfl)) (x_nb rfl)) (x_nb rfl)) (x_nb rfl)) (x_nb rfl)) (x_nb rfl)) (x_nb rfl)) (x_nb rfl)) (x_nb rfl)) (x_nb rfl)) (x_nb rfl)) (x_nb rfl)) (x_nb rfl)) (x_nb rfl)) (x_nb rfl)) (x_nb rfl)) (x_nb rfl)) (x_nb rfl)) (x_nb rfl)) (x_nb rfl)) (x_nb rfl)) (x_nb rfl)) (x_nb rfl)) (x_nb rfl)) (x_nb rfl)) (x_nb rfl)) (x_nb rfl)) (x_nb rfl)) (x_nb rfl)
        refine g_get (i := 189) (kd := 0) (ci := 10) (k := 6) (tc := 0) (v := .int 0) rfl rfl (Or.inl (by decide)) g308 rfl ?_
        refine g_n 3 (pc' := 113) (L' := [some (.ref 0), some (.int 0), some (.ref 27), some (.int 1)]) (st' := [.ref 0]) rfl ?_
        refine g_get (i := 48) (kd := 1) (ci := 11) (k := 3) (tc := 3) (v := .ref 3) rfl rfl (Or.inl (by decide)) g305 rfl ?_
        refine g_n 1 (pc' := 117) (L' := [some (.ref 0), some (.int 0), some (.ref 27), some (.int 1)]) (st' := [.int 1, .ref 3]) rfl ?_
        refine g_aa (i := 1) (a := 3) (n := 12) (v := 124) rfl g306 (by decide) (x_at (x_f3 hF) (k := 1) rfl) ?_
        refine g_n 1 (pc' := 119) (L' := [some (.ref 0), some (.int 0), some (.ref 27), some (.int 1)]) (st' := [.int 0, .ref 124]) rfl ?_
        refine g_putN (i := 192) (kd := 0) (ci := 10) (k := 5) (tc := 2) (fs' := [.ref 125, .ref 127, .int 402, .int 0, .int 0, .int 0, .int 0, .int 0, .int 0, .int 0, .int 0, .int 0]) rfl rfl (Or.inl rfl) g308 (x_ltL rfl rfl) rfl rfl (fun S309 w310 => ?_)
        have s311 := x_wsO w310 g308 rfl s303
        have g312 := x_wo_at w310 g308
        refine g_n 6 (pc' := 100) (L' := [some (.ref 0), some (.int 0), some (.ref 27), some (.int 2)]) (st' := [.ref 0]) rfl ?_
        have g313 := x_wo_ne w310 g305 (x_nb rfl)
        refine g_get (i := 48) (kd := 1) (ci := 11) (k := 3) (tc := 3) (v := .ref 3) rfl rfl (Or.inl (by decide)) g313 rfl ?_
        refine g_n 1 (pc' := 104) (L' := [some (.ref 0), some (.int 0), some (.ref 27), some (.int 2)]) (st' := [.int 2, .ref 3]) rfl ?_
        have g314 := x_wa_ne w310 g306 (x_nb rfl)
        refine g_aa (i := 2) (a := 3) (n := 12) (v := 129) rfl g314 (by decide) (x_at (x_f3 hF) (k := 2) rfl) ?_
        have b315 : x_obj (x_W fi fl fr) 129 = some (10, [.ref 130, .ref 132, .int 402, .int 0, .int 0, .int 0, .int 0, .int 0, .int 0, .int 0, .int 0, .int 0]) := rfl
        have g316 := x_wo_ne w310 (x_wo_ne w302 (x_wo_ne w294 (x_wo_ne w288 (x_wo_ne w280 (x_wo_ne w274 (x_wo_ne w269 (x_wo_ne w265 (x_wo_ne w257 (x_wo_ne w253 (x_wo_ne w245 (x_wo_ne w236 (x_wo_ne w232 (x_wo_ne w228 (x_wo_ne w224 (x_wo_ne w219 (x_wo_ne w209 (x_wo_ne w199 (x_wo_ne w189 (x_wo_ne w179 (x_wo_ne w169 (x_wo_ne w159 (x_wo_ne w155 (x_wo_ne w148 (x_wo_ne w144 (x_wo_ne w138 (x_wo_ne w134 (x_wo_ne w130 (x_wo_ne w126 (x_wo_ne w122 (x_wo_ne w116 (x_wo_ne w109 (x_wo_ne w104 (x_wo_ne w99 (x_wo_ne w95 (x_wo_ne w90 (x_wo_ne w86 (x_wo_ne w81 (x_wo_ne w76 (x_wo_ne w69 (x_wo_ne w61 (x_wo_ne w53 (x_wo_ne w46 (x_wo_ne w37 (x_wo_ne w33 (x_wo_ne w26 (x_wo_ne w22 (x_wo_ne w16 (x_wo_ne w12 b315 (x_nb rfl)) (x_nb rfl)) (x_nb rfl)) (x_nb rfl)) (x_nb rfl)) (x_nb rfl)) (x_nb rfl)) (x_nb rfl)) (x_nb rfl)) (x_nb rfl)) (x_nb rfl)) (x_nb rfl)) (x_nb rfl)) (x_nb rfl)) (x_nb rfl)) (x_nb rfl)) (x_nb rfl)) (x_nb rfl)) (x_nb rfl)) (x_nb rfl)) (x_nb rfl)) (x_nb rfl)) (x_nb rfl)) (x_nb rfl)) (x_nb rfl)) (x_nb rfl)) (x_nb rfl)) (x_nb rfl)) (x_nb rfl)) (x_nb rfl)) (x_nb rfl)) (x_nb rfl)) (x_nb rfl)) (x_nb rfl)) (x_nb rfl)) (x_nb rfl)) (x_nb rfl)) (x_nb rfl)) (x_nb rfl)) (x_nb rfl)) (x_nb rfl)) (x_nb rfl)) (x_nb rfl)) (x_nb rfl)) (x_nb rfl)) (x_nb rfl)) (x_nb rfl)) (x_nb rfl)) (x_nb rfl)
        refine g_get (i := 189) (kd := 0) (ci := 10) (k := 6) (tc := 0) (v := .int 0) rfl rfl (Or.inl (by decide)) g316 rfl ?_
        refine g_n 3 (pc' := 113) (L' := [some (.ref 0), some (.int 0), some (.ref 27), some (.int 2)]) (st' := [.ref 0]) rfl ?_
        refine g_get (i := 48) (kd := 1) (ci := 11) (k := 3) (tc := 3) (v := .ref 3) rfl rfl (Or.inl (by decide)) g313 rfl ?_
        refine g_n 1 (pc' := 117) (L' := [some (.ref 0), some (.int 0), some (.ref 27), some (.int 2)]) (st' := [.int 2, .ref 3]) rfl ?_
        refine g_aa (i := 2) (a := 3) (n := 12) (v := 129) rfl g314 (by decide) (x_at (x_f3 hF) (k := 2) rfl) ?_
        refine g_n 1 (pc' := 119) (L' := [some (.ref 0), some (.int 0), some (.ref 27), some (.int 2)]) (st' := [.int 0, .ref 129]) rfl ?_
        refine g_putN (i := 192) (kd := 0) (ci := 10) (k := 5) (tc := 2) (fs' := [.ref 130, .ref 132, .int 402, .int 0, .int 0, .int 0, .int 0, .int 0, .int 0, .int 0, .int 0, .int 0]) rfl rfl (Or.inl rfl) g316 (x_ltL rfl rfl) rfl rfl (fun S317 w318 => ?_)
        have s319 := x_wsO w318 g316 rfl s311
        have g320 := x_wo_at w318 g316
        refine g_n 6 (pc' := 100) (L' := [some (.ref 0), some (.int 0), some (.ref 27), some (.int 3)]) (st' := [.ref 0]) rfl ?_
        have g321 := x_wo_ne w318 g313 (x_nb rfl)
        refine g_get (i := 48) (kd := 1) (ci := 11) (k := 3) (tc := 3) (v := .ref 3) rfl rfl (Or.inl (by decide)) g321 rfl ?_
        refine g_n 1 (pc' := 104) (L' := [some (.ref 0), some (.int 0), some (.ref 27), some (.int 3)]) (st' := [.int 3, .ref 3]) rfl ?_
        have g322 := x_wa_ne w318 g314 (x_nb rfl)
        refine g_aa (i := 3) (a := 3) (n := 12) (v := 134) rfl g322 (by decide) (x_at (x_f3 hF) (k := 3) rfl) ?_
        have b323 : x_obj (x_W fi fl fr) 134 = some (10, [.ref 135, .ref 137, .int 402, .int 0, .int 0, .int 0, .int 0, .int 0, .int 0, .int 0, .int 0, .int 0]) := rfl
        have g324 := x_wo_ne w318 (x_wo_ne w310 (x_wo_ne w302 (x_wo_ne w294 (x_wo_ne w288 (x_wo_ne w280 (x_wo_ne w274 (x_wo_ne w269 (x_wo_ne w265 (x_wo_ne w257 (x_wo_ne w253 (x_wo_ne w245 (x_wo_ne w236 (x_wo_ne w232 (x_wo_ne w228 (x_wo_ne w224 (x_wo_ne w219 (x_wo_ne w209 (x_wo_ne w199 (x_wo_ne w189 (x_wo_ne w179 (x_wo_ne w169 (x_wo_ne w159 (x_wo_ne w155 (x_wo_ne w148 (x_wo_ne w144 (x_wo_ne w138 (x_wo_ne w134 (x_wo_ne w130 (x_wo_ne w126 (x_wo_ne w122 (x_wo_ne w116 (x_wo_ne w109 (x_wo_ne w104 (x_wo_ne w99 (x_wo_ne w95 (x_wo_ne w90 (x_wo_ne w86 (x_wo_ne w81 (x_wo_ne w76 (x_wo_ne w69 (x_wo_ne w61 (x_wo_ne w53 (x_wo_ne w46 (x_wo_ne w37 (x_wo_ne w33 (x_wo_ne w26 (x_wo_ne w22 (x_wo_ne w16 (x_wo_ne w12 b323 (x_nb rfl)) (x_nb rfl)) (x_nb rfl)) (x_nb rfl)) (x_nb rfl)) (x_nb rfl)) (x_nb rfl)) (x_nb rfl)) (x_nb rfl)) (x_nb rfl)) (x_nb rfl)) (x_nb rfl)) (x_nb rfl)) (x_nb rfl)) (x_nb rfl)) (x_nb rfl)) (x_nb rfl)) (x_nb rfl)) (x_nb rfl)) (x_nb rfl)) (x_nb rfl)) (x_nb rfl)) (x_nb rfl)) (x_nb rfl)) (x_nb rfl)) (x_nb rfl)) (x_nb rfl)) (x_nb rfl)) (x_nb rfl)) (x_nb rfl)) (x_nb rfl)) (x_nb rfl)) (x_nb rfl)) (x_nb rfl)) (x_nb rfl)) (x_nb rfl)) (x_nb rfl)) (x_nb rfl)) (x_nb rfl)) (x_nb rfl)) (x_nb rfl)) (x_nb rfl)) (x_nb rfl)) (x_nb rfl)) (x_nb rfl)) (x_nb rfl)) (x_nb rfl)) (x_nb rfl)) (x_nb rfl)) (x_nb rfl)
        refine g_get (i := 189) (kd := 0) (ci := 10) (k := 6) (tc := 0) (v := .int 0) rfl rfl (Or.inl (by decide)) g324 rfl ?_
        refine g_n 3 (pc' := 113) (L' := [some (.ref 0), some (.int 0), some (.ref 27), some (.int 3)]) (st' := [.ref 0]) rfl ?_
        refine g_get (i := 48) (kd := 1) (ci := 11) (k := 3) (tc := 3) (v := .ref 3) rfl rfl (Or.inl (by decide)) g321 rfl ?_
        refine g_n 1 (pc' := 117) (L' := [some (.ref 0), some (.int 0), some (.ref 27), some (.int 3)]) (st' := [.int 3, .ref 3]) rfl ?_
        refine g_aa (i := 3) (a := 3) (n := 12) (v := 134) rfl g322 (by decide) (x_at (x_f3 hF) (k := 3) rfl) ?_
        refine g_n 1 (pc' := 119) (L' := [some (.ref 0), some (.int 0), some (.ref 27), some (.int 3)]) (st' := [.int 0, .ref 134]) rfl ?_
        refine g_putN (i := 192) (kd := 0) (ci := 10) (k := 5) (tc := 2) (fs' := [.ref 135, .ref 137, .int 402, .int 0, .int 0, .int 0, .int 0, .int 0, .int 0, .int 0, .int 0, .int 0]) rfl rfl (Or.inl rfl) g324 (x_ltL rfl rfl) rfl rfl (fun S325 w326 => ?_)
        have s327 := x_wsO w326 g324 rfl s319
        have g328 := x_wo_at w326 g324
        refine g_n 6 (pc' := 100) (L' := [some (.ref 0), some (.int 0), some (.ref 27), some (.int 4)]) (st' := [.ref 0]) rfl ?_
        have g329 := x_wo_ne w326 g321 (x_nb rfl)
        refine g_get (i := 48) (kd := 1) (ci := 11) (k := 3) (tc := 3) (v := .ref 3) rfl rfl (Or.inl (by decide)) g329 rfl ?_
        refine g_n 1 (pc' := 104) (L' := [some (.ref 0), some (.int 0), some (.ref 27), some (.int 4)]) (st' := [.int 4, .ref 3]) rfl ?_
        have g330 := x_wa_ne w326 g322 (x_nb rfl)
        refine g_aa (i := 4) (a := 3) (n := 12) (v := 139) rfl g330 (by decide) (x_at (x_f3 hF) (k := 4) rfl) ?_
        have b331 : x_obj (x_W fi fl fr) 139 = some (10, [.ref 140, .ref 142, .int 402, .int 0, .int 0, .int 0, .int 0, .int 0, .int 0, .int 0, .int 0, .int 0]) := rfl
        have g332 := x_wo_ne w326 (x_wo_ne w318 (x_wo_ne w310 (x_wo_ne w302 (x_wo_ne w294 (x_wo_ne w288 (x_wo_ne w280 (x_wo_ne w274 (x_wo_ne w269 (x_wo_ne w265 (x_wo_ne w257 (x_wo_ne w253 (x_wo_ne w245 (x_wo_ne w236 (x_wo_ne w232 (x_wo_ne w228 (x_wo_ne w224 (x_wo_ne w219 (x_wo_ne w209 (x_wo_ne w199 (x_wo_ne w189 (x_wo_ne w179 (x_wo_ne w169 (x_wo_ne w159 (x_wo_ne w155 (x_wo_ne w148 (x_wo_ne w144 (x_wo_ne w138 (x_wo_ne w134 (x_wo_ne w130 (x_wo_ne w126 (x_wo_ne w122 (x_wo_ne w116 (x_wo_ne w109 (x_wo_ne w104 (x_wo_ne w99 (x_wo_ne w95 (x_wo_ne w90 (x_wo_ne w86 (x_wo_ne w81 (x_wo_ne w76 (x_wo_ne w69 (x_wo_ne w61 (x_wo_ne w53 (x_wo_ne w46 (x_wo_ne w37 (x_wo_ne w33 (x_wo_ne w26 (x_wo_ne w22 (x_wo_ne w16 (x_wo_ne w12 b331 (x_nb rfl)) (x_nb rfl)) (x_nb rfl)) (x_nb rfl)) (x_nb rfl)) (x_nb rfl)) (x_nb rfl)) (x_nb rfl)) (x_nb rfl)) (x_nb rfl)) (x_nb rfl)) (x_nb rfl)) (x_nb rfl)) (x_nb rfl)) (x_nb rfl)) (x_nb rfl)) (x_nb rfl)) (x_nb rfl)) (x_nb rfl)) (x_nb rfl)) (x_nb rfl)) (x_nb rfl)) (x_nb rfl)) (x_nb rfl)) (x_nb rfl)) (x_nb rfl)) (x_nb rfl)) (x_nb rfl)) (x_nb rfl)) (x_nb rfl)) (x_nb rfl)) (x_nb rfl)) (x_nb rfl)) (x_nb rfl)) (x_nb rfl)) (x_nb rfl)) (x_nb rfl)) (x_nb rfl)) (x_nb rfl)) (x_nb rfl)) (x_nb rfl)) (x_nb rfl)) (x_nb rfl)) (x_nb rfl)) (x_nb rfl)) (x_nb rfl)) (x_nb rfl)) (x_nb rfl)) (x_nb rfl)) (x_nb rfl)) (x_nb rfl)
        refine g_get (i := 189) (kd := 0) (ci := 10) (k := 6) (tc := 0) (v := .int 0) rfl rfl (Or.inl (by decide)) g332 rfl ?_
        refine g_n 3 (pc' := 113) (L' := [some (.ref 0), some (.int 0), some (.ref 27), some (.int 4)]) (st' := [.ref 0]) rfl ?_
        refine g_get (i := 48) (kd := 1) (ci := 11) (k := 3) (tc := 3) (v := .ref 3) rfl rfl (Or.inl (by decide)) g329 rfl ?_
        refine g_n 1 (pc' := 117) (L' := [some (.ref 0), some (.int 0), some (.ref 27), some (.int 4)]) (st' := [.int 4, .ref 3]) rfl ?_
        refine g_aa (i := 4) (a := 3) (n := 12) (v := 139) rfl g330 (by decide) (x_at (x_f3 hF) (k := 4) rfl) ?_
        refine g_n 1 (pc' := 119) (L' := [some (.ref 0), some (.int 0), some (.ref 27), some (.int 4)]) (st' := [.int 0, .ref 139]) rfl ?_
        refine g_putN (i := 192) (kd := 0) (ci := 10) (k := 5) (tc := 2) (fs' := [.ref 140, .ref 142, .int 402, .int 0, .int 0, .int 0, .int 0, .int 0, .int 0, .int 0, .int 0, .int 0]) rfl rfl (Or.inl rfl) g332 (x_ltL rfl rfl) rfl rfl (fun S333 w334 => ?_)
        have s335 := x_wsO w334 g332 rfl s327
        have g336 := x_wo_at w334 g332
        refine g_n 6 (pc' := 100) (L' := [some (.ref 0), some (.int 0), some (.ref 27), some (.int 5)]) (st' := [.ref 0]) rfl ?_
        have g337 := x_wo_ne w334 g329 (x_nb rfl)
        refine g_get (i := 48) (kd := 1) (ci := 11) (k := 3) (tc := 3) (v := .ref 3) rfl rfl (Or.inl (by decide)) g337 rfl ?_
        refine g_n 1 (pc' := 104) (L' := [some (.ref 0), some (.int 0), some (.ref 27), some (.int 5)]) (st' := [.int 5, .ref 3]) rfl ?_
        have g338 := x_wa_ne w334 g330 (x_nb rfl)
        refine g_aa (i := 5) (a := 3) (n := 12) (v := 144) rfl g338 (by decide) (x_at (x_f3 hF) (k := 5) rfl) ?_
        have b339 : x_obj (x_W fi fl fr) 144 = some (10, [.ref 145, .ref 147, .int 402, .int 0, .int 0, .int 0, .int 0, .int 0, .int 0, .int 0, .int 0, .int 0]) := rfl
        have g340 := x_wo_ne w334 (x_wo_ne w326 (x_wo_ne w318 (x_wo_ne w310 (x_wo_ne w302 (x_wo_ne w294 (x_wo_ne w288 (x_wo_ne w280 (x_wo_ne w274 (x_wo_ne w269 (x_wo_ne w265 (x_wo_ne w257 (x_wo_ne w253 (x_wo_ne w245 (x_wo_ne w236 (x_wo_ne w232 (x_wo_ne w228 (x_wo_ne w224 (x_wo_ne w219 (x_wo_ne w209 (x_wo_ne w199 (x_wo_ne w189 (x_wo_ne w179 (x_wo_ne w169 (x_wo_ne w159 (x_wo_ne w155 (x_wo_ne w148 (x_wo_ne w144 (x_wo_ne w138 (x_wo_ne w134 (x_wo_ne w130 (x_wo_ne w126 (x_wo_ne w122 (x_wo_ne w116 (x_wo_ne w109 (x_wo_ne w104 (x_wo_ne w99 (x_wo_ne w95 (x_wo_ne w90 (x_wo_ne w86 (x_wo_ne w81 (x_wo_ne w76 (x_wo_ne w69 (x_wo_ne w61 (x_wo_ne w53 (x_wo_ne w46 (x_wo_ne w37 (x_wo_ne w33 (x_wo_ne w26 (x_wo_ne w22 (x_wo_ne w16 (x_wo_ne w12 b339 (x_nb rfl)) (x_nb rfl)) (x_nb rfl)) (x_nb rfl)) (x_nb rfl)) (x_nb rfl)) (x_nb rfl)) (x_nb rfl)) (x_nb rfl)) (x_nb rfl)) (x_nb rfl)) (x_nb rfl)) (x_nb rfl)) (x_nb rfl)) (x_nb rfl)) (x_nb rfl)) (x_nb rfl)) (x_nb rfl)) (x_nb rfl)) (x_nb rfl)) (x_nb rfl)) (x_nb rfl)) (x_nb rfl)) (x_nb rfl)) (x_nb rfl)) (x_nb rfl)) (x_nb rfl)) (x_nb rfl)) (x_nb rfl)) (x_nb rfl)) (x_nb rfl)) (x_nb rfl)) (x_nb rfl)) (x_nb rfl)) (x_nb rfl)) (x_nb rfl)) (x_nb rfl)) (x_nb rfl)) (x_nb rfl)) (x_nb rfl)) (x_nb rfl)) (x_nb rfl)) (x_nb rfl)) (x_nb rfl)) (x_nb rfl)) (x_nb rfl)) (x_nb rfl)) (x_nb rfl)) (x_nb rfl)) (x_nb rfl)) (x_nb rfl)) (x_nb rfl)
        refine g_get (i := 189) (kd := 0) (ci := 10) (k := 6) (tc := 0) (v := .int 0) rfl rfl (Or.inl (by decide)) g340 rfl ?_
        refine g_n 3 (pc' := 113) (L' := [some (.ref 0), some (.int 0), some (.ref 27), some (.int 5)]) (st' := [.ref 0]) rfl ?_
        refine g_get (i := 48) (kd := 1) (ci := 11) (k := 3) (tc := 3) (v := .ref 3) rfl rfl (Or.inl (by decide)) g337 rfl ?_
        refine g_n 1 (pc' := 117) (L' := [some (.ref 0), some (.int 0), some (.ref 27), some (.int 5)]) (st' := [.int 5, .ref 3]) rfl ?_
        refine g_aa (i := 5) (a := 3) (n := 12) (v := 144) rfl g338 (by decide) (x_at (x_f3 hF) (k := 5) rfl) ?_
        refine g_n 1 (pc' := 119) (L' := [some (.ref 0), some (.int 0), some (.ref 27), some (.int 5)]) (st' := [.int 0, .ref 144]) rfl ?_
        refine g_putN (i := 192) (kd := 0) (ci := 10) (k := 5) (tc := 2) (fs' := [.ref 145, .ref 147, .int 402, .int 0, .int 0, .int 0, .int 0, .int 0, .int 0, .int 0, .int 0, .int 0]) rfl rfl (Or.inl rfl) g340 (x_ltL rfl rfl) rfl rfl (fun S341 w342 => ?_)
        have s343 := x_wsO w342 g340 rfl s335
        have g344 := x_wo_at w342 g340
        refine g_n 6 (pc' := 100) (L' := [some (.ref 0), some (.int 0), some (.ref 27), some (.int 6)]) (st' := [.ref 0]) rfl ?_
        have g345 := x_wo_ne w342 g337 (x_nb rfl)
        refine g_get (i := 48) (kd := 1) (ci := 11) (k := 3) (tc := 3) (v := .ref 3) rfl rfl (Or.inl (by decide)) g345 rfl ?_
        refine g_n 1 (pc' := 104) (L' := [some (.ref 0), some (.int 0), some (.ref 27), some (.int 6)]) (st' := [.int 6, .ref 3]) rfl ?_
        have g346 := x_wa_ne w342 g338 (x_nb rfl)
        refine g_aa (i := 6) (a := 3) (n := 12) (v := 149) rfl g346 (by decide) (x_at (x_f3 hF) (k := 6) rfl) ?_
        have b347 : x_obj (x_W fi fl fr) 149 = some (10, [.ref 150, .ref 152, .int 402, .int 0, .int 0, .int 0, .int 0, .int 0, .int 0, .int 0, .int 0, .int 0]) := rfl
        have g348 := x_wo_ne w342 (x_wo_ne w334 (x_wo_ne w326 (x_wo_ne w318 (x_wo_ne w310 (x_wo_ne w302 (x_wo_ne w294 (x_wo_ne w288 (x_wo_ne w280 (x_wo_ne w274 (x_wo_ne w269 (x_wo_ne w265 (x_wo_ne w257 (x_wo_ne w253 (x_wo_ne w245 (x_wo_ne w236 (x_wo_ne w232 (x_wo_ne w228 (x_wo_ne w224 (x_wo_ne w219 (x_wo_ne w209 (x_wo_ne w199 (x_wo_ne w189 (x_wo_ne w179 (x_wo_ne w169 (x_wo_ne w159 (x_wo_ne w155 (x_wo_ne w148 (x_wo_ne w144 (x_wo_ne w138 (x_wo_ne w134 (x_wo_ne w130 (x_wo_ne w126 (x_wo_ne w122 (x_wo_ne w116 (x_wo_ne w109 (x_wo_ne w104 (x_wo_ne w99 (x_wo_ne w95 (x_wo_ne w90 (x_wo_ne w86 (x_wo_ne w81 (x_wo_ne w76 (x_wo_ne w69 (x_wo_ne w61 (x_wo_ne w53 (x_wo_ne w46 (x_wo_ne w37 (x_wo_ne w33 (x_wo_ne w26 (x_wo_ne w22 (x_wo_ne w16 (x_wo_ne w12 b347 (x_nb rfl)) (x_nb rfl)) (x_nb rfl)) (x_nb rfl)) (x_nb rfl)) (x_nb rfl)) (x_nb rfl)) (x_nb rfl)) (x_nb rfl)) (x_nb rfl)) (x_nb rfl)) (x_nb rfl)) (x_nb rfl)) (x_nb rfl)) (x_nb rfl)) (x_nb rfl)) (x_nb rfl)) (x_nb rfl)) (x_nb rfl)) (x_nb rfl)) (x_nb rfl)) (x_nb rfl)) (x_nb rfl)) (x_nb rfl)) (x_nb rfl)) (x_nb rfl)) (x_nb rfl)) (x_nb rfl)) (x_nb rfl)) (x_nb rfl)) (x_nb rfl)) (x_nb rfl)) (x_nb rfl)) (x_nb rfl)) (x_nb rfl)) (x_nb rfl)) (x_nb rfl)) (x_nb rfl)) (x_nb rfl)) (x_nb rfl)) (x_nb rfl)) (x_nb rfl)) (x_nb rfl)) (x_nb rfl)) (x_nb rfl)) (x_nb rfl)) (x_nb rfl)) (x_nb rfl)) (x_nb rfl)) (x_nb rfl)) (x_nb rfl)) (x_nb rfl)) (x_nb rfl)
        refine g_get (i := 189) (kd := 0) (ci := 10) (k := 6) (tc := 0) (v := .int 0) rfl rfl (Or.inl (by decide)) g348 rfl ?_
        refine g_n 3 (pc' := 113) (L' := [some (.ref 0), some (.int 0), some (.ref 27), some (.int 6)]) (st' := [.ref 0]) rfl ?_
        refine g_get (i := 48) (kd := 1) (ci := 11) (k := 3) (tc := 3) (v := .ref 3) rfl rfl (Or.inl (by decide)) g345 rfl ?_
        refine g_n 1 (pc' := 117) (L' := [some (.ref 0), some (.int 0), some (.ref 27), some (.int 6)]) (st' := [.int 6, .ref 3]) rfl ?_
        refine g_aa (i := 6) (a := 3) (n := 12) (v := 149) rfl g346 (by decide) (x_at (x_f3 hF) (k := 6) rfl) ?_
        refine g_n 1 (pc' := 119) (L' := [some (.ref 0), some (.int 0), some (.ref 27), some (.int 6)]) (st' := [.int 0, .ref 149]) rfl ?_
        refine g_putN (i := 192) (kd := 0) (ci := 10) (k := 5) (tc := 2) (fs' := [.ref 150, .ref 152, .int 402, .int 0, .int 0, .int 0, .int 0, .int 0, .int 0, .int 0, .int 0, .int 0]) rfl rfl (Or.inl rfl) g348 (x_ltL rfl rfl) rfl rfl (fun S349 w350 => ?_)
        have s351 := x_wsO w350 g348 rfl s343
        have g352 := x_wo_at w350 g348
        refine g_n 6 (pc' := 100) (L' := [some (.ref 0), some (.int 0), some (.ref 27), some (.int 7)]) (st' := [.ref 0]) rfl ?_
        have g353 := x_wo_ne w350 g345 (x_nb rfl)
        refine g_get (i := 48) (kd := 1) (ci := 11) (k := 3) (tc := 3) (v := .ref 3) rfl rfl (Or.inl (by decide)) g353 rfl ?_
        refine g_n 1 (pc' := 104) (L' := [some (.ref 0), some (.int 0), some (.ref 27), some (.int 7)]) (st' := [.int 7, .ref 3]) rfl ?_
        have g354 := x_wa_ne w350 g346 (x_nb rfl)
        refine g_aa (i := 7) (a := 3) (n := 12) (v := 154) rfl g354 (by decide) (x_at (x_f3 hF) (k := 7) rfl) ?_
        have b355 : x_obj (x_W fi fl fr) 154 = some (10, [.ref 155, .ref 157, .int 402, .int 0, .int 0, .int 0, .int 0, .int 0, .int 0, .int 0, .int 0, .int 0]) := rfl
        have g356 := x_wo_ne w350 (x_wo_ne w342 (x_wo_ne w334 (x_wo_ne w326 (x_wo_ne w318 (x_wo_ne w310 (x_wo_ne w302 (x_wo_ne w294 (x_wo_ne w288 (x_wo_ne w280 (x_wo_ne w274 (x_wo_ne w269 (x_wo_ne w265 (x_wo_ne w257 (x_wo_ne w253 (x_wo_ne w245 (x_wo_ne w236 (x_wo_ne w232 (x_wo_ne w228 (x_wo_ne w224 (x_wo_ne w219 (x_wo_ne w209 (x_wo_ne w199 (x_wo_ne w189 (x_wo_ne w179 (x_wo_ne w169 (x_wo_ne w159 (x_wo_ne w155 (x_wo_ne w148 (x_wo_ne w144 (x_wo_ne w138 (x_wo_ne w134 (x_wo_ne w130 (x_wo_ne w126 (x_wo_ne w122 (x_wo_ne w116 (x_wo_ne w109 (x_wo_ne w104 (x_wo_ne w99 (x_wo_ne w95 (x_wo_ne w90 (x_wo_ne w86 (x_wo_ne w81 (x_wo_ne w76 (x_wo_ne w69 (x_wo_ne w61 (x_wo_ne w53 (x_wo_ne w46 (x_wo_ne w37 (x_wo_ne w33 (x_wo_ne w26 (x_wo_ne w22 (x_wo_ne w16 (x_wo_ne w12 b355 (x_nb rfl)) (x_nb rfl)) (x_nb rfl)) (x_nb rfl)) (x_nb rfl)) (x_nb rfl)) (x_nb rfl)) (x_nb rfl)) (x_nb rfl)) (x_nb rfl)) (x_nb rfl)) (x_nb rfl)) (x_nb rfl)) (x_nb rfl)) (x_nb rfl)) (x_nb rfl)) (x_nb rfl)) (x_nb rfl)) (x_nb rfl)) (x_nb rfl)) (x_nb rfl)) (x_nb rfl)) (x_nb rfl)) (x_nb rfl)) (x_nb rfl)) (x_nb rfl)) (x_nb rfl)) (x_nb rfl)) (x_nb rfl)) (x_nb rfl)) (x_nb rfl)) (x_nb rfl)) (x_nb rfl)) (x_nb rfl)) (x_nb rfl)) (x_nb rfl)) (x_nb rfl)) (x_nb rfl)) (x_nb rfl)) (x_nb rfl)) (x_nb rfl)) (x_nb rfl)) (x_nb rfl)) (x_nb rfl)) (x_nb rfl)) (x_nb rfl)) (x_nb rfl)) (x_nb rfl)) (x_nb rfl)) (x_nb rfl)) (x_nb rfl)) (x_nb rfl)) (x_nb rfl)) (x_nb rfl)
        refine g_get (i := 189) (kd := 0) (ci := 10) (k := 6) (tc := 0) (v := .int 0) rfl rfl (Or.inl (by decide)) g356 rfl ?_
        refine g_n 3 (pc' := 113) (L' := [some (.ref 0), some (.int 0), some (.ref 27), some (.int 7)]) (st' := [.ref 0]) rfl ?_
        refine g_get (i := 48) (kd := 1) (ci := 11) (k := 3) (tc := 3) (v := .ref 3) rfl rfl (Or.inl (by decide)) g353 rfl ?_
        refine g_n 1 (pc' := 117) (L' := [some (.ref 0), some (.int 0), some (.ref 27), some (.int 7)]) (st' := [.int 7, .ref 3]) rfl ?_
        refine g_aa (i := 7) (a := 3) (n := 12) (v := 154) rfl g354 (by decide) (x_at (x_f3 hF) (k := 7) rfl) ?_
        refine g_n 1 (pc' := 119) (L' := [some (.ref 0), some (.int 0), some (.ref 27), some (.int 7)]) (st' := [.int 0, .ref 154]) rfl ?_
        refine g_putN (i := 192) (kd := 0) (ci := 10) (k := 5) (tc := 2) (fs' := [.ref 155, .ref 157, .int 402, .int 0, .int 0, .int 0, .int 0, .int 0, .int 0, .int 0, .int 0, .int 0]) rfl rfl (Or.inl rfl) g356 (x_ltL rfl rfl) rfl rfl (fun S357 w358 => ?_)
        have s359 := x_wsO w358 g356 rfl s351
        have g360 := x_wo_at w358 g356
        refine g_n 6 (pc' := 100) (L' := [some (.ref 0), some (.int 0), some (.ref 27), some (.int 8)]) (st' := [.ref 0]) rfl ?_
        have g361 := x_wo_ne w358 g353 (x_nb rfl)
        refine g_get (i := 48) (kd := 1) (ci := 11) (k := 3) (tc := 3) (v := .ref 3) rfl rfl (Or.inl (by decide)) g361 rfl ?_
        refine g_n 1 (pc' := 104) (L' := [some (.ref 0), some (.int 0), some (.ref 27), some (.int 8)]) (st' := [.int 8, .ref 3]) rfl ?_
        have g362 := x_wa_ne w358 g354 (x_nb rfl)
        refine g_aa (i := 8) (a := 3) (n := 12) (v := 159) rfl g362 (by decide) (x_at (x_f3 hF) (k := 8) rfl) ?_
        have b363 : x_obj (x_W fi fl fr) 159 = some (10, [.ref 160, .ref 162, .int 402, .int 0, .int 0, .int 0, .int 0, .int 0, .int 0, .int 0, .int 0, .int 0]) := rfl
        have g364 := x_wo_ne w358 (x_wo_ne w350 (x_wo_ne w342 (x_wo_ne w334 (x_wo_ne w326 (x_wo_ne w318 (x_wo_ne w310 (x_wo_ne w302 (x_wo_ne w294 (x_wo_ne w288 (x_wo_ne w280 (x_wo_ne w274 (x_wo_ne w269 (x_wo_ne w265 (x_wo_ne w257 (x_wo_ne w253 (x_wo_ne w245 (x_wo_ne w236 (x_wo_ne w232 (x_wo_ne w228 (x_wo_ne w224 (x_wo_ne w219 (x_wo_ne w209 (x_wo_ne w199 (x_wo_ne w189 (x_wo_ne w179 (x_wo_ne w169 (x_wo_ne w159 (x_wo_ne w155 (x_wo_ne w148 (x_wo_ne w144 (x_wo_ne w138 (x_wo_ne w134 (x_wo_ne w130 (x_wo_ne w126 (x_wo_ne w122 (x_wo_ne w116 (x_wo_ne w109 (x_wo_ne w104 (x_wo_ne w99 (x_wo_ne w95 (x_wo_ne w90 (x_wo_ne w86 (x_wo_ne w81 (x_wo_ne w76 (x_wo_ne w69 (x_wo_ne w61 (x_wo_ne w53 (x_wo_ne w46 (x_wo_ne w37 (x_wo_ne w33 (x_wo_ne w26 (x_wo_ne w22 (x_wo_ne w16 (x_wo_ne w12 b363 (x_nb rfl)) (x_nb rfl)) (x_nb rfl)) (x_nb rfl)) (x_nb rfl)) (x_nb rfl)) (x_nb rfl)) (x_nb rfl)) (x_nb rfl)) (x_nb rfl)) (x_nb rfl)) (x_nb rfl)) (x_nb rfl)) (x_nb rfl)) (x_nb rfl)) (x_nb rfl)) (x_nb rfl)) (x_nb rfl)) (x_nb rfl)) (x_nb rfl)) (x_nb rfl)) (x_nb rfl)) (x_nb rfl)) (x_nb rfl)) (x_nb rfl)) (x_nb rfl)) (x_nb rfl)) (x_nb rfl)) (x_nb rfl)) (x_nb rfl)) (x_nb rfl)) (x_nb rfl)) (x_nb rfl)) (x_nb rfl)) (x_nb rfl)) (x_nb rfl)) (x_nb rfl)) (x_nb rfl)) (x_nb rfl)) (x_nb rfl)) (x_nb rfl)) (x_nb rfl)) (x_nb rfl)) (x_nb rfl)) (x_nb rfl)) (x_nb rfl)) (x_nb rfl)) (x_nb rfl)) (x_nb rfl)) (x_nb rfl)) (x_nb rfl)) (x_nb rfl)) (x_nb rfl)) (x_nb rfl)) (x_nb rfl)
        refine g_get (i := 189) (kd := 0) (ci := 10) (k := 6) (tc := 0) (v := .int 0) rfl rfl (Or.inl (by decide)) g364 rfl ?_
        refine g_n 3 (pc' := 113) (L' := [some (.ref 0), some (.int 0), some (.ref 27), some (.int 8)]) (st' := [.ref 0]) rfl ?_
        refine g_get (i := 48) (kd := 1) (ci := 11) (k := 3) (tc := 3) (v := .ref 3) rfl rfl (Or.inl (by decide)) g361 rfl ?_
        refine g_n 1 (pc' := 117) (L' := [some (.ref 0), some (.int 0), some (.ref 27), some (.int 8)]) (st' := [.int 8, .ref 3]) rfl ?_
        refine g_aa (i := 8) (a := 3) (n := 12) (v := 159) rfl g362 (by decide) (x_at (x_f3 hF) (k := 8) rfl) ?_
        refine g_n 1 (pc' := 119) (L' := [some (.ref 0), some (.int 0), some (.ref 27), some (.int 8)]) (st' := [.int 0, .ref 159]) rfl ?_
        refine g_putN (i := 192) (kd := 0) (ci := 10) (k := 5) (tc := 2) (fs' := [.ref 160, .ref 162, .int 402, .int 0, .int 0, .int 0, .int 0, .int 0, .int 0, .int 0, .int 0, .int 0]) rfl rfl (Or.inl rfl) g364 (x_ltL rfl rfl) rfl rfl (fun S365 w366 => ?_)
        have s367 := x_wsO w366 g364 rfl s359
        have g368 := x_wo_at w366 g364
        refine g_n 6 (pc' := 100) (L' := [some (.ref 0), some (.int 0), some (.ref 27), some (.int 9)]) (st' := [.ref 0]) rfl ?_
        have g369 := x_wo_ne w366 g361 (x_nb rfl)
        refine g_get (i := 48) (kd := 1) (ci := 11) (k := 3) (tc := 3) (v := .ref 3) rfl rfl (Or.inl (by decide)) g369 rfl ?_
        refine g_n 1 (pc' := 104) (L' := [some (.ref 0), some (.int 0), some (.ref 27), some (.int 9)]) (st' := [.int 9, .ref 3]) rfl ?_
        have g370 := x_wa_ne w366 g362 (x_nb rfl)
        refine g_aa (i := 9) (a := 3) (n := 12) (v := 164) rfl g370 (by decide) (x_at (x_f3 hF) (k := 9) rfl) ?_
        have b371 : x_obj (x_W fi fl fr) 164 = some (10, [.ref 165, .ref 167, .int 402, .int 0, .int 0, .int 0, .int 0, .int 0, .int 0, .int 0, .int 0, .int 0]) := rfl
        have g372 := x_wo_ne w366 (x_wo_ne w358 (x_wo_ne w350 (x_wo_ne w342 (x_wo_ne w334 (x_wo_ne w326 (x_wo_ne w318 (x_wo_ne w310 (x_wo_ne w302 (x_wo_ne w294 (x_wo_ne w288 (x_wo_ne w280 (x_wo_ne w274 (x_wo_ne w269 (x_wo_ne w265 (x_wo_ne w257 (x_wo_ne w253 (x_wo_ne w245 (x_wo_ne w236 (x_wo_ne w232 (x_wo_ne w228 (x_wo_ne w224 (x_wo_ne w219 (x_wo_ne w209 (x_wo_ne w199 (x_wo_ne w189 (x_wo_ne w179 (x_wo_ne w169 (x_wo_ne w159 (x_wo_ne w155 (x_wo_ne w148 (x_wo_ne w144 (x_wo_ne w138 (x_wo_ne w134 (x_wo_ne w130 (x_wo_ne w126 (x_wo_ne w122 (x_wo_ne w116 (x_wo_ne w109 (x_wo_ne w104 (x_wo_ne w99 (x_wo_ne w95 (x_wo_ne w90 (x_wo_ne w86 (x_wo_ne w81 (x_wo_ne w76 (x_wo_ne w69 (x_wo_ne w61 (x_wo_ne w53 (x_wo_ne w46 (x_wo_ne w37 (x_wo_ne w33 (x_wo_ne w26 (x_wo_ne w22 (x_wo_ne w16 (x_wo_ne w12 b371 (x_nb rfl)) (x_nb rfl)) (x_nb rfl)) (x_nb rfl)) (x_nb rfl)) (x_nb rfl)) (x_nb rfl)) (x_nb rfl)) (x_nb rfl)) (x_nb rfl)) (x_nb rfl)) (x_nb rfl)) (x_nb rfl)) (x_nb rfl)) (x_nb rfl)) (x_nb rfl)) (x_nb rfl)) (x_nb rfl)) (x_nb rfl)) (x_nb rfl)) (x_nb rfl)) (x_nb rfl)) (x_nb rfl)) (x_nb rfl)) (x_nb rfl)) (x_nb rfl)) (x_nb rfl)) (x_nb rfl)) (x_nb rfl)) (x_nb rfl)) (x_nb rfl)) (x_nb rfl)) (x_nb rfl)) (x_nb rfl)) (x_nb rfl)) (x_nb rfl)) (x_nb rfl)) (x_nb rfl)) (x_nb rfl)) (x_nb rfl)) (x_nb rfl)) (x_nb rfl)) (x_nb rfl)) (x_nb rfl)) (x_nb rfl)) (x_nb rfl)) (x_nb rfl)) (x_nb rfl)) (x_nb rfl)) (x_nb rfl)) (x_nb rfl)) (x_nb rfl)) (x_nb rfl)) (x_nb rfl)) (x_nb rfl)) (x_nb rfl)
        refine g_get (i := 189) (kd := 0) (ci := 10) (k := 6) (tc := 0) (v := .int 0) rfl rfl (Or.inl (by decide)) g372 rfl ?_
        refine g_n 3 (pc' := 113) (L' := [some (.ref 0), some (.int 0), some (.ref 27), some (.int 9)]) (st' := [.ref 0]) rfl ?_
        refine g_get (i := 48) (kd := 1) (ci := 11) (k := 3) (tc := 3) (v := .ref 3) rfl rfl (Or.inl (by decide)) g369 rfl ?_
        refine g_n 1 (pc' := 117) (L' := [some (.ref 0), some (.int 0), some (.ref 27), some (.int 9)]) (st' := [.int 9, .ref 3]) rfl ?_
        refine g_aa (i := 9) (a := 3) (n := 12) (v := 164) rfl g370 (by decide) (x_at (x_f3 hF) (k := 9) rfl) ?_
        refine g_n 1 (pc' := 119) (L' := [some (.ref 0), some (.int 0), some (.ref 27), some (.int 9)]) (st' := [.int 0, .ref 164]) rfl ?_
        refine g_putN (i := 192) (kd := 0) (ci := 10) (k := 5) (tc := 2) (fs' := [.ref 165, .ref 167, .int 402, .int 0, .int 0, .int 0, .int 0, .int 0, .int 0, .int 0, .int 0, .int 0]) rfl rfl (Or.inl rfl) g372 (x_ltL rfl rfl) rfl rfl (fun S373 w374 => ?_)
        have s375 := x_wsO w374 g372 rfl s367
        have g376 := x_wo_at w374 g372
        refine g_n 6 (pc' := 100) (L' := [some (.ref 0), some (.int 0), some (.ref 27), some (.int 10)]) (st' := [.ref 0]) rfl ?_
        have g377 := x_wo_ne w374 g369 (x_nb rfl)
        refine g_get (i := 48) (kd := 1) (ci := 11) (k := 3) (tc := 3) (v := .ref 3) rfl rfl (Or.inl (by decide)) g377 rfl ?_
        refine g_n 1 (pc' := 104) (L' := [some (.ref 0), some (.int 0), some (.ref 27), some (.int 10)]) (st' := [.int 10, .ref 3]) rfl ?_
        have g378 := x_wa_ne w374 g370 (x_nb rfl)
        refine g_aa (i := 10) (a := 3) (n := 12) (v := 169) rfl g378 (by decide) (x_at (x_f3 hF) (k := 10) rfl) ?_
        have b379 : x_obj (x_W fi fl fr) 169 = some (10, [.ref 170, .ref 172, .int 402, .int 0, .int 0, .int 0, .int 0, .int 0, .int 0, .int 0, .int 0, .int 0]) := rfl
        have g380 := x_wo_ne w374 (x_wo_ne w366 (x_wo_ne w358 (x_wo_ne w350 (x_wo_ne w342 (x_wo_ne w334 (x_wo_ne w326 (x_wo_ne w318 (x_wo_ne w310 (x_wo_ne w302 (x_wo_ne w294 (x_wo_ne w288 (x_wo_ne w280 (x_wo_ne w274 (x_wo_ne w269 (x_wo_ne w265 (x_wo_ne w257 (x_wo_ne w253 (x_wo_ne w245 (x_wo_ne w236 (x_wo_ne w232 (x_wo_ne w228 (x_wo_ne w224 (x_wo_ne w219 (x_wo_ne w209 (x_wo_ne w199 (x_wo_ne w189 (x_wo_ne w179 (x_wo_ne w169 (x_wo_ne w159 (x_wo_ne w155 (x_wo_ne w148 (x_wo_ne w144 (x_wo_ne w138 (x_wo_ne w134 (x_wo_ne w130 (x_wo_ne w126 (x_wo_ne w122 (x_wo_ne w116 (x_wo_ne w109 (x_wo_ne w104 (x_wo_ne w99 (x_wo_ne w95 (x_wo_ne w90 (x_wo_ne w86 (x_wo_ne w81 (x_wo_ne w76 (x_wo_ne w69 (x_wo_ne w61 (x_wo_ne w53 (x_wo_ne w46 (x_wo_ne w37 (x_wo_ne w33 (x_wo_ne w26 (x_wo_ne w22 (x_wo_ne w16 (x_wo_ne w12 b379 (x_nb rfl)) (x_nb rfl)) (x_nb rfl)) (x_nb rfl)) (x_nb rfl)) (x_nb rfl)) (x_nb rfl)) (x_nb rfl)) (x_nb rfl)) (x_nb rfl)) (x_nb rfl)) (x_nb rfl)) (x_nb rfl)) (x_nb rfl)) (x_nb rfl)) (x_nb rfl)) (x_nb rfl)) (x_nb rfl)) (x_nb rfl)) (x_nb rfl)) (x_nb rfl)) (x_nb rfl)) (x_nb rfl)) (x_nb rfl)) (x_nb rfl)) (x_nb rfl)) (x_nb rfl)) (x_nb rfl)) (x_nb rfl)) (x_nb rfl)) (x_nb rfl)) (x_nb rfl)) (x_nb rfl)) (x_nb rfl)) (x_nb rfl)) (x_nb rfl)) (x_nb rfl)) (x_nb rfl)) (x_nb rfl)) (x_nb rfl)) (x_nb rfl)) (x_nb rfl)) (x_nb rfl)) (x_nb rfl)) (x_nb rfl)) (x_nb rfl)) (x_nb rfl)) (x_nb rfl)) (x_nb rfl)) (x_nb rfl)) (x_nb rfl)) (x_nb rfl)) (x_nb rfl)) (x_nb rfl)) (x_nb rfl)) (x_nb rfl)) (x_nb rfl)
        refine g_get (i := 189) (kd := 0) (ci := 10) (k := 6) (tc := 0) (v := .int 0) rfl rfl (Or.inl (by decide)) g380 rfl ?_
        refine g_n 3 (pc' := 113) (L' := [some (.ref 0), some (.int 0), some (.ref 27), some (.int 10)]) (st' := [.ref 0]) rfl ?_
        refine g_get (i := 48) (kd := 1) (ci := 11) (k := 3) (tc := 3) (v := .ref 3) rfl rfl (Or.inl (by decide)) g377 rfl ?_
        refine g_n 1 (pc' := 117) (L' := [some (.ref 0), some (.int 0), some (.ref 27), some (.int 10)]) (st' := [.int 10, .ref 3]) rfl ?_
        refine g_aa (i := 10) (a := 3) (n := 12) (v := 169) rfl g378 (by decide) (x_at (x_f3 hF) (k := 10) rfl) ?_
        refine g_n 1 (pc' := 119) (L' := [some (.ref 0), some (.int 0), some (.ref 27), some (.int 10)]) (st' := [.int 0, .ref 169]) rfl ?_
        refine g_putN (i := 192) (kd := 0) (ci := 10) (k := 5) (tc := 2) (fs' := [.ref 170, .ref 172, .int 402, .int 0, .int 0, .int 0, .int 0, .int 0, .int 0, .int 0, .int 0, .int 0]) rfl rfl (Or.inl rfl) g380 (x_ltL rfl rfl) rfl rfl (fun S381 w382 => ?_)
        have s383 := x_wsO w382 g380 rfl s375
        have g384 := x_wo_at w382 g380
        refine g_n 6 (pc' := 100) (L' := [some (.ref 0), some (.int 0), some (.ref 27), some (.int 11)]) (st' := [.ref 0]) rfl ?_
        have g385 := x_wo_ne w382 g377 (x_nb rfl)
        refine g_get (i := 48) (kd := 1) (ci := 11) (k := 3) (tc := 3) (v := .ref 3) rfl rfl (Or.inl (by decide)) g385 rfl ?_
        refine g_n 1 (pc' := 104) (L' := [some (.ref 0), some (.int 0), some (.ref 27), some (.int 11)]) (st' := [.int 11, .ref 3]) rfl ?_
        have g386 := x_wa_ne w382 g378 (x_nb rfl)
        refine g_aa (i := 11) (a := 3) (n := 12) (v := 174) rfl g386 (by decide) (x_at (x_f3 hF) (k := 11) rfl) ?_
        have b387 : x_obj (x_W fi fl fr) 174 = some (10, [.ref 175, .ref 177, .int 402, .int 0, .int 0, .int 0, .int 0, .int 0, .int 0, .int 0, .int 0, .int 0]) := rfl
        have g388 := x_wo_ne w382 (x_wo_ne w374 (x_wo_ne w366 (x_wo_ne w358 (x_wo_ne w350 (x_wo_ne w342 (x_wo_ne w334 (x_wo_ne w326 (x_wo_ne w318 (x_wo_ne w310 (x_wo_ne w302 (x_wo_ne w294 (x_wo_ne w288 (x_wo_ne w280 (x_wo_ne w274 (x_wo_ne w269 (x_wo_ne w265 (x_wo_ne w257 (x_wo_ne w253 (x_wo_ne w245 (x_wo_ne w236 (x_wo_ne w232 (x_wo_ne w228 (x_wo_ne w224 (x_wo_ne w219 (x_wo_ne w209 (x_wo_ne w199 (x_wo_ne w189 (x_wo_ne w179 (x_wo_ne w169 (x_wo_ne w159 (x_wo_ne w155 (x_wo_ne w148 (x_wo_ne w144 (x_wo_ne w138 (x_wo_ne w134 (x_wo_ne w130 (x_wo_ne w126 (x_wo_ne w122 (x_wo_ne w116 (x_wo_ne w109 (x_wo_ne w104 (x_wo_ne w99 (x_wo_ne w95 (x_wo_ne w90 (x_wo_ne w86 (x_wo_ne w81 (x_wo_ne w76 (x_wo_ne w69 (x_wo_ne w61 (x_wo_ne w53 (x_wo_ne w46 (x_wo_ne w37 (x_wo_ne w33 (x_wo_ne w26 (x_wo_ne w22 (x_wo_ne w16 (x_wo_ne w12 b387 (x_nb rfl)) (x_nb rfl)) (x_nb rfl)) (x_nb rfl)) (x_nb rfl)) (x_nb rfl)) (x_nb rfl)) (x_nb rfl)) (x_nb rfl)) (x_nb rfl)) (x_nb rfl)) (x_nb rfl)) (x_nb rfl)) (x_nb rfl)) (x_nb rfl)) (x_nb rfl)) (x_nb rfl)) (x_nb rfl)) (x_nb rfl)) (x_nb rfl)) (x_nb rfl)) (x_nb rfl)) (x_nb rfl)) (x_nb rfl)) (x_nb rfl)) (x_nb rfl)) (x_nb rfl)) (x_nb rfl)) (x_nb rfl)) (x_nb rfl)) (x_nb rfl)) (x_nb rfl)) (x_nb rfl)) (x_nb rfl)) (x_nb rfl)) (x_nb rfl)) (x_nb rfl)) (x_nb rfl)) (x_nb rfl)) (x_nb rfl)) (x_nb rfl)) (x_nb rfl)) (x_nb rfl)) (x_nb rfl)) (x_nb rfl)) (x_nb rfl)) (x_nb rfl)) (x_nb rfl)) (x_nb rfl)) (x_nb rfl)) (x_nb rfl)) (x_nb rfl)) (x_nb rfl)) (x_nb rfl)) (x_nb rfl)) (x_nb rfl)) (x_nb rfl)) (x_nb rfl)
        refine g_get (i := 189) (kd := 0) (ci := 10) (k := 6) (tc := 0) (v := .int 0) rfl rfl (Or.inl (by decide)) g388 rfl ?_
        refine g_n 3 (pc' := 113) (L' := [some (.ref 0), some (.int 0), some (.ref 27), some (.int 11)]) (st' := [.ref 0]) rfl ?_
        refine g_get (i := 48) (kd := 1) (ci := 11) (k := 3) (tc := 3) (v := .ref 3) rfl rfl (Or.inl (by decide)) g385 rfl ?_
        refine g_n 1 (pc' := 117) (L' := [some (.ref 0), some (.int 0), some (.ref 27), some (.int 11)]) (st' := [.int 11, .ref 3]) rfl ?_
        refine g_aa (i := 11) (a := 3) (n := 12) (v := 174) rfl g386 (by decide) (x_at (x_f3 hF) (k := 11) rfl) ?_
        refine g_n 1 (pc' := 119) (L' := [some (.ref 0), some (.int 0), some (.ref 27), some (.int 11)]) (st' := [.int 0, .ref 174]) rfl ?_
        refine g_putN (i := 192) (kd := 0) (ci := 10) (k := 5) (tc := 2) (fs' := [.ref 175, .ref 177, .int 402, .int 0, .int 0, .int 0, .int 0, .int 0, .int 0, .int 0, .int 0, .int 0]) rfl rfl (Or.inl rfl) g388 (x_ltL rfl rfl) rfl rfl (fun S389 w390 => ?_)
        have s391 := x_wsO w390 g388 rfl s383
        have g392 := x_wo_at w390 g388
        refine g_n 6 (pc' := 129) (L' := [some (.ref 0), some (.int 0), some (.ref 27), some (.int 12)]) (st' := [.ref 0]) rfl ?_
        have g393 := x_wo_ne w390 g385 (x_nb rfl)
        refine g_get (i := 139) (kd := 1) (ci := 11) (k := 11) (tc := 3) (v := .ref 248) rfl rfl (Or.inl (by decide)) g393 rfl ?_
        refine g_n 1 (pc' := 133) (L' := [some (.ref 0), some (.int 0), some (.ref 27), some (.int 12)]) (st' := [.int 0, .ref 248]) rfl ?_
        have b394 : x_obj (x_W fi fl fr) 248 = some (3, [.ref 249, .ref 251, .int 0, .int 0, .int 0, .int 0, .int (-2), .int 0, .int 0, .ref 253, .ref 255, .ref 257, .ref 259, .ref 261, .ref 262, .ref 264, .ref 266, .ref 268, .int 0, .int 0]) := rfl
        have g395 := x_wo_ne w390 (x_wo_ne w382 (x_wo_ne w374 (x_wo_ne w366 (x_wo_ne w358 (x_wo_ne w350 (x_wo_ne w342 (x_wo_ne w334 (x_wo_ne w326 (x_wo_ne w318 (x_wo_ne w310 (x_wo_ne w302 (x_wo_ne w294 (x_wo_ne w288 (x_wo_ne w280 (x_wo_ne w274 (x_wo_ne w269 (x_wo_ne w265 (x_wo_ne w257 (x_wo_ne w253 (x_wo_ne w245 (x_wo_ne w236 (x_wo_ne w232 (x_wo_ne w228 (x_wo_ne w224 (x_wo_ne w219 (x_wo_ne w209 (x_wo_ne w199 (x_wo_ne w189 (x_wo_ne w179 (x_wo_ne w169 (x_wo_ne w159 (x_wo_ne w155 (x_wo_ne w148 (x_wo_ne w144 (x_wo_ne w138 (x_wo_ne w134 (x_wo_ne w130 (x_wo_ne w126 (x_wo_ne w122 (x_wo_ne w116 (x_wo_ne w109 (x_wo_ne w104 (x_wo_ne w99 (x_wo_ne w95 (x_wo_ne w90 (x_wo_ne w86 (x_wo_ne w81 (x_wo_ne w76 (x_wo_ne w69 (x_wo_ne w61 (x_wo_ne w53 (x_wo_ne w46 (x_wo_ne w37 (x_wo_ne w33 (x_wo_ne w26 (x_wo_ne w22 (x_wo_ne w16 (x_wo_ne w12 b394 (x_nb rfl)) (x_nb rfl)) (x_nb rfl)) (x_nb rfl)) (x_nb rfl)) (x_nb rfl)) (x_nb rfl)) (x_nb rfl)) (x_nb rfl)) (x_nb rfl)) (x_nb rfl)) (x_nb rfl)) (x_nb rfl)) (x_nb rfl)) (x_nb rfl)) (x_nb rfl)) (x_nb rfl)) (x_nb rfl)) (x_nb rfl)) (x_nb rfl)) (x_nb rfl)) (x_nb rfl)) (x_nb rfl)) (x_nb rfl)) (x_nb rfl)) (x_nb rfl)) (x_nb rfl)) (x_nb rfl)) (x_nb rfl)) (x_nb rfl)) (x_nb rfl)) (x_nb rfl)) (x_nb rfl)) (x_nb rfl)) (x_nb rfl)) (x_nb rfl)) (x_nb rfl)) (x_nb rfl)) (x_nb rfl)) (x_nb rfl)) (x_nb rfl)) (x_nb rfl)) (x_nb rfl)) (x_nb rfl)) (x_nb rfl)) (x_nb rfl)) (x_nb rfl)) (x_nb rfl)) (x_nb rfl)) (x_nb rfl)) (x_nb rfl)) (x_nb rfl)) (x_nb rfl)) (x_nb rfl)) (x_nb rfl)) (x_nb rfl)) (x_nb rfl)) (x_nb rfl)) (x_nb rfl)
        refine g_vcall (i := 196) (kd := 3) (j := 75) (np := 1) (ci := 3) (as := [.ref 248, .int 0]) (rest := []) rfl rfl (Or.inl rfl) (Nat.le_of_ble_eq_true rfl) rfl rfl g395 rfl rfl ?_
        refine g_in (M := x_M75) (L := [some (.ref 248), some (.int 0), none]) x_pl75 rfl ?_
        refine g_n 1 (pc' := 1) (L' := [some (.ref 248), some (.int 0), none]) (st' := [.ref 248]) rfl ?_
        refine g_get (i := 29) (kd := 0) (ci := 3) (k := 6) (tc := 0) (v := .int (-2)) rfl rfl (Or.inl (by decide)) g395 rfl ?_
        refine g_n 9 (pc' := 21) (L' := [some (.ref 248), some (.int 0), some (.int 0)]) (st' := [.int 0, .ref 248]) rfl ?_
        refine g_vcall (i := 99) (kd := 3) (j := 76) (np := 1) (ci := 3) (as := [.ref 248, .int 0]) (rest := []) rfl rfl (Or.inl rfl) (Nat.le_of_ble_eq_true rfl) rfl rfl g395 rfl rfl ?_
        refine g_in (M := x_M76) (L := [some (.ref 248), some (.int 0)]) x_pl76 rfl ?_
        refine g_n 1 (pc' := 1) (L' := [some (.ref 248), some (.int 0)]) (st' := [.ref 248]) rfl ?_
        refine g_get (i := 38) (kd := 1) (ci := 3) (k := 10) (tc := 3) (v := .ref 255) rfl rfl (Or.inl (by decide)) g395 rfl ?_
        refine g_n 2 (pc' := 6) (L' := [some (.ref 248), some (.int 0)]) (st' := [.int 4, .int 0, .ref 255]) rfl ?_
        have b396 : x_obj (x_W fi fl fr) 255 = some (8, [.ref 256, .int 1, .int 3, .int 6]) := rfl
        have g397 := x_wo_ne w390 (x_wo_ne w382 (x_wo_ne w374 (x_wo_ne w366 (x_wo_ne w358 (x_wo_ne w350 (x_wo_ne w342 (x_wo_ne w334 (x_wo_ne w326 (x_wo_ne w318 (x_wo_ne w310 (x_wo_ne w302 (x_wo_ne w294 (x_wo_ne w288 (x_wo_ne w280 (x_wo_ne w274 (x_wo_ne w269 (x_wo_ne w265 (x_wo_ne w257 (x_wo_ne w253 (x_wo_ne w245 (x_wo_ne w236 (x_wo_ne w232 (x_wo_ne w228 (x_wo_ne w224 (x_wo_ne w219 (x_wo_ne w209 (x_wo_ne w199 (x_wo_ne w189 (x_wo_ne w179 (x_wo_ne w169 (x_wo_ne w159 (x_wo_ne w155 (x_wo_ne w148 (x_wo_ne w144 (x_wo_ne w138 (x_wo_ne w134 (x_wo_ne w130 (x_wo_ne w126 (x_wo_ne w122 (x_wo_ne w116 (x_wo_ne w109 (x_wo_ne w104 (x_wo_ne w99 (x_wo_ne w95 (x_wo_ne w90 (x_wo_ne w86 (x_wo_ne w81 (x_wo_ne w76 (x_wo_ne w69 (x_wo_ne w61 (x_wo_ne w53 (x_wo_ne w46 (x_wo_ne w37 (x_wo_ne w33 (x_wo_ne w26 (x_wo_ne w22 (x_wo_ne w16 (x_wo_ne w12 b396 (x_nb rfl)) (x_nb rfl)) (x_nb rfl)) (x_nb rfl)) (x_nb rfl)) (x_nb rfl)) (x_nb rfl)) (x_nb rfl)) (x_nb rfl)) (x_nb rfl)) (x_nb rfl)) (x_nb rfl)) (x_nb rfl)) (x_nb rfl)) (x_nb rfl)) (x_nb rfl)) (x_nb rfl)) (x_nb rfl)) (x_nb rfl)) (x_nb rfl)) (x_nb rfl)) (x_nb rfl)) (x_nb rfl)) (x_nb rfl)) (x_nb rfl)) (x_nb rfl)) (x_nb rfl)) (x_nb rfl)) (x_nb rfl)) (x_nb rfl)) (x_nb rfl)) (x_nb rfl)) (x_nb rfl)) (x_nb rfl)) (x_nb rfl)) (x_nb rfl)) (x_nb rfl)) (x_nb rfl)) (x_nb rfl)) (x_nb rfl)) (x_nb rfl)) (x_nb rfl)) (x_nb rfl)) (x_nb rfl)) (x_nb rfl)) (x_nb rfl)) (x_nb rfl)) (x_nb rfl)) (x_nb rfl)) (x_nb rfl)) (x_nb rfl)) (x_nb rfl)) (x_nb rfl)) (x_nb rfl)) (x_nb rfl)) (x_nb rfl)) (x_nb rfl)) (x_nb rfl)) (x_nb rfl)
        refine g_vcall (i := 95) (kd := 3) (j := 263) (np := 2) (ci := 8) (as := [.ref 255, .int 0, .int 4]) (rest := []) rfl rfl (Or.inl rfl) (Nat.le_of_ble_eq_true rfl) rfl rfl g397 rfl rfl ?_
        refine g_in (M := x_M263) (L := [some (.ref 255), some (.int 0), some (.int 4), none]) x_pl263 rfl ?_
        refine g_n 4 (pc' := 6) (L' := [some (.ref 255), some (.int 0), some (.int 4), none]) (st' := [.ref 255, .int 0]) rfl ?_
        refine g_get (i := 13) (kd := 1) (ci := 8) (k := 2) (tc := 0) (v := .int 3) rfl rfl (Or.inl (by decide)) g397 rfl ?_
        refine g_n 5 (pc' := 18) (L' := [some (.ref 255), some (.int 0), some (.int 4), none]) (st' := [.ref 255, .int 4]) rfl ?_
        refine g_get (i := 16) (kd := 1) (ci := 8) (k := 3) (tc := 0) (v := .int 6) rfl rfl (Or.inl (by decide)) g397 rfl ?_
        refine g_n 3 (pc' := 26) (L' := [some (.ref 255), some (.int 0), some (.int 4), none]) (st' := [.ref 255, .int 0]) rfl ?_
        refine g_get (i := 16) (kd := 1) (ci := 8) (k := 3) (tc := 0) (v := .int 6) rfl rfl (Or.inl (by decide)) g397 rfl ?_
        refine g_n 9 (pc' := 43) (L' := [some (.ref 255), some (.int 0), some (.int 4), some (.int 4)]) (st' := [.ref 255, .int 4]) rfl ?_
        refine g_get (i := 25) (kd := 1) (ci := 8) (k := 0) (tc := 3) (v := .ref 256) rfl rfl (Or.inl (by decide)) g397 rfl ?_
        have b398 : x_arr (x_W fi fl fr) 256 = some (1, 18, .inr (.inl (fl 256))) := rfl
        have g399 := x_wa_ne w390 (x_wa_ne w382 (x_wa_ne w374 (x_wa_ne w366 (x_wa_ne w358 (x_wa_ne w350 (x_wa_ne w342 (x_wa_ne w334 (x_wa_ne w326 (x_wa_ne w318 (x_wa_ne w310 (x_wa_ne w302 (x_wa_ne w294 (x_wa_ne w288 (x_wa_ne w280 (x_wa_ne w274 (x_wa_ne w269 (x_wa_ne w265 (x_wa_ne w257 (x_wa_ne w253 (x_wa_ne w245 (x_wa_ne w236 (x_wa_ne w232 (x_wa_ne w228 (x_wa_ne w224 (x_wa_ne w219 (x_wa_ne w209 (x_wa_ne w199 (x_wa_ne w189 (x_wa_ne w179 (x_wa_ne w169 (x_wa_ne w159 (x_wa_ne w155 (x_wa_ne w148 (x_wa_ne w144 (x_wa_ne w138 (x_wa_ne w134 (x_wa_ne w130 (x_wa_ne w126 (x_wa_ne w122 (x_wa_ne w116 (x_wa_ne w109 (x_wa_ne w104 (x_wa_ne w99 (x_wa_ne w95 (x_wa_ne w90 (x_wa_ne w86 (x_wa_ne w81 (x_wa_ne w76 (x_wa_ne w69 (x_wa_ne w61 (x_wa_ne w53 (x_wa_ne w46 (x_wa_ne w37 (x_wa_ne w33 (x_wa_ne w26 (x_wa_ne w22 (x_wa_ne w16 (x_wa_ne w12 b398 (x_nb rfl)) (x_nb rfl)) (x_nb rfl)) (x_nb rfl)) (x_nb rfl)) (x_nb rfl)) (x_nb rfl)) (x_nb rfl)) (x_nb rfl)) (x_nb rfl)) (x_nb rfl)) (x_nb rfl)) (x_nb rfl)) (x_nb rfl)) (x_nb rfl)) (x_nb rfl)) (x_nb rfl)) (x_nb rfl)) (x_nb rfl)) (x_nb rfl)) (x_nb rfl)) (x_nb rfl)) (x_nb rfl)) (x_nb rfl)) (x_nb rfl)) (x_nb rfl)) (x_nb rfl)) (x_nb rfl)) (x_nb rfl)) (x_nb rfl)) (x_nb rfl)) (x_nb rfl)) (x_nb rfl)) (x_nb rfl)) (x_nb rfl)) (x_nb rfl)) (x_nb rfl)) (x_nb rfl)) (x_nb rfl)) (x_nb rfl)) (x_nb rfl)) (x_nb rfl)) (x_nb rfl)) (x_nb rfl)) (x_nb rfl)) (x_nb rfl)) (x_nb rfl)) (x_nb rfl)) (x_nb rfl)) (x_nb rfl)) (x_nb rfl)) (x_nb rfl)) (x_nb rfl)) (x_nb rfl)) (x_nb rfl)) (x_nb rfl)) (x_nb rfl)) (x_nb rfl)) (x_nb rfl)
        refine g_len rfl g399 (by decide) ?_
        refine g_n 2 (pc' := 51) (L' := [some (.ref 255), some (.int 0), some (.int 4), some (.int 4)]) (st' := [.ref 255]) rfl ?_
        refine g_get (i := 25) (kd := 1) (ci := 8) (k := 0) (tc := 3) (v := .ref 256) rfl rfl (Or.inl (by decide)) g397 rfl ?_
        refine g_n 1 (pc' := 55) (L' := [some (.ref 255), some (.int 0), some (.int 4), some (.int 4)]) (st' := [.int 4, .ref 256]) rfl ?_
        refine g_la (i := 4) (a := 256) (n := 18) (v := 0) rfl g399 (by decide) (x_at (x_f256 hF) (k := 4) rfl) ?_
        refine g_n 2 (pc' := 61) (L' := [some (.ref 255), some (.int 0), some (.int 4), some (.int 4)]) (st' := [.int 0]) rfl ?_
        refine g_ret (ins := .ireturn) (len := 1) (r := (some (.int 0))) rfl rfl rfl ?_
        refine g_n 3 (pc' := 18) (L' := [some (.ref 248), some (.int 0)]) (st' := [.int 0]) rfl ?_
        refine g_ret (ins := .ireturn) (len := 1) (r := (some (.int 0))) rfl rfl rfl ?_
        refine g_n 8 (pc' := 21) (L' := [some (.ref 248), some (.int 0), some (.int 1)]) (st' := [.int 1, .ref 248]) rfl ?_
        refine g_vcall (i := 99) (kd := 3) (j := 76) (np := 1) (ci := 3) (as := [.ref 248, .int 1]) (rest := []) rfl rfl (Or.inl rfl) (Nat.le_of_ble_eq_true rfl) rfl rfl g395 rfl rfl ?_
        refine g_in (M := x_M76) (L := [some (.ref 248), some (.int 1)]) x_pl76 rfl ?_
        refine g_n 1 (pc' := 1) (L' := [some (.ref 248), some (.int 1)]) (st' := [.ref 248]) rfl ?_
        refine g_get (i := 38) (kd := 1) (ci := 3) (k := 10) (tc := 3) (v := .ref 255) rfl rfl (Or.inl (by decide)) g395 rfl ?_
        refine g_n 2 (pc' := 6) (L' := [some (.ref 248), some (.int 1)]) (st' := [.int 4, .int 1, .ref 255]) rfl ?_
        refine g_vcall (i := 95) (kd := 3) (j := 263) (np := 2) (ci := 8) (as := [.ref 255, .int 1, .int 4]) (rest := []) rfl rfl (Or.inl rfl) (Nat.le_of_ble_eq_true rfl) rfl rfl g397 rfl rfl ?_
        refine g_in (M := x_M263) (L := [some (.ref 255), some (.int 1), some (.int 4), none]) x_pl263 rfl ?_
        refine g_n 4 (pc' := 6) (L' := [some (.ref 255), some (.int 1), some (.int 4), none]) (st' := [.ref 255, .int 1]) rfl ?_
        refine g_get (i := 13) (kd := 1) (ci := 8) (k := 2) (tc := 0) (v := .int 3) rfl rfl (Or.inl (by decide)) g397 rfl ?_
        refine g_n 5 (pc' := 18) (L' := [some (.ref 255), some (.int 1), some (.int 4), none]) (st' := [.ref 255, .int 4]) rfl ?_
        refine g_get (i := 16) (kd := 1) (ci := 8) (k := 3) (tc := 0) (v := .int 6) rfl rfl (Or.inl (by decide)) g397 rfl ?_
        refine g_n 3 (pc' := 26) (L' := [some (.ref 255), some (.int 1), some (.int 4), none]) (st' := [.ref 255, .int 1]) rfl ?_
        refine g_get (i := 16) (kd := 1) (ci := 8) (k := 3) (tc := 0) (v := .int 6) rfl rfl (Or.inl (by decide)) g397 rfl ?_
        refine g_n 9 (pc' := 43) (L' := [some (.ref 255), some (.int 1), some (.int 4), some (.int 10)]) (st' := [.ref 255, .int 10]) rfl ?_
        refine g_get (i := 25) (kd := 1) (ci := 8) (k := 0) (tc := 3) (v := .ref 256) rfl rfl (Or.inl (by decide)) g397 rfl ?_
        refine g_len rfl g399 (by decide) ?_
        refine g_n 2 (pc' := 51) (L' := [some (.ref 255), some (.int 1), some (.int 4), some (.int 10)]) (st' := [.ref 255]) rfl ?_
        refine g_get (i := 25) (kd := 1) (ci := 8) (k := 0) (tc := 3) (v := .ref 256) rfl rfl (Or.inl (by decide)) g397 rfl ?_
        refine g_n 1 (pc' := 55) (L' := [some (.ref 255), some (.int 1), some (.int 4), some (.int 10)]) (st' := [.int 10, .ref 256]) rfl ?_
        refine g_la (i := 10) (a := 256) (n := 18) (v := 0) rfl g399 (by decide) (x_at (x_f256 hF) (k := 10) rfl) ?_
        refine g_n 2 (pc' := 61) (L' := [some (.ref 255), some (.int 1), some (.int 4), some (.int 10)]) (st' := [.int 0]) rfl ?_
        refine g_ret (ins := .ireturn) (len := 1) (r := (some (.int 0))) rfl rfl rfl ?_
        refine g_n 3 (pc' := 18) (L' := [some (.ref 248), some (.int 1)]) (st' := [.int 0]) rfl ?_
        refine g_ret (ins := .ireturn) (len := 1) (r := (some (.int 0))) rfl rfl rfl ?_
        refine g_n 8 (pc' := 21) (L' := [some (.ref 248), some (.int 0), some (.int 2)]) (st' := [.int 2, .ref 248]) rfl ?_
        refine g_vcall (i := 99) (kd := 3) (j := 76) (np := 1) (ci := 3) (as := [.ref 248, .int 2]) (rest := []) rfl rfl (Or.inl rfl) (Nat.le_of_ble_eq_true rfl) rfl rfl g395 rfl rfl ?_
        refine g_in (M := x_M76) (L := [some (.ref 248), some (.int 2)]) x_pl76 rfl ?_
        refine g_n 1 (pc' := 1) (L' := [some (.ref 248), some (.int 2)]) (st' := [.ref 248]) rfl ?_
        refine g_get (i := 38) (kd := 1) (ci := 3) (k := 10) (tc := 3) (v := .ref 255) rfl rfl (Or.inl (by decide)) g395 rfl ?_
        refine g_n 2 (pc' := 6) (L' := [some (.ref 248), some (.int 2)]) (st' := [.int 4, .int 2, .ref 255]) rfl ?_
        refine g_vcall (i := 95) (kd := 3) (j := 263) (np := 2) (ci := 8) (as := [.ref 255, .int 2, .int 4]) (rest := []) rfl rfl (Or.inl rfl) (Nat.le_of_ble_eq_true rfl) rfl rfl g397 rfl rfl ?_
        refine g_in (M := x_M263) (L := [some (.ref 255), some (.int 2), some (.int 4), none]) x_pl263 rfl ?_
        refine g_n 4 (pc' := 6) (L' := [some (.ref 255), some (.int 2), some (.int 4), none]) (st' := [.ref 255, .int 2]) rfl ?_
        refine g_get (i := 13) (kd := 1) (ci := 8) (k := 2) (tc := 0) (v := .int 3) rfl rfl (Or.inl (by decide)) g397 rfl ?_
        refine g_n 5 (pc' := 18) (L' := [some (.ref 255), some (.int 2), some (.int 4), none]) (st' := [.ref 255, .int 4]) rfl ?_
        refine g_get (i := 16) (kd := 1) (ci := 8) (k := 3) (tc := 0) (v := .int 6) rfl rfl (Or.inl (by decide)) g397 rfl ?_
        refine g_n 3 (pc' := 26) (L' := [some (.ref 255), some (.int 2), some (.int 4), none]) (st' := [.ref 255, .int 2]) rfl ?_
        refine g_get (i := 16) (kd := 1) (ci := 8) (k := 3) (tc := 0) (v := .int 6) rfl rfl (Or.inl (by decide)) g397 rfl ?_
        refine g_n 9 (pc' := 43) (L' := [some (.ref 255), some (.int 2), some (.int 4), some (.int 16)]) (st' := [.ref 255, .int 16]) rfl ?_
        refine g_get (i := 25) (kd := 1) (ci := 8) (k := 0) (tc := 3) (v := .ref 256) rfl rfl (Or.inl (by decide)) g397 rfl ?_
        refine g_len rfl g399 (by decide) ?_
        refine g_n 2 (pc' := 51) (L' := [some (.ref 255), some (.int 2), some (.int 4), some (.int 16)]) (st' := [.ref 255]) rfl ?_
        refine g_get (i := 25) (kd := 1) (ci := 8) (k := 0) (tc := 3) (v := .ref 256) rfl rfl (Or.inl (by decide)) g397 rfl ?_
        refine g_n 1 (pc' := 55) (L' := [some (.ref 255), some (.int 2), some (.int 4), some (.int 16)]) (st' := [.int 16, .ref 256]) rfl ?_
        refine g_la (i := 16) (a := 256) (n := 18) (v := 0) rfl g399 (by decide) (x_at (x_f256 hF) (k := 16) rfl) ?_
        refine g_n 2 (pc' := 61) (L' := [some (.ref 255), some (.int 2), some (.int 4), some (.int 16)]) (st' := [.int 0]) rfl ?_
        refine g_ret (ins := .ireturn) (len := 1) (r := (some (.int 0))) rfl rfl rfl ?_
        refine g_n 3 (pc' := 18) (L' := [some (.ref 248), some (.int 2)]) (st' := [.int 0]) rfl ?_
        refine g_ret (ins := .ireturn) (len := 1) (r := (some (.int 0))) rfl rfl rfl ?_
        refine g_n 6 (pc' := 56) (L' := [some (.ref 248), some (.int 0), some (.int 3)]) (st' := []) rfl ?_
        refine g_ret (ins := .return_) (len := 1) (r := none) rfl rfl rfl ?_
        refine g_n 1 (pc' := 137) (L' := [some (.ref 0), some (.int 0), some (.ref 27), some (.int 12)]) (st' := [.ref 0]) rfl ?_
        refine g_get (i := 42) (kd := 1) (ci := 11) (k := 2) (tc := 3) (v := .ref 2) rfl rfl (Or.inl (by decide)) g393 rfl ?_
        refine g_n 1 (pc' := 141) (L' := [some (.ref 0), some (.int 0), some (.ref 27), some (.int 12)]) (st' := [.int 0, .ref 2]) rfl ?_
        have g400 := x_wa_ne w390 (x_wa_ne w382 (x_wa_ne w374 (x_wa_ne w366 (x_wa_ne w358 (x_wa_ne w350 (x_wa_ne w342 (x_wa_ne w334 (x_wa_ne w326 (x_wa_ne w318 (x_wa_ne w310 (x_wa_ne w302 (x_wa_ne w294 g291 (x_nb rfl)) (x_nb rfl)) (x_nb rfl)) (x_nb rfl)) (x_nb rfl)) (x_nb rfl)) (x_nb rfl)) (x_nb rfl)) (x_nb rfl)) (x_nb rfl)) (x_nb rfl)) (x_nb rfl)) (x_nb rfl)
        refine g_aa (i := 0) (a := 2) (n := 4) (v := 183) rfl g400 (by decide) rfl ?_
        have g401 := x_wo_ne w390 (x_wo_ne w382 (x_wo_ne w374 (x_wo_ne w366 (x_wo_ne w358 (x_wo_ne w350 (x_wo_ne w342 (x_wo_ne w334 (x_wo_ne w326 (x_wo_ne w318 (x_wo_ne w310 (x_wo_ne w302 (x_wo_ne w294 (x_wo_ne w288 g289 (x_nb rfl)) (x_nb rfl)) (x_nb rfl)) (x_nb rfl)) (x_nb rfl)) (x_nb rfl)) (x_nb rfl)) (x_nb rfl)) (x_nb rfl)) (x_nb rfl)) (x_nb rfl)) (x_nb rfl)) (x_nb rfl)) (x_nb rfl)
        refine g_get (i := 199) (kd := 0) (ci := 4) (k := 12) (tc := 0) (v := .int 0) rfl rfl (Or.inl (by decide)) g401 rfl ?_
        refine g_ret (ins := .ireturn) (len := 1) (r := (some (.int 0))) rfl rfl rfl ?_
        have b402 : x_obj (x_W fi fl fr) 281 = some (12, x_MF) := rfl
        have g403 := x_wo_ne w390 (x_wo_ne w382 (x_wo_ne w374 (x_wo_ne w366 (x_wo_ne w358 (x_wo_ne w350 (x_wo_ne w342 (x_wo_ne w334 (x_wo_ne w326 (x_wo_ne w318 (x_wo_ne w310 (x_wo_ne w302 (x_wo_ne w294 (x_wo_ne w288 (x_wo_ne w280 (x_wo_ne w274 (x_wo_ne w269 (x_wo_ne w265 (x_wo_ne w257 (x_wo_ne w253 (x_wo_ne w245 (x_wo_ne w236 (x_wo_ne w232 (x_wo_ne w228 (x_wo_ne w224 (x_wo_ne w219 (x_wo_ne w209 (x_wo_ne w199 (x_wo_ne w189 (x_wo_ne w179 (x_wo_ne w169 (x_wo_ne w159 (x_wo_ne w155 (x_wo_ne w148 (x_wo_ne w144 (x_wo_ne w138 (x_wo_ne w134 (x_wo_ne w130 (x_wo_ne w126 (x_wo_ne w122 (x_wo_ne w116 (x_wo_ne w109 (x_wo_ne w104 (x_wo_ne w99 (x_wo_ne w95 (x_wo_ne w90 (x_wo_ne w86 (x_wo_ne w81 (x_wo_ne w76 (x_wo_ne w69 (x_wo_ne w61 (x_wo_ne w53 (x_wo_ne w46 (x_wo_ne w37 (x_wo_ne w33 (x_wo_ne w26 (x_wo_ne w22 (x_wo_ne w16 (x_wo_ne w12 b402 (x_nb rfl)) (x_nb rfl)) (x_nb rfl)) (x_nb rfl)) (x_nb rfl)) (x_nb rfl)) (x_nb rfl)) (x_nb rfl)) (x_nb rfl)) (x_nb rfl)) (x_nb rfl)) (x_nb rfl)) (x_nb rfl)) (x_nb rfl)) (x_nb rfl)) (x_nb rfl)) (x_nb rfl)) (x_nb rfl)) (x_nb rfl)) (x_nb rfl)) (x_nb rfl)) (x_nb rfl)) (x_nb rfl)) (x_nb rfl)) (x_nb rfl)) (x_nb rfl)) (x_nb rfl)) (x_nb rfl)) (x_nb rfl)) (x_nb rfl)) (x_nb rfl)) (x_nb rfl)) (x_nb rfl)) (x_nb rfl)) (x_nb rfl)) (x_nb rfl)) (x_nb rfl)) (x_nb rfl)) (x_nb rfl)) (x_nb rfl)) (x_nb rfl)) (x_nb rfl)) (x_nb rfl)) (x_nb rfl)) (x_nb rfl)) (x_nb rfl)) (x_nb rfl)) (x_nb rfl)) (x_nb rfl)) (x_nb rfl)) (x_nb rfl)) (x_nb rfl)) (x_nb rfl)) (x_nb rfl)) (x_nb rfl)) (x_nb rfl)) (x_nb rfl)) (x_nb rfl)) (x_nb rfl)
        refine ⟨⟨_, g403⟩, ?_⟩
        refine g_in (M := x_M489) (L := [some (.ref 281), some (.int 0), none]) x_pl489 rfl ?_
        refine g_n 2 (pc' := 2) (L' := [some (.ref 281), some (.int 0), none]) (st' := [.int 0, .ref 281]) rfl ?_
        refine g_vcall (i := 1015) (kd := 3) (j := 488) (np := 1) (ci := 12) (as := [.ref 281, .int 0]) (rest := []) rfl rfl (Or.inl rfl) (Nat.le_of_ble_eq_true rfl) rfl rfl g403 rfl rfl ?_
        refine g_in (M := x_M488) (L := [some (.ref 281), some (.int 0)]) x_pl488 rfl ?_
        refine g_n 7 (pc' := 14) (L' := [some (.ref 281), some (.int 0)]) (st' := [.int 1]) rfl ?_
        refine g_ret (ins := .ireturn) (len := 1) (r := (some (.int 1))) rfl rfl rfl ?_
        refine g_n 2 (pc' := 11) (L' := [some (.ref 281), some (.int 0), none]) (st' := [.ref 281]) rfl ?_
        refine g_vcall (i := 1018) (kd := 3) (j := 423) (np := 0) (ci := 12) (as := [.ref 281]) (rest := []) rfl rfl (Or.inl rfl) (Nat.le_of_ble_eq_true rfl) rfl rfl g403 rfl rfl ?_
        refine g_in (M := x_M423) (L := [some (.ref 281), none]) x_pl423 rfl ?_
        refine g_n 2 (pc' := 2) (L' := [some (.ref 281), none]) (st' := [.ref 281, .ref 281]) rfl ?_
        have v404 : x_MF[1]? = some (.int 0) := rfl
        refine g_get (i := 664) (kd := 0) (ci := 12) (k := 1) (tc := 0) (v := .int 0) rfl rfl (Or.inl (by decide)) g403 v404 ?_
        have l407 : x_MF.length = 311 := rfl
        refine g_putV (i := 681) (kd := 0) (ci := 12) (k := 6) (tc := 0) rfl rfl (Or.inl rfl) g403 (x_ltL l407 rfl) rfl (fun S405 y409 e408 w406 => ?_)
        have l410 := x_wf_len e408 l407
        have v411 := x_wf_at e408 (x_ltL l407 rfl)
        have s412 := x_wsO w406 g403 (l410.trans l407.symm) s391
        have g413 := x_wo_at w406 g403
        refine g_n 4 (pc' := 12) (L' := [some (.ref 281), some (.int 0)]) (st' := [.ref 281, .int 0]) rfl ?_
        have v414 := x_wf_ne e408 v404 (x_nb rfl)
        refine g_get (i := 664) (kd := 0) (ci := 12) (k := 1) (tc := 0) (v := .int 0) rfl rfl (Or.inl (by decide)) g413 v414 ?_
        refine g_n 3 (pc' := 38) (L' := [some (.ref 281), some (.int 0)]) (st' := [.int 0, .ref 281]) rfl ?_
        refine g_putV (i := 664) (kd := 0) (ci := 12) (k := 1) (tc := 0) rfl rfl (Or.inl rfl) g413 (x_ltL l410 rfl) rfl (fun S415 y418 e417 w416 => ?_)
        have l419 := x_wf_len e417 l410
        have v420 := x_wf_at e417 (x_ltL l410 rfl)
        have s421 := x_wsO w416 g413 (l419.trans l410.symm) s412
        have g422 := x_wo_at w416 g413
        refine g_n 2 (pc' := 43) (L' := [some (.ref 281), some (.int 0)]) (st' := [.int 0, .ref 281]) rfl ?_
        refine g_putV (i := 684) (kd := 0) (ci := 12) (k := 7) (tc := 0) rfl rfl (Or.inl rfl) g422 (x_ltL l419 rfl) rfl (fun S423 y426 e425 w424 => ?_)
        have l427 := x_wf_len e425 l419
        have v428 := x_wf_at e425 (x_ltL l419 rfl)
        have s429 := x_wsO w424 g422 (l427.trans l419.symm) s421
        have g430 := x_wo_at w424 g422
        refine g_n 2 (pc' := 48) (L' := [some (.ref 281), some (.int 0)]) (st' := [.int 0, .ref 281]) rfl ?_
        refine g_putV (i := 675) (kd := 0) (ci := 12) (k := 17) (tc := 0) rfl rfl (Or.inl rfl) g430 (x_ltL l427 rfl) rfl (fun S431 y434 e433 w432 => ?_)
        have l435 := x_wf_len e433 l427
        have v436 := x_wf_at e433 (x_ltL l427 rfl)
        have s437 := x_wsO w432 g430 (l435.trans l427.symm) s429
        have g438 := x_wo_at w432 g430
        refine g_ret (ins := .return_) (len := 1) (r := none) rfl rfl rfl ?_
        refine g_n 2 (pc' := 17) (L' := [some (.ref 281), some (.int 0), none]) (st' := [.int (-2), .ref 281]) rfl ?_
        refine g_putV (i := 19) (kd := 0) (ci := 12) (k := 4) (tc := 0) rfl rfl (Or.inl rfl) g438 (x_ltL l435 rfl) rfl (fun S439 y442 e441 w440 => ?_)
        have l443 := x_wf_len e441 l435
        have v444 := x_wf_at e441 (x_ltL l435 rfl)
        have s445 := x_wsO w440 g438 (l443.trans l435.symm) s437
        have g446 := x_wo_at w440 g438
        refine g_n 1 (pc' := 21) (L' := [some (.ref 281), some (.int 0), none]) (st' := [.ref 281]) rfl ?_
        refine g_vcall (i := 1021) (kd := 3) (j := 441) (np := 0) (ci := 12) (as := [.ref 281]) (rest := []) rfl rfl (Or.inl rfl) (Nat.le_of_ble_eq_true rfl) rfl rfl g446 rfl rfl ?_
        refine g_in (M := x_M441) (L := [some (.ref 281), none]) x_pl441 rfl ?_
        refine g_n 1 (pc' := 1) (L' := [some (.ref 281), none]) (st' := [.ref 281]) rfl ?_
        have v447 : x_MF[20]? = some (.ref 288) := rfl
        have v448 := x_wf_ne e441 (x_wf_ne e433 (x_wf_ne e425 (x_wf_ne e417 (x_wf_ne e408 v447 (x_nb rfl)) (x_nb rfl)) (x_nb rfl)) (x_nb rfl)) (x_nb rfl)
        refine g_get (i := 33) (kd := 1) (ci := 12) (k := 20) (tc := 3) (v := .ref 288) rfl rfl (Or.inl (by decide)) g446 v448 ?_
        refine g_n 2 (pc' := 6) (L' := [some (.ref 281), none]) (st' := [.int 0, .int 4, .ref 288]) rfl ?_
        have b449 : x_arr (x_W fi fl fr) 288 = some (0, 5, .inl fun _ => 0) := rfl
        have g450 := x_wa_ne w440 (x_wa_ne w432 (x_wa_ne w424 (x_wa_ne w416 (x_wa_ne w406 (x_wa_ne w390 (x_wa_ne w382 (x_wa_ne w374 (x_wa_ne w366 (x_wa_ne w358 (x_wa_ne w350 (x_wa_ne w342 (x_wa_ne w334 (x_wa_ne w326 (x_wa_ne w318 (x_wa_ne w310 (x_wa_ne w302 (x_wa_ne w294 (x_wa_ne w288 (x_wa_ne w280 (x_wa_ne w274 (x_wa_ne w269 (x_wa_ne w265 (x_wa_ne w257 (x_wa_ne w253 (x_wa_ne w245 (x_wa_ne w236 (x_wa_ne w232 (x_wa_ne w228 (x_wa_ne w224 (x_wa_ne w219 (x_wa_ne w209 (x_wa_ne w199 (x_wa_ne w189 (x_wa_ne w179 (x_wa_ne w169 (x_wa_ne w159 (x_wa_ne w155 (x_wa_ne w148 (x_wa_ne w144 (x_wa_ne w138 (x_wa_ne w134 (x_wa_ne w130 (x_wa_ne w126 (x_wa_ne w122 (x_wa_ne w116 (x_wa_ne w109 (x_wa_ne w104 (x_wa_ne w99 (x_wa_ne w95 (x_wa_ne w90 (x_wa_ne w86 (x_wa_ne w81 (x_wa_ne w76 (x_wa_ne w69 (x_wa_ne w61 (x_wa_ne w53 (x_wa_ne w46 (x_wa_ne w37 (x_wa_ne w33 (x_wa_ne w26 (x_wa_ne w22 (x_wa_ne w16 (x_wa_ne w12 b449 (x_nb rfl)) (x_nb rfl)) (x_nb rfl)) (x_nb rfl)) (x_nb rfl)) (x_nb rfl)) (x_nb rfl)) (x_nb rfl)) (x_nb rfl)) (x_nb rfl)) (x_nb rfl)) (x_nb rfl)) (x_nb rfl)) (x_nb rfl)) (x_nb rfl)) (x_nb rfl)) (x_nb rfl)) (x_nb rfl)) (x_nb rfl)) (x_nb rfl)) (x_nb rfl)) (x_nb rfl)) (x_nb rfl)) (x_nb rfl)) (x_nb rfl)) (x_nb rfl)) (x_nb rfl)) (x_nb rfl)) (x_nb rfl)) (x_nb rfl)) (x_nb rfl)) (x_nb rfl)) (x_nb rfl)) (x_nb rfl)) (x_nb rfl)) (x_nb rfl)) (x_nb rfl)) (x_nb rfl)) (x_nb rfl)) (x_nb rfl)) (x_nb rfl)) (x_nb rfl)) (x_nb rfl)) (x_nb rfl)) (x_nb rfl)) (x_nb rfl)) (x_nb rfl)) (x_nb rfl)) (x_nb rfl)) (x_nb rfl)) (x_nb rfl)) (x_nb rfl)) (x_nb rfl)) (x_nb rfl)) (x_nb rfl)) (x_nb rfl)) (x_nb rfl)) (x_nb rfl)) (x_nb rfl)) (x_nb rfl)) (x_nb rfl)) (x_nb rfl)) (x_nb rfl)) (x_nb rfl)
        refine g_isN rfl g450 (by decide) (fun S451 w452 => ?_)
        have s453 := x_wsA w452 g450 rfl s445
        have g454 := x_wa_at w452 g450
        refine g_n 1 (pc' := 8) (L' := [some (.ref 281), none]) (st' := [.ref 281]) rfl ?_
        have g455 := x_wo_ne w452 g446 (x_nb rfl)
        have v456 : x_MF[21]? = some (.ref 289) := rfl
        have v457 := x_wf_ne e441 (x_wf_ne e433 (x_wf_ne e425 (x_wf_ne e417 (x_wf_ne e408 v456 (x_nb rfl)) (x_nb rfl)) (x_nb rfl)) (x_nb rfl)) (x_nb rfl)
        refine g_get (i := 36) (kd := 1) (ci := 12) (k := 21) (tc := 3) (v := .ref 289) rfl rfl (Or.inl (by decide)) g455 v457 ?_
        refine g_n 2 (pc' := 13) (L' := [some (.ref 281), none]) (st' := [.int 0, .int 4, .ref 289]) rfl ?_
        have b458 : x_arr (x_W fi fl fr) 289 = some (0, 5, .inl fun _ => 0) := rfl
        have g459 := x_wa_ne w452 (x_wa_ne w440 (x_wa_ne w432 (x_wa_ne w424 (x_wa_ne w416 (x_wa_ne w406 (x_wa_ne w390 (x_wa_ne w382 (x_wa_ne w374 (x_wa_ne w366 (x_wa_ne w358 (x_wa_ne w350 (x_wa_ne w342 (x_wa_ne w334 (x_wa_ne w326 (x_wa_ne w318 (x_wa_ne w310 (x_wa_ne w302 (x_wa_ne w294 (x_wa_ne w288 (x_wa_ne w280 (x_wa_ne w274 (x_wa_ne w269 (x_wa_ne w265 (x_wa_ne w257 (x_wa_ne w253 (x_wa_ne w245 (x_wa_ne w236 (x_wa_ne w232 (x_wa_ne w228 (x_wa_ne w224 (x_wa_ne w219 (x_wa_ne w209 (x_wa_ne w199 (x_wa_ne w189 (x_wa_ne w179 (x_wa_ne w169 (x_wa_ne w159 (x_wa_ne w155 (x_wa_ne w148 (x_wa_ne w144 (x_wa_ne w138 (x_wa_ne w134 (x_wa_ne w130 (x_wa_ne w126 (x_wa_ne w122 (x_wa_ne w116 (x_wa_ne w109 (x_wa_ne w104 (x_wa_ne w99 (x_wa_ne w95 (x_wa_ne w90 (x_wa_ne w86 (x_wa_ne w81 (x_wa_ne w76 (x_wa_ne w69 (x_wa_ne w61 (x_wa_ne w53 (x_wa_ne w46 (x_wa_ne w37 (x_wa_ne w33 (x_wa_ne w26 (x_wa_ne w22 (x_wa_ne w16 (x_wa_ne w12 b458 (x_nb rfl)) (x_nb rfl)) (x_nb rfl)) (x_nb rfl)) (x_nb rfl)) (x_nb rfl)) (x_nb rfl)) (x_nb rfl)) (x_nb rfl)) (x_nb rfl)) (x_nb rfl)) (x_nb rfl)) (x_nb rfl)) (x_nb rfl)) (x_nb rfl)) (x_nb rfl)) (x_nb rfl)) (x_nb rfl)) (x_nb rfl)) (x_nb rfl)) (x_nb rfl)) (x_nb rfl)) (x_nb rfl)) (x_nb rfl)) (x_nb rfl)) (x_nb rfl)) (x_nb rfl)) (x_nb rfl)) (x_nb rfl)) (x_nb rfl)) (x_nb rfl)) (x_nb rfl)) (x_nb rfl)) (x_nb rfl)) (x_nb rfl)) (x_nb rfl)) (x_nb rfl)) (x_nb rfl)) (x_nb rfl)) (x_nb rfl)) (x_nb rfl)) (x_nb rfl)) (x_nb rfl)) (x_nb rfl)) (x_nb rfl)) (x_nb rfl)) (x_nb rfl)) (x_nb rfl)) (x_nb rfl)) (x_nb rfl)) (x_nb rfl)) (x_nb rfl)) (x_nb rfl)) (x_nb rfl)) (x_nb rfl)) (x_nb rfl)) (x_nb rfl)) (x_nb rfl)) (x_nb rfl)) (x_nb rfl)) (x_nb rfl)) (x_nb rfl)) (x_nb rfl)) (x_nb rfl)) (x_nb rfl)
        refine g_isN rfl g459 (by decide) (fun S460 w461 => ?_)
        have s462 := x_wsA w461 g459 rfl s453
        have g463 := x_wa_at w461 g459
        refine g_n 1 (pc' := 15) (L' := [some (.ref 281), none]) (st' := [.ref 281]) rfl ?_
        have g464 := x_wo_ne w461 g455 (x_nb rfl)
        have v465 : x_MF[115]? = some (.ref 382) := rfl
        have v466 := x_wf_ne e441 (x_wf_ne e433 (x_wf_ne e425 (x_wf_ne e417 (x_wf_ne e408 v465 (x_nb rfl)) (x_nb rfl)) (x_nb rfl)) (x_nb rfl)) (x_nb rfl)
        refine g_get (i := 318) (kd := 1) (ci := 12) (k := 115) (tc := 3) (v := .ref 382) rfl rfl (Or.inl (by decide)) g464 v466 ?_
        refine g_n 2 (pc' := 20) (L' := [some (.ref 281), none]) (st' := [.int 0, .int 4, .ref 382]) rfl ?_
        have b467 : x_arr (x_W fi fl fr) 382 = some (0, 5, .inl fun _ => 0) := rfl
        have g468 := x_wa_ne w461 (x_wa_ne w452 (x_wa_ne w440 (x_wa_ne w432 (x_wa_ne w424 (x_wa_ne w416 (x_wa_ne w406 (x_wa_ne w390 (x_wa_ne w382 (x_wa_ne w374 (x_wa_ne w366 (x_wa_ne w358 (x_wa_ne w350 (x_wa_ne w342 (x_wa_ne w334 (x_wa_ne w326 (x_wa_ne w318 (x_wa_ne w310 (x_wa_ne w302 (x_wa_ne w294 (x_wa_ne w288 (x_wa_ne w280 (x_wa_ne w274 (x_wa_ne w269 (x_wa_ne w265 (x_wa_ne w257 (x_wa_ne w253 (x_wa_ne w245 (x_wa_ne w236 (x_wa_ne w232 (x_wa_ne w228 (x_wa_ne w224 (x_wa_ne w219 (x_wa_ne w209 (x_wa_ne w199 (x_wa_ne w189 (x_wa_ne w179 (x_wa_ne w169 (x_wa_ne w159 (x_wa_ne w155 (x_wa_ne w148 (x_wa_ne w144 (x_wa_ne w138 (x_wa_ne w134 (x_wa_ne w130 (x_wa_ne w126 (x_wa_ne w122 (x_wa_ne w116 (x_wa_ne w109 (x_wa_ne w104 (x_wa_ne w99 (x_wa_ne w95 (x_wa_ne w90 (x_wa_ne w86 (x_wa_ne w81 (x_wa_ne w76 (x_wa_ne w69 (x_wa_ne w61 (x_wa_ne w53 (x_wa_ne w46 (x_wa_ne w37 (x_wa_ne w33 (x_wa_ne w26 (x_wa_ne w22 (x_wa_ne w16 (x_wa_ne w12 b467 (x_nb rfl)) (x_nb rfl)) (x_nb rfl)) (x_nb rfl)) (x_nb rfl)) (x_nb rfl)) (x_nb rfl)) (x_nb rfl)) (x_nb rfl)) (x_nb rfl)) (x_nb rfl)) (x_nb rfl)) (x_nb rfl)) (x_nb rfl)) (x_nb rfl)) (x_nb rfl)) (x_nb rfl)) (x_nb rfl)) (x_nb rfl)) (x_nb rfl)) (x_nb rfl)) (x_nb rfl)) (x_nb rfl)) (x_nb rfl)) (x_nb rfl)) (x_nb rfl)) (x_nb rfl)) (x_nb rfl)) (x_nb rfl)) (x_nb rfl)) (x_nb rfl)) (x_nb rfl)) (x_nb rfl)) (x_nb rfl)) (x_nb rfl)) (x_nb rfl)) (x_nb rfl)) (x_nb rfl)) (x_nb rfl)) (x_nb rfl)) (x_nb rfl)) (x_nb rfl)) (x_nb rfl)) (x_nb rfl)) (x_nb rfl)) (x_nb rfl)) (x_nb rfl)) (x_nb rfl)) (x_nb rfl)) (x_nb rfl)) (x_nb rfl)) (x_nb rfl)) (x_nb rfl)) (x_nb rfl)) (x_nb rfl)) (x_nb rfl)) (x_nb rfl)) (x_nb rfl)) (x_nb rfl)) (x_nb rfl)) (x_nb rfl)) (x_nb rfl)) (x_nb rfl)) (x_nb rfl)) (x_nb rfl)) (x_nb rfl)
        refine g_isN rfl g468 (by decide) (fun S469 w470 => ?_)
        have s471 := x_wsA w470 g468 rfl s462
        have g472 := x_wa_at w470 g468
        refine g_n 2 (pc' := 23) (L' := [some (.ref 281), none]) (st' := [.int 0, .ref 281]) rfl ?_
        have g473 := x_wo_ne w470 g464 (x_nb rfl)
        refine g_putV (i := 818) (kd := 0) (ci := 12) (k := 110) (tc := 0) rfl rfl (Or.inl rfl) g473 (x_ltL l443 rfl) rfl (fun S474 y477 e476 w475 => ?_)
        have l478 := x_wf_len e476 l443
        have v479 := x_wf_at e476 (x_ltL l443 rfl)
        have s480 := x_wsO w475 g473 (l478.trans l443.symm) s471
        have g481 := x_wo_at w475 g473
        refine g_n 1 (pc' := 27) (L' := [some (.ref 281), none]) (st' := [.ref 281]) rfl ?_
        refine g_vcall (i := 805) (kd := 3) (j := 427) (np := 0) (ci := 12) (as := [.ref 281]) (rest := []) rfl rfl (Or.inl rfl) (Nat.le_of_ble_eq_true rfl) rfl rfl g481 rfl rfl ?_
        refine g_in (M := x_M427) (L := [some (.ref 281), none, none]) x_pl427 rfl ?_
        refine g_n 5 (pc' := 7) (L' := [some (.ref 281), some (.int 1), none]) (st' := [.ref 281]) rfl ?_
        have v482 := x_wf_ne e476 (x_wf_ne e441 (x_wf_ne e433 v428 (x_nb rfl)) (x_nb rfl)) (x_nb rfl)
        refine g_get (i := 684) (kd := 0) (ci := 12) (k := 7) (tc := 0) (v := .int 0) rfl rfl (Or.inl (by decide)) g481 v482 ?_
        refine g_n 1 (pc' := 11) (L' := [some (.ref 281), some (.int 1), none]) (st' := [.ref 281, .int 0]) rfl ?_
        have v483 := x_wf_ne e476 (x_wf_ne e441 (x_wf_ne e433 (x_wf_ne e425 (x_wf_ne e417 v411 (x_nb rfl)) (x_nb rfl)) (x_nb rfl)) (x_nb rfl)) (x_nb rfl)
        refine g_get (i := 681) (kd := 0) (ci := 12) (k := 6) (tc := 0) (v := .int 0) rfl rfl (Or.inl (by decide)) g481 v483 ?_
        refine g_n 2 (pc' := 87) (L' := [some (.ref 281), some (.int 1), none]) (st' := [.ref 281]) rfl ?_
        refine g_get (i := 684) (kd := 0) (ci := 12) (k := 7) (tc := 0) (v := .int 0) rfl rfl (Or.inl (by decide)) g481 v482 ?_
        refine g_n 1 (pc' := 91) (L' := [some (.ref 281), some (.int 1), none]) (st' := [.ref 281, .int 0]) rfl ?_
        refine g_get (i := 681) (kd := 0) (ci := 12) (k := 6) (tc := 0) (v := .int 0) rfl rfl (Or.inl (by decide)) g481 v483 ?_
        refine g_n 9 (pc' := 161) (L' := [some (.ref 281), some (.int 0), none]) (st' := [.ref 281, .ref 281]) rfl ?_
        refine g_get (i := 684) (kd := 0) (ci := 12) (k := 7) (tc := 0) (v := .int 0) rfl rfl (Or.inl (by decide)) g481 v482 ?_
        refine g_putV (i := 687) (kd := 0) (ci := 12) (k := 9) (tc := 0) rfl rfl (Or.inl rfl) g481 (x_ltL l478 rfl) rfl (fun S484 y487 e486 w485 => ?_)
        have l488 := x_wf_len e486 l478
        have v489 := x_wf_at e486 (x_ltL l478 rfl)
        have s490 := x_wsO w485 g481 (l488.trans l478.symm) s480
        have g491 := x_wo_at w485 g481
        refine g_n 2 (pc' := 169) (L' := [some (.ref 281), some (.int 0), none]) (st' := [.ref 281, .ref 281]) rfl ?_
        have v492 := x_wf_ne e486 v482 (x_nb rfl)
        refine g_get (i := 684) (kd := 0) (ci := 12) (k := 7) (tc := 0) (v := .int 0) rfl rfl (Or.inl (by decide)) g491 v492 ?_
        refine g_putV (i := 690) (kd := 0) (ci := 12) (k := 10) (tc := 0) rfl rfl (Or.inl rfl) g491 (x_ltL l488 rfl) rfl (fun S493 y496 e495 w494 => ?_)
        have l497 := x_wf_len e495 l488
        have v498 := x_wf_at e495 (x_ltL l488 rfl)
        have s499 := x_wsO w494 g491 (l497.trans l488.symm) s490
        have g500 := x_wo_at w494 g491
        refine g_n 1 (pc' := 176) (L' := [some (.ref 281), some (.int 0), none]) (st' := [.ref 281]) rfl ?_
        have v501 := x_wf_ne e495 v492 (x_nb rfl)
        refine g_get (i := 684) (kd := 0) (ci := 12) (k := 7) (tc := 0) (v := .int 0) rfl rfl (Or.inl (by decide)) g500 v501 ?_
        refine g_n 1 (pc' := 180) (L' := [some (.ref 281), some (.int 0), none]) (st' := [.ref 281, .int 0]) rfl ?_
        have v502 := x_wf_ne e495 (x_wf_ne e486 v483 (x_nb rfl)) (x_nb rfl)
        refine g_get (i := 681) (kd := 0) (ci := 12) (k := 6) (tc := 0) (v := .int 0) rfl rfl (Or.inl (by decide)) g500 v502 ?_
        refine g_n 3 (pc' := 188) (L' := [some (.ref 281), some (.int 0), none]) (st' := [.int 0, .ref 281]) rfl ?_
        refine g_putV (i := 693) (kd := 0) (ci := 12) (k := 8) (tc := 0) rfl rfl (Or.inl rfl) g500 (x_ltL l497 rfl) rfl (fun S503 y506 e505 w504 => ?_)
        have l507 := x_wf_len e505 l497
        have v508 := x_wf_at e505 (x_ltL l497 rfl)
        have s509 := x_wsO w504 g500 (l507.trans l497.symm) s499
        have g510 := x_wo_at w504 g500
        refine g_n 1 (pc' := 192) (L' := [some (.ref 281), some (.int 0), none]) (st' := [.int 1]) rfl ?_
        refine g_ret (ins := .ireturn) (len := 1) (r := (some (.int 1))) rfl rfl rfl ?_
        refine g_n 2 (pc' := 36) (L' := [some (.ref 281), none]) (st' := [.ref 281]) rfl ?_
        refine g_get (i := 693) (kd := 0) (ci := 12) (k := 8) (tc := 0) (v := .int 0) rfl rfl (Or.inl (by decide)) g510 v508 ?_
        refine g_n 2 (pc' := 105) (L' := [some (.ref 281), none]) (st' := [.int 1]) rfl ?_
        refine g_ret (ins := .ireturn) (len := 1) (r := (some (.int 1))) rfl rfl rfl ?_
        refine g_n 2 (pc' := 28) (L' := [some (.ref 281), some (.int 0), none]) (st' := [.ref 281]) rfl ?_
        refine g_vcall (i := 1024) (kd := 3) (j := 478) (np := 0) (ci := 12) (as := [.ref 281]) (rest := []) rfl rfl (Or.inl rfl) (Nat.le_of_ble_eq_true rfl) rfl rfl g510 rfl rfl ?_
        refine g_in (M := x_M478) (L := [some (.ref 281), none]) x_pl478 rfl ?_
        refine g_n 2 (pc' := 2) (L' := [some (.ref 281), none]) (st' := [.int 0, .ref 281]) rfl ?_
        refine g_putV (i := 909) (kd := 0) (ci := 12) (k := 127) (tc := 0) rfl rfl (Or.inl rfl) g510 (x_ltL l507 rfl) rfl (fun S511 y514 e513 w512 => ?_)
        have l515 := x_wf_len e513 l507
        have v516 := x_wf_at e513 (x_ltL l507 rfl)
        have s517 := x_wsO w512 g510 (l515.trans l507.symm) s509
        have g518 := x_wo_at w512 g510
        refine g_n 1 (pc' := 6) (L' := [some (.ref 281), none]) (st' := [.ref 281]) rfl ?_
        refine g_vcall (i := 976) (kd := 3) (j := 464) (np := 0) (ci := 12) (as := [.ref 281]) (rest := []) rfl rfl (Or.inl rfl) (Nat.le_of_ble_eq_true rfl) rfl rfl g518 rfl rfl ?_
        refine g_in (M := x_M464) (L := [some (.ref 281), none, none]) x_pl464 rfl ?_
        refine g_n 5 (pc' := 7) (L' := [some (.ref 281), some (.int 120), none]) (st' := [.ref 281, .int 120, .int 120]) rfl ?_
        have v519 := x_wf_ne e513 (x_wf_ne e505 (x_wf_ne e495 (x_wf_ne e486 (x_wf_ne e476 v448 (x_nb rfl)) (x_nb rfl)) (x_nb rfl)) (x_nb rfl)) (x_nb rfl)
        refine g_get (i := 33) (kd := 1) (ci := 12) (k := 20) (tc := 3) (v := .ref 288) rfl rfl (Or.inl (by decide)) g518 v519 ?_
        refine g_n 1 (pc' := 11) (L' := [some (.ref 281), some (.int 120), none]) (st' := [.int 4, .ref 288, .int 120, .int 120]) rfl ?_
        have g520 := x_wa_ne w512 (x_wa_ne w504 (x_wa_ne w494 (x_wa_ne w485 (x_wa_ne w475 (x_wa_ne w470 (x_wa_ne w461 g454 (x_nb rfl)) (x_nb rfl)) (x_nb rfl)) (x_nb rfl)) (x_nb rfl)) (x_nb rfl)) (x_nb rfl)
        refine g_ia (i := 4) (a := 288) (n := 5) (v := 0) rfl g520 (by decide) rfl ?_
        refine g_n 7 (pc' := 198) (L' := [some (.ref 281), some (.int 16), none]) (st' := [.ref 281, .int 16, .int 16]) rfl ?_
        have v521 := x_wf_ne e513 (x_wf_ne e505 (x_wf_ne e495 (x_wf_ne e486 (x_wf_ne e476 v457 (x_nb rfl)) (x_nb rfl)) (x_nb rfl)) (x_nb rfl)) (x_nb rfl)
        refine g_get (i := 36) (kd := 1) (ci := 12) (k := 21) (tc := 3) (v := .ref 289) rfl rfl (Or.inl (by decide)) g518 v521 ?_
        refine g_n 1 (pc' := 202) (L' := [some (.ref 281), some (.int 16), none]) (st' := [.int 4, .ref 289, .int 16, .int 16]) rfl ?_
        have g522 := x_wa_ne w512 (x_wa_ne w504 (x_wa_ne w494 (x_wa_ne w485 (x_wa_ne w475 (x_wa_ne w470 g463 (x_nb rfl)) (x_nb rfl)) (x_nb rfl)) (x_nb rfl)) (x_nb rfl)) (x_nb rfl)
        refine g_ia (i := 4) (a := 289) (n := 5) (v := 0) rfl g522 (by decide) rfl ?_
        refine g_n 2 (pc' := 270) (L' := [some (.ref 281), some (.int 16), none]) (st' := []) rfl ?_
        refine g_ret (ins := .return_) (len := 1) (r := none) rfl rfl rfl ?_
        refine g_n 5 (pc' := 16) (L' := [some (.ref 281), some (.int 120)]) (st' := [.ref 281, .int 120, .int 120]) rfl ?_
        refine g_get (i := 33) (kd := 1) (ci := 12) (k := 20) (tc := 3) (v := .ref 288) rfl rfl (Or.inl (by decide)) g518 v519 ?_
        refine g_n 1 (pc' := 20) (L' := [some (.ref 281), some (.int 120)]) (st' := [.int 4, .ref 288, .int 120, .int 120]) rfl ?_
        refine g_ia (i := 4) (a := 288) (n := 5) (v := 0) rfl g520 (by decide) rfl ?_
        refine g_n 7 (pc' := 60) (L' := [some (.ref 281), some (.int 16)]) (st' := [.ref 281, .int 16, .int 16]) rfl ?_
        refine g_get (i := 36) (kd := 1) (ci := 12) (k := 21) (tc := 3) (v := .ref 289) rfl rfl (Or.inl (by decide)) g518 v521 ?_
        refine g_n 1 (pc' := 64) (L' := [some (.ref 281), some (.int 16)]) (st' := [.int 4, .ref 289, .int 16, .int 16]) rfl ?_
        refine g_ia (i := 4) (a := 289) (n := 5) (v := 0) rfl g522 (by decide) rfl ?_
        refine g_n 3 (pc' := 81) (L' := [some (.ref 281), some (.int 16)]) (st' := [.ref 281]) rfl ?_
        refine g_get (i := 909) (kd := 0) (ci := 12) (k := 127) (tc := 0) (v := .int 0) rfl rfl (Or.inl (by decide)) g518 v516 ?_
        refine g_n 2 (pc' := 101) (L' := [some (.ref 281), some (.int 16)]) (st' := [.ref 281]) rfl ?_
        refine g_get (i := 909) (kd := 0) (ci := 12) (k := 127) (tc := 0) (v := .int 0) rfl rfl (Or.inl (by decide)) g518 v516 ?_
        refine g_n 3 (pc' := 112) (L' := [some (.ref 281), some (.int 16)]) (st' := [.int 1]) rfl ?_
        refine g_ret (ins := .ireturn) (len := 1) (r := (some (.int 1))) rfl rfl rfl ?_
        refine g_n 6 (pc' := 57) (L' := [some (.ref 281), some (.int 0), some (.int 120)]) (st' := [.ref 281, .int 120, .int 120]) rfl ?_
        refine g_get (i := 33) (kd := 1) (ci := 12) (k := 20) (tc := 3) (v := .ref 288) rfl rfl (Or.inl (by decide)) g518 v519 ?_
        refine g_n 1 (pc' := 61) (L' := [some (.ref 281), some (.int 0), some (.int 120)]) (st' := [.int 4, .ref 288, .int 120, .int 120]) rfl ?_
        refine g_ia (i := 4) (a := 288) (n := 5) (v := 0) rfl g520 (by decide) rfl ?_
        refine g_n 4 (pc' := 88) (L' := [some (.ref 281), some (.int 0), some (.int 120)]) (st' := [.int 0, .ref 281]) rfl ?_
        refine g_vcall (i := 1030) (kd := 3) (j := 485) (np := 1) (ci := 12) (as := [.ref 281, .int 0]) (rest := []) rfl rfl (Or.inl rfl) (Nat.le_of_ble_eq_true rfl) rfl rfl g518 rfl rfl ?_
        refine g_in (M := x_M485) (L := [some (.ref 281), some (.int 0), none, none, none, none]) x_pl485 rfl ?_
        refine g_n 1 (pc' := 1) (L' := [some (.ref 281), some (.int 0), none, none, none, none]) (st' := [.ref 281]) rfl ?_
        have v523 : x_MF[19]? = some (.ref 287) := rfl
        have v524 := x_wf_ne e513 (x_wf_ne e505 (x_wf_ne e495 (x_wf_ne e486 (x_wf_ne e476 (x_wf_ne e441 (x_wf_ne e433 (x_wf_ne e425 (x_wf_ne e417 (x_wf_ne e408 v523 (x_nb rfl)) (x_nb rfl)) (x_nb rfl)) (x_nb rfl)) (x_nb rfl)) (x_nb rfl)) (x_nb rfl)) (x_nb rfl)) (x_nb rfl)) (x_nb rfl)
        refine g_get (i := 29) (kd := 1) (ci := 12) (k := 19) (tc := 3) (v := .ref 287) rfl rfl (Or.inl (by decide)) g518 v524 ?_
        refine g_n 2 (pc' := 6) (L' := [some (.ref 281), some (.int 0), none, none, none, none]) (st' := [.int 1, .int 0, .ref 287]) rfl ?_
        have b525 : x_arr (x_W fi fl fr) 287 = some (3, 5, .inl fun _ => 0) := rfl
        have g526 := x_wa_ne w512 (x_wa_ne w504 (x_wa_ne w494 (x_wa_ne w485 (x_wa_ne w475 (x_wa_ne w470 (x_wa_ne w461 (x_wa_ne w452 (x_wa_ne w440 (x_wa_ne w432 (x_wa_ne w424 (x_wa_ne w416 (x_wa_ne w406 (x_wa_ne w390 (x_wa_ne w382 (x_wa_ne w374 (x_wa_ne w366 (x_wa_ne w358 (x_wa_ne w350 (x_wa_ne w342 (x_wa_ne w334 (x_wa_ne w326 (x_wa_ne w318 (x_wa_ne w310 (x_wa_ne w302 (x_wa_ne w294 (x_wa_ne w288 (x_wa_ne w280 (x_wa_ne w274 (x_wa_ne w269 (x_wa_ne w265 (x_wa_ne w257 (x_wa_ne w253 (x_wa_ne w245 (x_wa_ne w236 (x_wa_ne w232 (x_wa_ne w228 (x_wa_ne w224 (x_wa_ne w219 (x_wa_ne w209 (x_wa_ne w199 (x_wa_ne w189 (x_wa_ne w179 (x_wa_ne w169 (x_wa_ne w159 (x_wa_ne w155 (x_wa_ne w148 (x_wa_ne w144 (x_wa_ne w138 (x_wa_ne w134 (x_wa_ne w130 (x_wa_ne w126 (x_wa_ne w122 (x_wa_ne w116 (x_wa_ne w109 (x_wa_ne w104 (x_wa_ne w99 (x_wa_ne w95 (x_wa_ne w90 (x_wa_ne w86 (x_wa_ne w81 (x_wa_ne w76 (x_wa_ne w69 (x_wa_ne w61 (x_wa_ne w53 (x_wa_ne w46 (x_wa_ne w37 (x_wa_ne w33 (x_wa_ne w26 (x_wa_ne w22 (x_wa_ne w16 (x_wa_ne w12 b525 (x_nb rfl)) (x_nb rfl)) (x_nb rfl)) (x_nb rfl)) (x_nb rfl)) (x_nb rfl)) (x_nb rfl)) (x_nb rfl)) (x_nb rfl)) (x_nb rfl)) (x_nb rfl)) (x_nb rfl)) (x_nb rfl)) (x_nb rfl)) (x_nb rfl)) (x_nb rfl)) (x_nb rfl)) (x_nb rfl)) (x_nb rfl)) (x_nb rfl)) (x_nb rfl)) (x_nb rfl)) (x_nb rfl)) (x_nb rfl)) (x_nb rfl)) (x_nb rfl)) (x_nb rfl)) (x_nb rfl)) (x_nb rfl)) (x_nb rfl)) (x_nb rfl)) (x_nb rfl)) (x_nb rfl)) (x_nb rfl)) (x_nb rfl)) (x_nb rfl)) (x_nb rfl)) (x_nb rfl)) (x_nb rfl)) (x_nb rfl)) (x_nb rfl)) (x_nb rfl)) (x_nb rfl)) (x_nb rfl)) (x_nb rfl)) (x_nb rfl)) (x_nb rfl)) (x_nb rfl)) (x_nb rfl)) (x_nb rfl)) (x_nb rfl)) (x_nb rfl)) (x_nb rfl)) (x_nb rfl)) (x_nb rfl)) (x_nb rfl)) (x_nb rfl)) (x_nb rfl)) (x_nb rfl)) (x_nb rfl)) (x_nb rfl)) (x_nb rfl)) (x_nb rfl)) (x_nb rfl)) (x_nb rfl)) (x_nb rfl)) (x_nb rfl)) (x_nb rfl)) (x_nb rfl)) (x_nb rfl)) (x_nb rfl)) (x_nb rfl)
        refine g_bs3N rfl g526 (by decide) (fun S527 w528 => ?_)
        have s529 := x_wsA w528 g526 rfl s517
        have g530 := x_wa_at w528 g526
        refine g_n 1 (pc' := 8) (L' := [some (.ref 281), some (.int 0), none, none, none, none]) (st' := [.ref 281]) rfl ?_
        have g531 := x_wo_ne w528 g518 (x_nb rfl)
        refine g_get (i := 33) (kd := 1) (ci := 12) (k := 20) (tc := 3) (v := .ref 288) rfl rfl (Or.inl (by decide)) g531 v519 ?_
        refine g_n 2 (pc' := 13) (L' := [some (.ref 281), some (.int 0), none, none, none, none]) (st' := [.ref 281, .int 0, .ref 288]) rfl ?_
        refine g_get (i := 33) (kd := 1) (ci := 12) (k := 20) (tc := 3) (v := .ref 288) rfl rfl (Or.inl (by decide)) g531 v519 ?_
        refine g_n 1 (pc' := 17) (L' := [some (.ref 281), some (.int 0), none, none, none, none]) (st' := [.int 4, .ref 288, .int 0, .ref 288]) rfl ?_
        have g532 := x_wa_ne w528 g520 (x_nb rfl)
        refine g_ia (i := 4) (a := 288) (n := 5) (v := 0) rfl g532 (by decide) rfl ?_
        refine g_isN rfl g532 (by decide) (fun S533 w534 => ?_)
        have s535 := x_wsA w534 g532 rfl s529
        have g536 := x_wa_at w534 g532
        refine g_n 1 (pc' := 20) (L' := [some (.ref 281), some (.int 0), none, none, none, none]) (st' := [.ref 281]) rfl ?_
        have g537 := x_wo_ne w534 g531 (x_nb rfl)
        refine g_get (i := 36) (kd := 1) (ci := 12) (k := 21) (tc := 3) (v := .ref 289) rfl rfl (Or.inl (by decide)) g537 v521 ?_
        refine g_n 2 (pc' := 25) (L' := [some (.ref 281), some (.int 0), none, none, none, none]) (st' := [.ref 281, .int 0, .ref 289]) rfl ?_
        refine g_get (i := 36) (kd := 1) (ci := 12) (k := 21) (tc := 3) (v := .ref 289) rfl rfl (Or.inl (by decide)) g537 v521 ?_
        refine g_n 1 (pc' := 29) (L' := [some (.ref 281), some (.int 0), none, none, none, none]) (st' := [.int 4, .ref 289, .int 0, .ref 289]) rfl ?_
        have g538 := x_wa_ne w534 (x_wa_ne w528 g522 (x_nb rfl)) (x_nb rfl)
        refine g_ia (i := 4) (a := 289) (n := 5) (v := 0) rfl g538 (by decide) rfl ?_
        refine g_isN rfl g538 (by decide) (fun S539 w540 => ?_)
        have s541 := x_wsA w540 g538 rfl s535
        have g542 := x_wa_at w540 g538
        refine g_n 1 (pc' := 32) (L' := [some (.ref 281), some (.int 0), none, none, none, none]) (st' := [.ref 281]) rfl ?_
        have g543 := x_wo_ne w540 g537 (x_nb rfl)
        have v544 := x_wf_ne e513 (x_wf_ne e505 (x_wf_ne e495 (x_wf_ne e486 (x_wf_ne e476 v466 (x_nb rfl)) (x_nb rfl)) (x_nb rfl)) (x_nb rfl)) (x_nb rfl)
        refine g_get (i := 318) (kd := 1) (ci := 12) (k := 115) (tc := 3) (v := .ref 382) rfl rfl (Or.inl (by decide)) g543 v544 ?_
        refine g_n 2 (pc' := 37) (L' := [some (.ref 281), some (.int 0), none, none, none, none]) (st' := [.ref 281, .int 0, .ref 382]) rfl ?_
        refine g_get (i := 318) (kd := 1) (ci := 12) (k := 115) (tc := 3) (v := .ref 382) rfl rfl (Or.inl (by decide)) g543 v544 ?_
        refine g_n 1 (pc' := 41) (L' := [some (.ref 281), some (.int 0), none, none, none, none]) (st' := [.int 4, .ref 382, .int 0, .ref 382]) rfl ?_
        have g545 := x_wa_ne w540 (x_wa_ne w534 (x_wa_ne w528 (x_wa_ne w512 (x_wa_ne w504 (x_wa_ne w494 (x_wa_ne w485 (x_wa_ne w475 g472 (x_nb rfl)) (x_nb rfl)) (x_nb rfl)) (x_nb rfl)) (x_nb rfl)) (x_nb rfl)) (x_nb rfl)) (x_nb rfl)
        refine g_ia (i := 4) (a := 382) (n := 5) (v := 0) rfl g545 (by decide) rfl ?_
        refine g_isN rfl g545 (by decide) (fun S546 w547 => ?_)
        have s548 := x_wsA w547 g545 rfl s541
        have g549 := x_wa_at w547 g545
        refine g_n 4 (pc' := 47) (L' := [some (.ref 281), some (.int 0), some (.int 0), none, none, none]) (st' := [.ref 281, .int 0]) rfl ?_
        have g550 := x_wo_ne w547 g543 (x_nb rfl)
        refine g_get (i := 318) (kd := 1) (ci := 12) (k := 115) (tc := 3) (v := .ref 382) rfl rfl (Or.inl (by decide)) g550 v544 ?_
        refine g_n 1 (pc' := 51) (L' := [some (.ref 281), some (.int 0), some (.int 0), none, none, none]) (st' := [.int 0, .ref 382, .int 0]) rfl ?_
        refine g_ia (i := 0) (a := 382) (n := 5) (v := 0) rfl g549 (by decide) rfl ?_
        refine g_n 5 (pc' := 87) (L' := [some (.ref 281), some (.int 0), some (.int 0), none, none, none]) (st' := [.ref 281, .int 0]) rfl ?_
        refine g_get (i := 33) (kd := 1) (ci := 12) (k := 20) (tc := 3) (v := .ref 288) rfl rfl (Or.inl (by decide)) g550 v519 ?_
        refine g_n 1 (pc' := 91) (L' := [some (.ref 281), some (.int 0), some (.int 0), none, none, none]) (st' := [.int 0, .ref 288, .int 0]) rfl ?_
        have g551 := x_wa_ne w547 (x_wa_ne w540 g536 (x_nb rfl)) (x_nb rfl)
        refine g_ia (i := 0) (a := 288) (n := 5) (v := 0) rfl g551 (by decide) rfl ?_
        refine g_n 5 (pc' := 502) (L' := [some (.ref 281), some (.int 0), some (.int 0), none, none, none]) (st' := [.ref 281, .int 0]) rfl ?_
        refine g_get (i := 36) (kd := 1) (ci := 12) (k := 21) (tc := 3) (v := .ref 289) rfl rfl (Or.inl (by decide)) g550 v521 ?_
        refine g_n 1 (pc' := 506) (L' := [some (.ref 281), some (.int 0), some (.int 0), none, none, none]) (st' := [.int 0, .ref 289, .int 0]) rfl ?_
        have g552 := x_wa_ne w547 g542 (x_nb rfl)
        refine g_ia (i := 0) (a := 289) (n := 5) (v := 0) rfl g552 (by decide) rfl ?_
        refine g_n 1 (pc' := 529) (L' := [some (.ref 281), some (.int 0), some (.int 0), none, none, none]) (st' := []) rfl ?_
        refine g_ret (ins := .return_) (len := 1) (r := none) rfl rfl rfl ?_
        refine g_n 2 (pc' := 93) (L' := [some (.ref 281), some (.int 0), some (.int 120)]) (st' := [.int 0, .ref 281]) rfl ?_
        refine g_vcall (i := 1033) (kd := 3) (j := 712) (np := 1) (ci := 12) (as := [.ref 281, .int 0]) (rest := []) rfl rfl (Or.inl rfl) (Nat.le_of_ble_eq_true rfl) rfl rfl g550 rfl rfl ?_
        refine g_in (M := x_M712) (L := [some (.ref 281), some (.int 0), none]) x_pl712 rfl ?_
        refine g_n 6 (pc' := 9) (L' := [some (.ref 281), some (.int 0), some (.int 0)]) (st' := [.ref 281]) rfl ?_
        have v553 : x_MF[135]? = some (.ref 387) := rfl
        have v554 := x_wf_ne e513 (x_wf_ne e505 (x_wf_ne e495 (x_wf_ne e486 (x_wf_ne e476 (x_wf_ne e441 (x_wf_ne e433 (x_wf_ne e425 (x_wf_ne e417 (x_wf_ne e408 v553 (x_nb rfl)) (x_nb rfl)) (x_nb rfl)) (x_nb rfl)) (x_nb rfl)) (x_nb rfl)) (x_nb rfl)) (x_nb rfl)) (x_nb rfl)) (x_nb rfl)
        refine g_get (i := 333) (kd := 1) (ci := 12) (k := 135) (tc := 3) (v := .ref 387) rfl rfl (Or.inl (by decide)) g550 v554 ?_
        refine g_n 1 (pc' := 13) (L' := [some (.ref 281), some (.int 0), some (.int 0)]) (st' := [.int 0, .ref 387]) rfl ?_
        have b555 : x_arr (x_W fi fl fr) 387 = some (3, 16, .inl fun _ => 0) := rfl
        have g556 := x_wa_ne w547 (x_wa_ne w540 (x_wa_ne w534 (x_wa_ne w528 (x_wa_ne w512 (x_wa_ne w504 (x_wa_ne w494 (x_wa_ne w485 (x_wa_ne w475 (x_wa_ne w470 (x_wa_ne w461 (x_wa_ne w452 (x_wa_ne w440 (x_wa_ne w432 (x_wa_ne w424 (x_wa_ne w416 (x_wa_ne w406 (x_wa_ne w390 (x_wa_ne w382 (x_wa_ne w374 (x_wa_ne w366 (x_wa_ne w358 (x_wa_ne w350 (x_wa_ne w342 (x_wa_ne w334 (x_wa_ne w326 (x_wa_ne w318 (x_wa_ne w310 (x_wa_ne w302 (x_wa_ne w294 (x_wa_ne w288 (x_wa_ne w280 (x_wa_ne w274 (x_wa_ne w269 (x_wa_ne w265 (x_wa_ne w257 (x_wa_ne w253 (x_wa_ne w245 (x_wa_ne w236 (x_wa_ne w232 (x_wa_ne w228 (x_wa_ne w224 (x_wa_ne w219 (x_wa_ne w209 (x_wa_ne w199 (x_wa_ne w189 (x_wa_ne w179 (x_wa_ne w169 (x_wa_ne w159 (x_wa_ne w155 (x_wa_ne w148 (x_wa_ne w144 (x_wa_ne w138 (x_wa_ne w134 (x_wa_ne w130 (x_wa_ne w126 (x_wa_ne w122 (x_wa_ne w116 (x_wa_ne w109 (x_wa_ne w104 (x_wa_ne w99 (x_wa_ne w95 (x_wa_ne w90 (x_wa_ne w86 (x_wa_ne w81 (x_wa_ne w76 (x_wa_ne w69 (x_wa_ne w61 (x_wa_ne w53 (x_wa_ne w46 (x_wa_ne w37 (x_wa_ne w33 (x_wa_ne w26 (x_wa_ne w22 (x_wa_ne w16 (x_wa_ne w12 b555 (x_nb rfl)) (x_nb rfl)) (x_nb rfl)) (x_nb rfl)) (x_nb rfl)) (x_nb rfl)) (x_nb rfl)) (x_nb rfl)) (x_nb rfl)) (x_nb rfl)) (x_nb rfl)) (x_nb rfl)) (x_nb rfl)) (x_nb rfl)) (x_nb rfl)) (x_nb rfl)) (x_nb rfl)) (x_nb rfl)) (x_nb rfl)) (x_nb rfl)) (x_nb rfl)) (x_nb rfl)) (x_nb rfl)) (x_nb rfl)) (x_nb rfl)) (x_nb rfl)) (x_nb rfl)) (x_nb rfl)) (x_nb rfl)) (x_nb rfl)) (x_nb rfl)) (x_nb rfl)) (x_nb rfl)) (x_nb rfl)) (x_nb rfl)) (x_nb rfl)) (x_nb rfl)) (x_nb rfl)) (x_nb rfl)) (x_nb rfl)) (x_nb rfl)) (x_nb rfl)) (x_nb rfl)) (x_nb rfl)) (x_nb rfl)) (x_nb rfl)) (x_nb rfl)) (x_nb rfl)) (x_nb rfl)) (x_nb rfl)) (x_nb rfl)) (x_nb rfl)) (x_nb rfl)) (x_nb rfl)) (x_nb rfl)) (x_nb rfl)) (x_nb rfl)) (x_nb rfl)) (x_nb rfl)) (x_nb rfl)) (x_nb rfl)) (x_nb rfl)) (x_nb rfl)) (x_nb rfl)) (x_nb rfl)) (x_nb rfl)) (x_nb rfl)) (x_nb rfl)) (x_nb rfl)) (x_nb rfl)) (x_nb rfl)) (x_nb rfl)) (x_nb rfl)) (x_nb rfl)) (x_nb rfl)) (x_nb rfl)
        refine g_ba3 (i := 0) (a := 387) (n := 16) (v := 0) rfl g556 (by decide) rfl ?_
        refine g_n 7 (pc' := 9) (L' := [some (.ref 281), some (.int 0), some (.int 1)]) (st' := [.ref 281]) rfl ?_
        refine g_get (i := 333) (kd := 1) (ci := 12) (k := 135) (tc := 3) (v := .ref 387) rfl rfl (Or.inl (by decide)) g550 v554 ?_
        refine g_n 1 (pc' := 13) (L' := [some (.ref 281), some (.int 0), some (.int 1)]) (st' := [.int 1, .ref 387]) rfl ?_
        refine g_ba3 (i := 1) (a := 387) (n := 16) (v := 0) rfl g556 (by decide) rfl ?_
        refine g_n 7 (pc' := 9) (L' := [some (.ref 281), some (.int 0), some (.int 2)]) (st' := [.ref 281]) rfl ?_
        refine g_get (i := 333) (kd := 1) (ci := 12) (k := 135) (tc := 3) (v := .ref 387) rfl rfl (Or.inl (by decide)) g550 v554 ?_
        refine g_n 1 (pc' := 13) (L' := [some (.ref 281), some (.int 0), some (.int 2)]) (st' := [.int 2, .ref 387]) rfl ?_
        refine g_ba3 (i := 2) (a := 387) (n := 16) (v := 0) rfl g556 (by decide) rfl ?_
        refine g_n 7 (pc' := 9) (L' := [some (.ref 281), some (.int 0), some (.int 3)]) (st' := [.ref 281]) rfl ?_
        refine g_get (i := 333) (kd := 1) (ci := 12) (k := 135) (tc := 3) (v := .ref 387) rfl rfl (Or.inl (by decide)) g550 v554 ?_
        refine g_n 1 (pc' := 13) (L' := [some (.ref 281), some (.int 0), some (.int 3)]) (st' := [.int 3, .ref 387]) rfl ?_
        refine g_ba3 (i := 3) (a := 387) (n := 16) (v := 0) rfl g556 (by decide) rfl ?_
        refine g_n 7 (pc' := 9) (L' := [some (.ref 281), some (.int 0), some (.int 4)]) (st' := [.ref 281]) rfl ?_
        refine g_get (i := 333) (kd := 1) (ci := 12) (k := 135) (tc := 3) (v := .ref 387) rfl rfl (Or.inl (by decide)) g550 v554 ?_
        refine g_n 1 (pc' := 13) (L' := [some (.ref 281), some (.int 0), some (.int 4)]) (st' := [.int 4, .ref 387]) rfl ?_
        refine g_ba3 (i := 4) (a := 387) (n := 16) (v := 0) rfl g556 (by decide) rfl ?_
        refine g_n 7 (pc' := 9) (L' := [some (.ref 281), some (.int 0), some (.int 5)]) (st' := [.ref 281]) rfl ?_
        refine g_get (i := 333) (kd := 1) (ci := 12) (k := 135) (tc := 3) (v := .ref 387) rfl rfl (Or.inl (by decide)) g550 v554 ?_
        refine g_n 1 (pc' := 13) (L' := [some (.ref 281), some (.int 0), some (.int 5)]) (st' := [.int 5, .ref 387]) rfl ?_
        refine g_ba3 (i := 5) (a := 387) (n := 16) (v := 0) rfl g556 (by decide) rfl ?_
        refine g_n 7 (pc' := 9) (L' := [some (.ref 281), some (.int 0), some (.int 6)]) (st' := [.ref 281]) rfl ?_
        refine g_get (i := 333) (kd := 1) (ci := 12) (k := 135) (tc := 3) (v := .ref 387) rfl rfl (Or.inl (by decide)) g550 v554 ?_
        refine g_n 1 (pc' := 13) (L' := [some (.ref 281), some (.int 0), some (.int 6)]) (st' := [.int 6, .ref 387]) rfl ?_
        refine g_ba3 (i := 6) (a := 387) (n := 16) (v := 0) rfl g556 (by decide) rfl ?_
        refine g_n 7 (pc' := 9) (L' := [some (.ref 281), some (.int 0), some (.int 7)]) (st' := [.ref 281]) rfl ?_
        refine g_get (i := 333) (kd := 1) (ci := 12) (k := 135) (tc := 3) (v := .ref 387) rfl rfl (Or.inl (by decide)) g550 v554 ?_
        refine g_n 1 (pc' := 13) (L' := [some (.ref 281), some (.int 0), some (.int 7)]) (st' := [.int 7, .ref 387]) rfl ?_
        refine g_ba3 (i := 7) (a := 387) (n := 16) (v := 0) rfl g556 (by decide) rfl ?_
        refine g_n 7 (pc' := 9) (L' := [some (.ref 281), some (.int 0), some (.int 8)]) (st' := [.ref 281]) rfl ?_
        refine g_get (i := 333) (kd := 1) (ci := 12) (k := 135) (tc := 3) (v := .ref 387) rfl rfl (Or.inl (by decide)) g550 v554 ?_
        refine g_n 1 (pc' := 13) (L' := [some (.ref 281), some (.int 0), some (.int 8)]) (st' := [.int 8, .ref 387]) rfl ?_
        refine g_ba3 (i := 8) (a := 387) (n := 16) (v := 0) rfl g556 (by decide) rfl ?_
        refine g_n 7 (pc' := 9) (L' := [some (.ref 281), some (.int 0), some (.int 9)]) (st' := [.ref 281]) rfl ?_
        refine g_get (i := 333) (kd := 1) (ci := 12) (k := 135) (tc := 3) (v := .ref 387) rfl rfl (Or.inl (by decide)) g550 v554 ?_
        refine g_n 1 (pc' := 13) (L' := [some (.ref 281), some (.int 0), some (.int 9)]) (st' := [.int 9, .ref 387]) rfl ?_
        refine g_ba3 (i := 9) (a := 387) (n := 16) (v := 0) rfl g556 (by decide) rfl ?_
        refine g_n 7 (pc' := 9) (L' := [some (.ref 281), some (.int 0), some (.int 10)]) (st' := [.ref 281]) rfl ?_
        refine g_get (i := 333) (kd := 1) (ci := 12) (k := 135) (tc := 3) (v := .ref 387) rfl rfl (Or.inl (by decide)) g550 v554 ?_
        refine g_n 1 (pc' := 13) (L' := [some (.ref 281), some (.int 0), some (.int 10)]) (st' := [.int 10, .ref 387]) rfl ?_
        refine g_ba3 (i := 10) (a := 387) (n := 16) (v := 0) rfl g556 (by decide) rfl ?_
        refine g_n 7 (pc' := 9) (L' := [some (.ref 281), some (.int 0), some (.int 11)]) (st' := [.ref 281]) rfl ?_
        refine g_get (i := 333) (kd := 1) (ci := 12) (k := 135) (tc := 3) (v := .ref 387) rfl rfl (Or.inl (by decide)) g550 v554 ?_
        refine g_n 1 (pc' := 13) (L' := [some (.ref 281), some (.int 0), some (.int 11)]) (st' := [.int 11, .ref 387]) rfl ?_
        refine g_ba3 (i := 11) (a := 387) (n := 16) (v := 0) rfl g556 (by decide) rfl ?_
        refine g_n 7 (pc' := 41) (L' := [some (.ref 281), some (.int 0), some (.int 12)]) (st' := [.ref 281]) rfl ?_
        have v557 : x_MF[260]? = some (.int 0) := rfl
        have v558 := x_wf_ne e513 (x_wf_ne e505 (x_wf_ne e495 (x_wf_ne e486 (x_wf_ne e476 (x_wf_ne e441 (x_wf_ne e433 (x_wf_ne e425 (x_wf_ne e417 (x_wf_ne e408 v557 (x_nb rfl)) (x_nb rfl)) (x_nb rfl)) (x_nb rfl)) (x_nb rfl)) (x_nb rfl)) (x_nb rfl)) (x_nb rfl)) (x_nb rfl)) (x_nb rfl)
        refine g_get (i := 1889) (kd := 0) (ci := 12) (k := 260) (tc := 2) (v := .int 0) rfl rfl (Or.inl (by decide)) g550 v558 ?_
        refine g_n 7 (pc' := 92) (L' := [some (.ref 281), some (.int 0), some (.int 0)]) (st' := [.ref 281]) rfl ?_
        have v559 : x_MF[280]? = some (.ref 470) := rfl
        have v560 := x_wf_ne e513 (x_wf_ne e505 (x_wf_ne e495 (x_wf_ne e486 (x_wf_ne e476 (x_wf_ne e441 (x_wf_ne e433 (x_wf_ne e425 (x_wf_ne e417 (x_wf_ne e408 v559 (x_nb rfl)) (x_nb rfl)) (x_nb rfl)) (x_nb rfl)) (x_nb rfl)) (x_nb rfl)) (x_nb rfl)) (x_nb rfl)) (x_nb rfl)) (x_nb rfl)
        refine g_get (i := 585) (kd := 1) (ci := 12) (k := 280) (tc := 3) (v := .ref 470) rfl rfl (Or.inl (by decide)) g550 v560 ?_
        refine g_n 1 (pc' := 96) (L' := [some (.ref 281), some (.int 0), some (.int 0)]) (st' := [.int 0, .ref 470]) rfl ?_
        have b561 : x_arr (x_W fi fl fr) 470 = some (3, 3, .inl fun _ => 0) := rfl
        have g562 := x_wa_ne w547 (x_wa_ne w540 (x_wa_ne w534 (x_wa_ne w528 (x_wa_ne w512 (x_wa_ne w504 (x_wa_ne w494 (x_wa_ne w485 (x_wa_ne w475 (x_wa_ne w470 (x_wa_ne w461 (x_wa_ne w452 (x_wa_ne w440 (x_wa_ne w432 (x_wa_ne w424 (x_wa_ne w416 (x_wa_ne w406 (x_wa_ne w390 (x_wa_ne w382 (x_wa_ne w374 (x_wa_ne w366 (x_wa_ne w358 (x_wa_ne w350 (x_wa_ne w342 (x_wa_ne w334 (x_wa_ne w326 (x_wa_ne w318 (x_wa_ne w310 (x_wa_ne w302 (x_wa_ne w294 (x_wa_ne w288 (x_wa_ne w280 (x_wa_ne w274 (x_wa_ne w269 (x_wa_ne w265 (x_wa_ne w257 (x_wa_ne w253 (x_wa_ne w245 (x_wa_ne w236 (x_wa_ne w232 (x_wa_ne w228 (x_wa_ne w224 (x_wa_ne w219 (x_wa_ne w209 (x_wa_ne w199 (x_wa_ne w189 (x_wa_ne w179 (x_wa_ne w169 (x_wa_ne w159 (x_wa_ne w155 (x_wa_ne w148 (x_wa_ne w144 (x_wa_ne w138 (x_wa_ne w134 (x_wa_ne w130 (x_wa_ne w126 (x_wa_ne w122 (x_wa_ne w116 (x_wa_ne w109 (x_wa_ne w104 (x_wa_ne w99 (x_wa_ne w95 (x_wa_ne w90 (x_wa_ne w86 (x_wa_ne w81 (x_wa_ne w76 (x_wa_ne w69 (x_wa_ne w61 (x_wa_ne w53 (x_wa_ne w46 (x_wa_ne w37 (x_wa_ne w33 (x_wa_ne w26 (x_wa_ne w22 (x_wa_ne w16 (x_wa_ne w12 b561 (x_nb rfl)) (x_nb rfl)) (x_nb rfl)) (x_nb rfl)) (x_nb rfl)) (x_nb rfl)) (x_nb rfl)) (x_nb rfl)) (x_nb rfl)) (x_nb rfl)) (x_nb rfl)) (x_nb rfl)) (x_nb rfl)) (x_nb rfl)) (x_nb rfl)) (x_nb rfl)) (x_nb rfl)) (x_nb rfl)) (x_nb rfl)) (x_nb rfl)) (x_nb rfl)) (x_nb rfl)) (x_nb rfl)) (x_nb rfl)) (x_nb rfl)) (x_nb rfl)) (x_nb rfl)) (x_nb rfl)) (x_nb rfl)) (x_nb rfl)) (x_nb rfl)) (x_nb rfl)) (x_nb rfl)) (x_nb rfl)) (x_nb rfl)) (x_nb rfl)) (x_nb rfl)) (x_nb rfl)) (x_nb rfl)) (x_nb rfl)) (x_nb rfl)) (x_nb rfl)) (x_nb rfl)) (x_nb rfl)) (x_nb rfl)) (x_nb rfl)) (x_nb rfl)) (x_nb rfl)) (x_nb rfl)) (x_nb rfl)) (x_nb rfl)) (x_nb rfl)) (x_nb rfl)) (x_nb rfl)) (x_nb rfl)) (x_nb rfl)) (x_nb rfl)) (x_nb rfl)) (x_nb rfl)) (x_nb rfl)) (x_nb rfl)) (x_nb rfl)) (x_nb rfl)) (x_nb rfl)) (x_nb rfl)) (x_nb rfl)) (x_nb rfl)) (x_nb rfl)) (x_nb rfl)) (x_nb rfl)) (x_nb rfl)) (x_nb rfl)) (x_nb rfl)) (x_nb rfl)) (x_nb rfl)) (x_nb rfl)
        refine g_ba3 (i := 0) (a := 470) (n := 3) (v := 0) rfl g562 (by decide) rfl ?_
        refine g_n 7 (pc' := 92) (L' := [some (.ref 281), some (.int 0), some (.int 1)]) (st' := [.ref 281]) rfl ?_
        refine g_get (i := 585) (kd := 1) (ci := 12) (k := 280) (tc := 3) (v := .ref 470) rfl rfl (Or.inl (by decide)) g550 v560 ?_
        refine g_n 1 (pc' := 96) (L' := [some (.ref 281), some (.int 0), some (.int 1)]) (st' := [.int 1, .ref 470]) rfl ?_
        refine g_ba3 (i := 1) (a := 470) (n := 3) (v := 0) rfl g562 (by decide) rfl ?_
        refine g_n 7 (pc' := 92) (L' := [some (.ref 281), some (.int 0), some (.int 2)]) (st' := [.ref 281]) rfl ?_
        refine g_get (i := 585) (kd := 1) (ci := 12) (k := 280) (tc := 3) (v := .ref 470) rfl rfl (Or.inl (by decide)) g550 v560 ?_
        refine g_n 1 (pc' := 96) (L' := [some (.ref 281), some (.int 0), some (.int 2)]) (st' := [.int 2, .ref 470]) rfl ?_
        refine g_ba3 (i := 2) (a := 470) (n := 3) (v := 0) rfl g562 (by decide) rfl ?_
        refine g_n 6 (pc' := 130) (L' := [some (.ref 281), some (.int 0), some (.int 3)]) (st' := []) rfl ?_
        refine g_ret (ins := .return_) (len := 1) (r := none) rfl rfl rfl ?_
        refine g_n 1 (pc' := 97) (L' := [some (.ref 281), some (.int 0), some (.int 120)]) (st' := [.ref 281]) rfl ?_
        refine g_get (i := 33) (kd := 1) (ci := 12) (k := 20) (tc := 3) (v := .ref 288) rfl rfl (Or.inl (by decide)) g550 v519 ?_
        refine g_n 1 (pc' := 101) (L' := [some (.ref 281), some (.int 0), some (.int 120)]) (st' := [.int 0, .ref 288]) rfl ?_
        refine g_ia (i := 0) (a := 288) (n := 5) (v := 0) rfl g551 (by decide) rfl ?_
        exact g_ret (ins := .ireturn) (len := 1) (r := (some (.int 0))) rfl rfl rfl ⟨_, rfl, rfl, s548⟩
      · have q563 : ¬ a = 0 := h283
        have p564 : 1 ≤ a.toInt := x_lo_ne q563 p4 (by decide)
        by_cases h565 : a = 1
        · have e566 : a = 1 := h565
          subst e566
          have b567 : x_arr (x_W fi fl fr) 2 = some (5, 4, .inr (.inr (.inr (.inr (fr 2))))) := rfl
          have g568 := x_wa_ne w280 (x_wa_ne w274 (x_wa_ne w269 (x_wa_ne w265 (x_wa_ne w257 (x_wa_ne w253 (x_wa_ne w245 (x_wa_ne w236 (x_wa_ne w232 (x_wa_ne w228 (x_wa_ne w224 (x_wa_ne w219 (x_wa_ne w209 (x_wa_ne w199 (x_wa_ne w189 (x_wa_ne w179 (x_wa_ne w169 (x_wa_ne w159 (x_wa_ne w155 (x_wa_ne w148 (x_wa_ne w144 (x_wa_ne w138 (x_wa_ne w134 (x_wa_ne w130 (x_wa_ne w126 (x_wa_ne w122 (x_wa_ne w116 (x_wa_ne w109 (x_wa_ne w104 (x_wa_ne w99 (x_wa_ne w95 (x_wa_ne w90 (x_wa_ne w86 (x_wa_ne w81 (x_wa_ne w76 (x_wa_ne w69 (x_wa_ne w61 (x_wa_ne w53 (x_wa_ne w46 (x_wa_ne w37 (x_wa_ne w33 (x_wa_ne w26 (x_wa_ne w22 (x_wa_ne w16 (x_wa_ne w12 b567 (x_nb rfl)) (x_nb rfl)) (x_nb rfl)) (x_nb rfl)) (x_nb rfl)) (x_nb rfl)) (x_nb rfl)) (x_nb rfl)) (x_nb rfl)) (x_nb rfl)) (x_nb rfl)) (x_nb rfl)) (x_nb rfl)) (x_nb rfl)) (x_nb rfl)) (x_nb rfl)) (x_nb rfl)) (x_nb rfl)) (x_nb rfl)) (x_nb rfl)) (x_nb rfl)) (x_nb rfl)) (x_nb rfl)) (x_nb rfl)) (x_nb rfl)) (x_nb rfl)) (x_nb rfl)) (x_nb rfl)) (x_nb rfl)) (x_nb rfl)) (x_nb rfl)) (x_nb rfl)) (x_nb rfl)) (x_nb rfl)) (x_nb rfl)) (x_nb rfl)) (x_nb rfl)) (x_nb rfl)) (x_nb rfl)) (x_nb rfl)) (x_nb rfl)) (x_nb rfl)) (x_nb rfl)) (x_nb rfl)) (x_nb rfl)
          refine g_aa (i := 1) (a := 2) (n := 4) (v := 50) rfl g568 (by decide) (x_at (x_f2 hF) (k := 1) rfl) ?_
          refine g_n 2 (pc' := 77) (L' := [some (.ref 0), some (.int 1), some (.ref 50), none]) (st' := [.ref 0]) rfl ?_
          refine g_get (i := 42) (kd := 1) (ci := 11) (k := 2) (tc := 3) (v := .ref 2) rfl rfl (Or.inl (by decide)) g282 rfl ?_
          refine g_n 2 (pc' := 82) (L' := [some (.ref 0), some (.int 1), some (.ref 50), none]) (st' := [.ref 0, .int 1, .ref 2]) rfl ?_
          refine g_get (i := 82) (kd := 0) (ci := 11) (k := 4) (tc := 3) (v := .ref 183) rfl rfl (Or.inl (by decide)) g282 rfl ?_
          have g571 := x_wo_ne w280 g276 (x_nb rfl)
          refine g_asN rfl g568 g571 (by decide) (fun S569 w570 => ?_)
          have s572 := x_wsA w570 g568 rfl s281
          have g573 := x_wa_at w570 g568
          refine g_n 2 (pc' := 88) (L' := [some (.ref 0), some (.int 1), some (.ref 50), none]) (st' := [.ref 50, .ref 0]) rfl ?_
          have g574 := x_wo_ne w570 g282 (x_nb rfl)
          refine g_putN (i := 82) (kd := 0) (ci := 11) (k := 4) (tc := 3) (fs' := [.ref 179, .ref 1, .ref 2, .ref 3, .ref 50, .ref 211, .ref 224, .ref 235, .ref 237, .ref 238, .ref 240, .ref 248, .ref 206, .ref 4, .ref 181, .ref 9, .int (-2), .int 0, .long 0]) rfl rfl (Or.inl rfl) g574 (x_ltL rfl rfl) rfl rfl (fun S575 w576 => ?_)
          have s577 := x_wsO w576 g574 rfl s572
          have g578 := x_wo_at w576 g574
          refine g_n 6 (pc' := 100) (L' := [some (.ref 0), some (.int 1), some (.ref 50), some (.int 0)]) (st' := [.ref 0]) rfl ?_
          refine g_get (i := 48) (kd := 1) (ci := 11) (k := 3) (tc := 3) (v := .ref 3) rfl rfl (Or.inl (by decide)) g578 rfl ?_
          refine g_n 1 (pc' := 104) (L' := [some (.ref 0), some (.int 1), some (.ref 50), some (.int 0)]) (st' := [.int 0, .ref 3]) rfl ?_
          have b579 : x_arr (x_W fi fl fr) 3 = some (6, 12, .inr (.inr (.inr (.inr (fr 3))))) := rfl
          have g580 := x_wa_ne w576 (x_wa_ne w570 (x_wa_ne w280 (x_wa_ne w274 (x_wa_ne w269 (x_wa_ne w265 (x_wa_ne w257 (x_wa_ne w253 (x_wa_ne w245 (x_wa_ne w236 (x_wa_ne w232 (x_wa_ne w228 (x_wa_ne w224 (x_wa_ne w219 (x_wa_ne w209 (x_wa_ne w199 (x_wa_ne w189 (x_wa_ne w179 (x_wa_ne w169 (x_wa_ne w159 (x_wa_ne w155 (x_wa_ne w148 (x_wa_ne w144 (x_wa_ne w138 (x_wa_ne w134 (x_wa_ne w130 (x_wa_ne w126 (x_wa_ne w122 (x_wa_ne w116 (x_wa_ne w109 (x_wa_ne w104 (x_wa_ne w99 (x_wa_ne w95 (x_wa_ne w90 (x_wa_ne w86 (x_wa_ne w81 (x_wa_ne w76 (x_wa_ne w69 (x_wa_ne w61 (x_wa_ne w53 (x_wa_ne w46 (x_wa_ne w37 (x_wa_ne w33 (x_wa_ne w26 (x_wa_ne w22 (x_wa_ne w16 (x_wa_ne w12 b579 (x_nb rfl)) (x_nb rfl)) (x_nb rfl)) (x_nb rfl)) (x_nb rfl)) (x_nb rfl)) (x_nb rfl)) (x_nb rfl)) (x_nb rfl)) (x_nb rfl)) (x_nb rfl)) (x_nb rfl)) (x_nb rfl)) (x_nb rfl)) (x_nb rfl)) (x_nb rfl)) (x_nb rfl)) (x_nb rfl)) (x_nb rfl)) (x_nb rfl)) (x_nb rfl)) (x_nb rfl)) (x_nb rfl)) (x_nb rfl)) (x_nb rfl)) (x_nb rfl)) (x_nb rfl)) (x_nb rfl)) (x_nb rfl)) (x_nb rfl)) (x_nb rfl)) (x_nb rfl)) (x_nb rfl)) (x_nb rfl)) (x_nb rfl)) (x_nb rfl)) (x_nb rfl)) (x_nb rfl)) (x_nb rfl)) (x_nb rfl)) (x_nb rfl)) (x_nb rfl)) (x_nb rfl)) (x_nb rfl)) (x_nb rfl)) (x_nb rfl)) (x_nb rfl)
          refine g_aa (i := 0) (a := 3) (n := 12) (v := 119) rfl g580 (by decide) (x_at (x_f3 hF) (k := 0) rfl) ?_
          have b581 : x_obj (x_W fi fl fr) 119 = some (10, [.ref 120, .ref 122, .int 402, .int 0, .int 0, .int 0, .int 0, .int 0, .int 0, .int 0, .int 0, .int 0]) := rfl
          have g582 := x_wo_ne w576 (x_wo_ne w570 (x_wo_ne w280 (x_wo_ne w274 (x_wo_ne w269 (x_wo_ne w265 (x_wo_ne w257 (x_wo_ne w253 (x_wo_ne w245 (x_wo_ne w236 (x_wo_ne w232 (x_wo_ne w228 (x_wo_ne w224 (x_wo_ne w219 (x_wo_ne w209 (x_wo_ne w199 (x_wo_ne w189 (x_wo_ne w179 (x_wo_ne w169 (x_wo_ne w159 (x_wo_ne w155 (x_wo_ne w148 (x_wo_ne w144 (x_wo_ne w138 (x_wo_ne w134 (x_wo_ne w130 (x_wo_ne w126 (x_wo_ne w122 (x_wo_ne w116 (x_wo_ne w109 (x_wo_ne w104 (x_wo_ne w99 (x_wo_ne w95 (x_wo_ne w90 (x_wo_ne w86 (x_wo_ne w81 (x_wo_ne w76 (x_wo_ne w69 (x_wo_ne w61 (x_wo_ne w53 (x_wo_ne w46 (x_wo_ne w37 (x_wo_ne w33 (x_wo_ne w26 (x_wo_ne w22 (x_wo_ne w16 (x_wo_ne w12 b581 (x_nb rfl)) (x_nb rfl)) (x_nb rfl)) (x_nb rfl)) (x_nb rfl)) (x_nb rfl)) (x_nb rfl)) (x_nb rfl)) (x_nb rfl)) (x_nb rfl)) (x_nb rfl)) (x_nb rfl)) (x_nb rfl)) (x_nb rfl)) (x_nb rfl)) (x_nb rfl)) (x_nb rfl)) (x_nb rfl)) (x_nb rfl)) (x_nb rfl)) (x_nb rfl)) (x_nb rfl)) (x_nb rfl)) (x_nb rfl)) (x_nb rfl)) (x_nb rfl)) (x_nb rfl)) (x_nb rfl)) (x_nb rfl)) (x_nb rfl)) (x_nb rfl)) (x_nb rfl)) (x_nb rfl)) (x_nb rfl)) (x_nb rfl)) (x_nb rfl)) (x_nb rfl)) (x_nb rfl)) (x_nb rfl)) (x_nb rfl)) (x_nb rfl)) (x_nb rfl)) (x_nb rfl)) (x_nb rfl)) (x_nb rfl)) (x_nb rfl)) (x_nb rfl)
          refine g_get (i := 189) (kd := 0) (ci := 10) (k := 6) (tc := 0) (v := .int 0) rfl rfl (Or.inl (by decide)) g582 rfl ?_
          refine g_n 8 (pc' := 100) (L' := [some (.ref 0), some (.int 1), some (.ref 50), some (.int 1)]) (st' := [.ref 0]) rfl ?_
          refine g_get (i := 48) (kd := 1) (ci := 11) (k := 3) (tc := 3) (v := .ref 3) rfl rfl (Or.inl (by decide)) g578 rfl ?_
          refine g_n 1 (pc' := 104) (L' := [some (.ref 0), some (.int 1), some (.ref 50), some (.int 1)]) (st' := [.int 1, .ref 3]) rfl ?_
          refine g_aa (i := 1) (a := 3) (n := 12) (v := 124) rfl g580 (by decide) (x_at (x_f3 hF) (k := 1) rfl) ?_
          have b583 : x_obj (x_W fi fl fr) 124 = some (10, [.ref 125, .ref 127, .int 402, .int 0, .int 0, .int 0, .int 0, .int 0, .int 0, .int 0, .int 0, .int 0]) := rfl
          have g584 := x_wo_ne w576 (x_wo_ne w570 (x_wo_ne w280 (x_wo_ne w274 (x_wo_ne w269 (x_wo_ne w265 (x_wo_ne w257 (x_wo_ne w253 (x_wo_ne w245 (x_wo_ne w236 (x_wo_ne w232 (x_wo_ne w228 (x_wo_ne w224 (x_wo_ne w219 (x_wo_ne w209 (x_wo_ne w199 (x_wo_ne w189 (x_wo_ne w179 (x_wo_ne w169 (x_wo_ne w159 (x_wo_ne w155 (x_wo_ne w148 (x_wo_ne w144 (x_wo_ne w138 (x_wo_ne w134 (x_wo_ne w130 (x_wo_ne w126 (x_wo_ne w122 (x_wo_ne w116 (x_wo_ne w109 (x_wo_ne w104 (x_wo_ne w99 (x_wo_ne w95 (x_wo_ne w90 (x_wo_ne w86 (x_wo_ne w81 (x_wo_ne w76 (x_wo_ne w69 (x_wo_ne w61 (x_wo_ne w53 (x_wo_ne w46 (x_wo_ne w37 (x_wo_ne w33 (x_wo_ne w26 (x_wo_ne w22 (x_wo_ne w16 (x_wo_ne w12 b583 (x_nb rfl)) (x_nb rfl)) (x_nb rfl)) (x_nb rfl)) (x_nb rfl)) (x_nb rfl)) (x_nb rfl)) (x_nb rfl)) (x_nb rfl)) (x_nb rfl)) (x_nb rfl)) (x_nb rfl)) (x_nb rfl)) (x_nb rfl)) (x_nb rfl)) (x_nb rfl)) (x_nb rfl)) (x_nb rfl)) (x_nb rfl)) (x_nb rfl)) (x_nb rfl)) (x_nb rfl)) (x_nb rfl)) (x_nb rfl)) (x_nb rfl)) (x_nb rfl)) (x_nb rfl)) (x_nb rfl)) (x_nb rfl)) (x_nb rfl)) (x_nb rfl)) (x_nb rfl)) (x_nb rfl)) (x_nb rfl)) (x_nb rfl)) (x_nb rfl)) (x_nb rfl)) (x_nb rfl)) (x_nb rfl)) (x_nb rfl)) (x_nb rfl)) (x_nb rfl)) (x_nb rfl)) (x_nb rfl)) (x_nb rfl)) (x_nb rfl)) (x_nb rfl)
          refine g_get (i := 189) (kd := 0) (ci := 10) (k := 6) (tc := 0) (v := .int 0) rfl rfl (Or.inl (by decide)) g584 rfl ?_
          refine g_n 8 (pc' := 100) (L' := [some (.ref 0), some (.int 1), some (.ref 50), some (.int 2)]) (st' := [.ref 0]) rfl ?_
          refine g_get (i := 48) (kd := 1) (ci := 11) (k := 3) (tc := 3) (v := .ref 3) rfl rfl (Or.inl (by decide)) g578 rfl ?_
          refine g_n 1 (pc' := 104) (L' := [some (.ref 0), some (.int 1), some (.ref 50), some (.int 2)]) (st' := [.int 2, .ref 3]) rfl ?_
          refine g_aa (i := 2) (a := 3) (n := 12) (v := 129) rfl g580 (by decide) (x_at (x_f3 hF) (k := 2) rfl) ?_
          have b585 : x_obj (x_W fi fl fr) 129 = some (10, [.ref 130, .ref 132, .int 402, .int 0, .int 0, .int 0, .int 0, .int 0, .int 0, .int 0, .int 0, .int 0]) := rfl
          have g586 := x_wo_ne w576 (x_wo_ne w570 (x_wo_ne w280 (x_wo_ne w274 (x_wo_ne w269 (x_wo_ne w265 (x_wo_ne w257 (x_wo_ne w253 (x_wo_ne w245 (x_wo_ne w236 (x_wo_ne w232 (x_wo_ne w228 (x_wo_ne w224 (x_wo_ne w219 (x_wo_ne w209 (x_wo_ne w199 (x_wo_ne w189 (x_wo_ne w179 (x_wo_ne w169 (x_wo_ne w159 (x_wo_ne w155 (x_wo_ne w148 (x_wo_ne w144 (x_wo_ne w138 (x_wo_ne w134 (x_wo_ne w130 (x_wo_ne w126 (x_wo_ne w122 (x_wo_ne w116 (x_wo_ne w109 (x_wo_ne w104 (x_wo_ne w99 (x_wo_ne w95 (x_wo_ne w90 (x_wo_ne w86 (x_wo_ne w81 (x_wo_ne w76 (x_wo_ne w69 (x_wo_ne w61 (x_wo_ne w53 (x_wo_ne w46 (x_wo_ne w37 (x_wo_ne w33 (x_wo_ne w26 (x_wo_ne w22 (x_wo_ne w16 (x_wo_ne w12 b585 (x_nb rfl)) (x_nb rfl)) (x_nb rfl)) (x_nb rfl)) (x_nb rfl)) (x_nb rfl)) (x_nb rfl)) (x_nb rfl)) (x_nb rfl)) (x_nb rfl)) (x_nb rfl)) (x_nb rfl)) (x_nb rfl)) (x_nb rfl)) (x_nb rfl)) (x_nb rfl)) (x_nb rfl)) (x_nb rfl)) (x_nb rfl)) (x_nb rfl)) (x_nb rfl)) (x_nb rfl)) (x_nb rfl)) (x_nb rfl)) (x_nb rfl)) (x_nb rfl)) (x_nb rfl)) (x_nb rfl)) (x_nb rfl)) (x_nb rfl)) (x_nb rfl)) (x_nb rfl)) (x_nb rfl)) (x_nb rfl)) (x_nb rfl)) (x_nb rfl)) (x_nb rfl)) (x_nb rfl)) (x_nb rfl)) (x_nb rfl)) (x_nb rfl)) (x_nb rfl)) (x_nb rfl)) (x_nb rfl)) (x_nb rfl)) (x_nb rfl)) (x_nb rfl)
          refine g_get (i := 189) (kd := 0) (ci := 10) (k := 6) (tc := 0) (v := .int 0) rfl rfl (Or.inl (by decide)) g586 rfl ?_
          refine g_n 8 (pc' := 100) (L' := [some (.ref 0), some (.int 1), some (.ref 50), some (.int 3)]) (st' := [.ref 0]) rfl ?_
          refine g_get (i := 48) (kd := 1) (ci := 11) (k := 3) (tc := 3) (v := .ref 3) rfl rfl (Or.inl (by decide)) g578 rfl ?_
          refine g_n 1 (pc' := 104) (L' := [some (.ref 0), some (.int 1), some (.ref 50), some (.int 3)]) (st' := [.int 3, .ref 3]) rfl ?_
          refine g_aa (i := 3) (a := 3) (n := 12) (v := 134) rfl g580 (by decide) (x_at (x_f3 hF) (k := 3) rfl) ?_
          have b587 : x_obj (x_W fi fl fr) 134 = some (10, [.ref 135, .ref 137, .int 402, .int 0, .int 0, .int 0, .int 0, .int 0, .int 0, .int 0, .int 0, .int 0]) := rfl
          have g588 := x_wo_ne w576 (x_wo_ne w570 (x_wo_ne w280 (x_wo_ne w274 (x_wo_ne w269 (x_wo_ne w265 (x_wo_ne w257 (x_wo_ne w253 (x_wo_ne w245 (x_wo_ne w236 (x_wo_ne w232 (x_wo_ne w228 (x_wo_ne w224 (x_wo_ne w219 (x_wo_ne w209 (x_wo_ne w199 (x_wo_ne w189 (x_wo_ne w179 (x_wo_ne w169 (x_wo_ne w159 (x_wo_ne w155 (x_wo_ne w148 (x_wo_ne w144 (x_wo_ne w138 (x_wo_ne w134 (x_wo_ne w130 (x_wo_ne w126 (x_wo_ne w122 (x_wo_ne w116 (x_wo_ne w109 (x_wo_ne w104 (x_wo_ne w99 (x_wo_ne w95 (x_wo_ne w90 (x_wo_ne w86 (x_wo_ne w81 (x_wo_ne w76 (x_wo_ne w69 (x_wo_ne w61 (x_wo_ne w53 (x_wo_ne w46 (x_wo_ne w37 (x_wo_ne w33 (x_wo_ne w26 (x_wo_ne w22 (x_wo_ne w16 (x_wo_ne w12 b587 (x_nb rfl)) (x_nb rfl)) (x_nb rfl)) (x_nb rfl)) (x_nb rfl)) (x_nb rfl)) (x_nb rfl)) (x_nb rfl)) (x_nb rfl)) (x_nb rfl)) (x_nb rfl)) (x_nb rfl)) (x_nb rfl)) (x_nb rfl)) (x_nb rfl)) (x_nb rfl)) (x_nb rfl)) (x_nb rfl)) (x_nb rfl)) (x_nb rfl)) (x_nb rfl)) (x_nb rfl)) (x_nb rfl)) (x_nb rfl)) (x_nb rfl)) (x_nb rfl)) (x_nb rfl)) (x_nb rfl)) (x_nb rfl)) (x_nb rfl)) (x_nb rfl)) (x_nb rfl)) (x_nb rfl)) (x_nb rfl)) (x_nb rfl)) (x_nb rfl)) (x_nb rfl)) (x_nb rfl)) (x_nb rfl)) (x_nb rfl)) (x_nb rfl)) (x_nb rfl)) (x_nb rfl)) (x_nb rfl)) (x_nb rfl)) (x_nb rfl)) (x_nb rfl)
          refine g_get (i := 189) (kd := 0) (ci := 10) (k := 6) (tc := 0) (v := .int 0) rfl rfl (Or.inl (by decide)) g588 rfl ?_
          refine g_n 8 (pc' := 100) (L' := [some (.ref 0), some (.int 1), some (.ref 50), some (.int 4)]) (st' := [.ref 0]) rfl ?_
          refine g_get (i := 48) (kd := 1) (ci := 11) (k := 3) (tc := 3) (v := .ref 3) rfl rfl (Or.inl (by decide)) g578 rfl ?_
          refine g_n 1 (pc' := 104) (L' := [some (.ref 0), some (.int 1), some (.ref 50), some (.int 4)]) (st' := [.int 4, .ref 3]) rfl ?_
          refine g_aa (i := 4) (a := 3) (n := 12) (v := 139) rfl g580 (by decide) (x_at (x_f3 hF) (k := 4) rfl) ?_
          have b589 : x_obj (x_W fi fl fr) 139 = some (10, [.ref 140, .ref 142, .int 402, .int 0, .int 0, .int 0, .int 0, .int 0, .int 0, .int 0, .int 0, .int 0]) := rfl
          have g590 := x_wo_ne w576 (x_wo_ne w570 (x_wo_ne w280 (x_wo_ne w274 (x_wo_ne w269 (x_wo_ne w265 (x_wo_ne w257 (x_wo_ne w253 (x_wo_ne w245 (x_wo_ne w236 (x_wo_ne w232 (x_wo_ne w228 (x_wo_ne w224 (x_wo_ne w219 (x_wo_ne w209 (x_wo_ne w199 (x_wo_ne w189 (x_wo_ne w179 (x_wo_ne w169 (x_wo_ne w159 (x_wo_ne w155 (x_wo_ne w148 (x_wo_ne w144 (x_wo_ne w138 (x_wo_ne w134 (x_wo_ne w130 (x_wo_ne w126 (x_wo_ne w122 (x_wo_ne w116 (x_wo_ne w109 (x_wo_ne w104 (x_wo_ne w99 (x_wo_ne w95 (x_wo_ne w90 (x_wo_ne w86 (x_wo_ne w81 (x_wo_ne w76 (x_wo_ne w69 (x_wo_ne w61 (x_wo_ne w53 (x_wo_ne w46 (x_wo_ne w37 (x_wo_ne w33 (x_wo_ne w26 (x_wo_ne w22 (x_wo_ne w16 (x_wo_ne w12 b589 (x_nb rfl)) (x_nb rfl)) (x_nb rfl)) (x_nb rfl)) (x_nb rfl)) (x_nb rfl)) (x_nb rfl)) (x_nb rfl)) (x_nb rfl)) (x_nb rfl)) (x_nb rfl)) (x_nb rfl)) (x_nb rfl)) (x_nb rfl)) (x_nb rfl)) (x_nb rfl)) (x_nb rfl)) (x_nb rfl)) (x_nb rfl)) (x_nb rfl)) (x_nb rfl)) (x_nb rfl)) (x_nb rfl)) (x_nb rfl)) (x_nb rfl)) (x_nb rfl)) (x_nb rfl)) (x_nb rfl)) (x_nb rfl)) (x_nb rfl)) (x_nb rfl)) (x_nb rfl)) (x_nb rfl)) (x_nb rfl)) (x_nb rfl)) (x_nb rfl)) (x_nb rfl)) (x_nb rfl)) (x_nb rfl)) (x_nb rfl)) (x_nb rfl)) (x_nb rfl)) (x_nb rfl)) (x_nb rfl)) (x_nb rfl)) (x_nb rfl)) (x_nb rfl)
          refine g_get (i := 189) (kd := 0) (ci := 10) (k := 6) (tc := 0) (v := .int 0) rfl rfl (Or.inl (by decide)) g590 rfl ?_
          refine g_n 8 (pc' := 100) (L' := [some (.ref 0), some (.int 1), some (.ref 50), some (.int 5)]) (st' := [.ref 0]) rfl ?_
          refine g_get (i := 48) (kd := 1) (ci := 11) (k := 3) (tc := 3) (v := .ref 3) rfl rfl (Or.inl (by decide)) g578 rfl ?_
          refine g_n 1 (pc' := 104) (L' := [some (.ref 0), some (.int 1), some (.ref 50), some (.int 5)]) (st' := [.int 5, .ref 3]) rfl ?_
          refine g_aa (i := 5) (a := 3) (n := 12) (v := 144) rfl g580 (by decide) (x_at (x_f3 hF) (k := 5) rfl) ?_
          have b591 : x_obj (x_W fi fl fr) 144 = some (10, [.ref 145, .ref 147, .int 402, .int 0, .int 0, .int 0, .int 0, .int 0, .int 0, .int 0, .int 0, .int 0]) := rfl
          have g592 := x_wo_ne w576 (x_wo_ne w570 (x_wo_ne w280 (x_wo_ne w274 (x_wo_ne w269 (x_wo_ne w265 (x_wo_ne w257 (x_wo_ne w253 (x_wo_ne w245 (x_wo_ne w236 (x_wo_ne w232 (x_wo_ne w228 (x_wo_ne w224 (x_wo_ne w219 (x_wo_ne w209 (x_wo_ne w199 (x_wo_ne w189 (x_wo_ne w179 (x_wo_ne w169 (x_wo_ne w159 (x_wo_ne w155 (x_wo_ne w148 (x_wo_ne w144 (x_wo_ne w138 (x_wo_ne w134 (x_wo_ne w130 (x_wo_ne w126 (x_wo_ne w122 (x_wo_ne w116 (x_wo_ne w109 (x_wo_ne w104 (x_wo_ne w99 (x_wo_ne w95 (x_wo_ne w90 (x_wo_ne w86 (x_wo_ne w81 (x_wo_ne w76 (x_wo_ne w69 (x_wo_ne w61 (x_wo_ne w53 (x_wo_ne w46 (x_wo_ne w37 (x_wo_ne w33 (x_wo_ne w26 (x_wo_ne w22 (x_wo_ne w16 (x_wo_ne w12 b591 (x_nb rfl)) (x_nb rfl)) (x_nb rfl)) (x_nb rfl)) (x_nb rfl)) (x_nb rfl)) (x_nb rfl)) (x_nb rfl)) (x_nb rfl)) (x_nb rfl)) (x_nb rfl)) (x_nb rfl)) (x_nb rfl)) (x_nb rfl)) (x_nb rfl)) (x_nb rfl)) (x_nb rfl)) (x_nb rfl)) (x_nb rfl)) (x_nb rfl)) (x_nb rfl)) (x_nb rfl)) (x_nb rfl)) (x_nb rfl)) (x_nb rfl)) (x_nb rfl)) (x_nb rfl)) (x_nb rfl)) (x_nb rfl)) (x_nb rfl)) (x_nb rfl)) (x_nb rfl)) (x_nb rfl)) (x_nb rfl)) (x_nb rfl)) (x_nb rfl)) (x_nb rfl)) (x_nb rfl)) (x_nb rfl)) (x_nb rfl)) (x_nb rfl)) (x_nb rfl)) (x_nb rfl)) (x_nb rfl)) (x_nb rfl)) (x_nb rfl)) (x_nb rfl)
          refine g_get (i := 189) (kd := 0) (ci := 10) (k := 6) (tc := 0) (v := .int 0) rfl rfl (Or.inl (by decide)) g592 rfl ?_
          refine g_n 8 (pc' := 100) (L' := [some (.ref 0), some (.int 1), some (.ref 50), some (.int 6)]) (st' := [.ref 0]) rfl ?_
          refine g_get (i := 48) (kd := 1) (ci := 11) (k := 3) (tc := 3) (v := .ref 3) rfl rfl (Or.inl (by decide)) g578 rfl ?_
          refine g_n 1 (pc' := 104) (L' := [some (.ref 0), some (.int 1), some (.ref 50), some (.int 6)]) (st' := [.int 6, .ref 3]) rfl ?_
          refine g_aa (i := 6) (a := 3) (n := 12) (v := 149) rfl g580 (by decide) (x_at (x_f3 hF) (k := 6) rfl) ?_
          have b593 : x_obj (x_W fi fl fr) 149 = some (10, [.ref 150, .ref 152, .int 402, .int 0, .int 0, .int 0, .int 0, .int 0, .int 0, .int 0, .int 0, .int 0]) := rfl
          have g594 := x_wo_ne w576 (x_wo_ne w570 (x_wo_ne w280 (x_wo_ne w274 (x_wo_ne w269 (x_wo_ne w265 (x_wo_ne w257 (x_wo_ne w253 (x_wo_ne w245 (x_wo_ne w236 (x_wo_ne w232 (x_wo_ne w228 (x_wo_ne w224 (x_wo_ne w219 (x_wo_ne w209 (x_wo_ne w199 (x_wo_ne w189 (x_wo_ne w179 (x_wo_ne w169 (x_wo_ne w159 (x_wo_ne w155 (x_wo_ne w148 (x_wo_ne w144 (x_wo_ne w138 (x_wo_ne w134 (x_wo_ne w130 (x_wo_ne w126 (x_wo_ne w122 (x_wo_ne w116 (x_wo_ne w109 (x_wo_ne w104 (x_wo_ne w99 (x_wo_ne w95 (x_wo_ne w90 (x_wo_ne w86 (x_wo_ne w81 (x_wo_ne w76 (x_wo_ne w69 (x_wo_ne w61 (x_wo_ne w53 (x_wo_ne w46 (x_wo_ne w37 (x_wo_ne w33 (x_wo_ne w26 (x_wo_ne w22 (x_wo_ne w16 (x_wo_ne w12 b593 (x_nb rfl)) (x_nb rfl)) (x_nb rfl)) (x_nb rfl)) (x_nb rfl)) (x_nb rfl)) (x_nb rfl)) (x_nb rfl)) (x_nb rfl)) (x_nb rfl)) (x_nb rfl)) (x_nb rfl)) (x_nb rfl)) (x_nb rfl)) (x_nb rfl)) (x_nb rfl)) (x_nb rfl)) (x_nb rfl)) (x_nb rfl)) (x_nb rfl)) (x_nb rfl)) (x_nb rfl)) (x_nb rfl)) (x_nb rfl)) (x_nb rfl)) (x_nb rfl)) (x_nb rfl)) (x_nb rfl)) (x_nb rfl)) (x_nb rfl)) (x_nb rfl)) (x_nb rfl)) (x_nb rfl)) (x_nb rfl)) (x_nb rfl)) (x_nb rfl)) (x_nb rfl)) (x_nb rfl)) (x_nb rfl)) (x_nb rfl)) (x_nb rfl)) (x_nb rfl)) (x_nb rfl)) (x_nb rfl)) (x_nb rfl)) (x_nb rfl)) (x_nb rfl)
          refine g_get (i := 189) (kd := 0) (ci := 10) (k := 6) (tc := 0) (v := .int 0) rfl rfl (Or.inl (by decide)) g594 rfl ?_
          refine g_n 8 (pc' := 100) (L' := [some (.ref 0), some (.int 1), some (.ref 50), some (.int 7)]) (st' := [.ref 0]) rfl ?_
          refine g_get (i := 48) (kd := 1) (ci := 11) (k := 3) (tc := 3) (v := .ref 3) rfl rfl (Or.inl (by decide)) g578 rfl ?_
          refine g_n 1 (pc' := 104) (L' := [some (.ref 0), some (.int 1), some (.ref 50), some (.int 7)]) (st' := [.int 7, .ref 3]) rfl ?_
          refine g_aa (i := 7) (a := 3) (n := 12) (v := 154) rfl g580 (by decide) (x_at (x_f3 hF) (k := 7) rfl) ?_
          have b595 : x_obj (x_W fi fl fr) 154 = some (10, [.ref 155, .ref 157, .int 402, .int 0, .int 0, .int 0, .int 0, .int 0, .int 0, .int 0, .int 0, .int 0]) := rfl
          have g596 := x_wo_ne w576 (x_wo_ne w570 (x_wo_ne w280 (x_wo_ne w274 (x_wo_ne w269 (x_wo_ne w265 (x_wo_ne w257 (x_wo_ne w253 (x_wo_ne w245 (x_wo_ne w236 (x_wo_ne w232 (x_wo_ne w228 (x_wo_ne w224 (x_wo_ne w219 (x_wo_ne w209 (x_wo_ne w199 (x_wo_ne w189 (x_wo_ne w179 (x_wo_ne w169 (x_wo_ne w159 (x_wo_ne w155 (x_wo_ne w148 (x_wo_ne w144 (x_wo_ne w138 (x_wo_ne w134 (x_wo_ne w130 (x_wo_ne w126 (x_wo_ne w122 (x_wo_ne w116 (x_wo_ne w109 (x_wo_ne w104 (x_wo_ne w99 (x_wo_ne w95 (x_wo_ne w90 (x_wo_ne w86 (x_wo_ne w81 (x_wo_ne w76 (x_wo_ne w69 (x_wo_ne w61 (x_wo_ne w53 (x_wo_ne w46 (x_wo_ne w37 (x_wo_ne w33 (x_wo_ne w26 (x_wo_ne w22 (x_wo_ne w16 (x_wo_ne w12 b595 (x_nb rfl)) (x_nb rfl)) (x_nb rfl)) (x_nb rfl)) (x_nb rfl)) (x_nb rfl)) (x_nb rfl)) (x_nb rfl)) (x_nb rfl)) (x_nb rfl)) (x_nb rfl)) (x_nb rfl)) (x_nb rfl)) (x_nb rfl)) (x_nb rfl)) (x_nb rfl)) (x_nb rfl)) (x_nb rfl)) (x_nb rfl)) (x_nb rfl)) (x_nb rfl)) (x_nb rfl)) (x_nb rfl)) (x_nb rfl)) (x_nb rfl)) (x_nb rfl)) (x_nb rfl)) (x_nb rfl)) (x_nb rfl)) (x_nb rfl)) (x_nb rfl)) (x_nb rfl)) (x_nb rfl)) (x_nb rfl)) (x_nb rfl)) (x_nb rfl)) (x_nb rfl)) (x_nb rfl)) (x_nb rfl)) (x_nb rfl)) (x_nb rfl)) (x_nb rfl)) (x_nb rfl)) (x_nb rfl)) (x_nb rfl)) (x_nb rfl)) (x_nb rfl)
          refine g_get (i := 189) (kd := 0) (ci := 10) (k := 6) (tc := 0) (v := .int 0) rfl rfl (Or.inl (by decide)) g596 rfl ?_
          refine g_n 8 (pc' := 100) (L' := [some (.ref 0), some (.int 1), some (.ref 50), some (.int 8)]) (st' := [.ref 0]) rfl ?_
          refine g_get (i := 48) (kd := 1) (ci := 11) (k := 3) (tc := 3) (v := .ref 3) rfl rfl (Or.inl (by decide)) g578 rfl ?_
          refine g_n 1 (pc' := 104) (L' := [some (.ref 0), some (.int 1), some (.ref 50), some (.int 8)]) (st' := [.int 8, .ref 3]) rfl ?_
          refine g_aa (i := 8) (a := 3) (n := 12) (v := 159) rfl g580 (by decide) (x_at (x_f3 hF) (k := 8) rfl) ?_
          have b597 : x_obj (x_W fi fl fr) 159 = some (10, [.ref 160, .ref 162, .int 402, .int 0, .int 0, .int 0, .int 0, .int 0, .int 0, .int 0, .int 0, .int 0]) := rfl
          have g598 := x_wo_ne w576 (x_wo_ne w570 (x_wo_ne w280 (x_wo_ne w274 (x_wo_ne w269 (x_wo_ne w265 (x_wo_ne w257 (x_wo_ne w253 (x_wo_ne w245 (x_wo_ne w236 (x_wo_ne w232 (x_wo_ne w228 (x_wo_ne w224 (x_wo_ne w219 (x_wo_ne w209 (x_wo_ne w199 (x_wo_ne w189 (x_wo_ne w179 (x_wo_ne w169 (x_wo_ne w159 (x_wo_ne w155 (x_wo_ne w148 (x_wo_ne w144 (x_wo_ne w138 (x_wo_ne w134 (x_wo_ne w130 (x_wo_ne w126 (x_wo_ne w122 (x_wo_ne w116 (x_wo_ne w109 (x_wo_ne w104 (x_wo_ne w99 (x_wo_ne w95 (x_wo_ne w90 (x_wo_ne w86 (x_wo_ne w81 (x_wo_ne w76 (x_wo_ne w69 (x_wo_ne w61 (x_wo_ne w53 (x_wo_ne w46 (x_wo_ne w37 (x_wo_ne w33 (x_wo_ne w26 (x_wo_ne w22 (x_wo_ne w16 (x_wo_ne w12 b597 (x_nb rfl)) (x_nb rfl)) (x_nb rfl)) (x_nb rfl)) (x_nb rfl)) (x_nb rfl)) (x_nb rfl)) (x_nb rfl)) (x_nb rfl)) (x_nb rfl)) (x_nb rfl)) (x_nb rfl)) (x_nb rfl)) (x_nb rfl)) (x_nb rfl)) (x_nb rfl)) (x_nb rfl)) (x_nb rfl)) (x_nb rfl)) (x_nb rfl)) (x_nb rfl)) (x_nb rfl)) (x_nb rfl)) (x_nb rfl)) (x_nb rfl)) (x_nb rfl)) (x_nb rfl)) (x_nb rfl)) (x_nb rfl)) (x_nb rfl)) (x_nb rfl)) (x_nb rfl)) (x_nb rfl)) (x_nb rfl)) (x_nb rfl)) (x_nb rfl)) (x_nb rfl)) (x_nb rfl)) (x_nb rfl)) (x_nb rfl)) (x_nb rfl)) (x_nb rfl)) (x_nb rfl)) (x_nb rfl)) (x_nb rfl)) (x_nb rfl)) (x_nb rfl)
          refine g_get (i := 189) (kd := 0) (ci := 10) (k := 6) (tc := 0) (v := .int 0) rfl rfl (Or.inl (by decide)) g598 rfl ?_
          refine g_n 8 (pc' := 100) (L' := [some (.ref 0), some (.int 1), some (.ref 50), some (.int 9)]) (st' := [.ref 0]) rfl ?_
          refine g_get (i := 48) (kd := 1) (ci := 11) (k := 3) (tc := 3) (v := .ref 3) rfl rfl (Or.inl (by decide)) g578 rfl ?_
          refine g_n 1 (pc' := 104) (L' := [some (.ref 0), some (.int 1), some (.ref 50), some (.int 9)]) (st' := [.int 9, .ref 3]) rfl ?_
          refine g_aa (i := 9) (a := 3) (n := 12) (v := 164) rfl g580 (by decide) (x_at (x_f3 hF) (k := 9) rfl) ?_
          have b599 : x_obj (x_W fi fl fr) 164 = some (10, [.ref 165, .ref 167, .int 402, .int 0, .int 0, .int 0, .int 0, .int 0, .int 0, .int 0, .int 0, .int 0]) := rfl
          have g600 := x_wo_ne w576 (x_wo_ne w570 (x_wo_ne w280 (x_wo_ne w274 (x_wo_ne w269 (x_wo_ne w265 (x_wo_ne w257 (x_wo_ne w253 (x_wo_ne w245 (x_wo_ne w236 (x_wo_ne w232 (x_wo_ne w228 (x_wo_ne w224 (x_wo_ne w219 (x_wo_ne w209 (x_wo_ne w199 (x_wo_ne w189 (x_wo_ne w179 (x_wo_ne w169 (x_wo_ne w159 (x_wo_ne w155 (x_wo_ne w148 (x_wo_ne w144 (x_wo_ne w138 (x_wo_ne w134 (x_wo_ne w130 (x_wo_ne w126 (x_wo_ne w122 (x_wo_ne w116 (x_wo_ne w109 (x_wo_ne w104 (x_wo_ne w99 (x_wo_ne w95 (x_wo_ne w90 (x_wo_ne w86 (x_wo_ne w81 (x_wo_ne w76 (x_wo_ne w69 (x_wo_ne w61 (x_wo_ne w53 (x_wo_ne w46 (x_wo_ne w37 (x_wo_ne w33 (x_wo_ne w26 (x_wo_ne w22 (x_wo_ne w16 (x_wo_ne w12 b599 (x_nb rfl)) (x_nb rfl)) (x_nb rfl)) (x_nb rfl)) (x_nb rfl)) (x_nb rfl)) (x_nb rfl)) (x_nb rfl)) (x_nb rfl)) (x_nb rfl)) (x_nb rfl)) (x_nb rfl)) (x_nb rfl)) (x_nb rfl)) (x_nb rfl)) (x_nb rfl)) (x_nb rfl)) (x_nb rfl)) (x_nb rfl)) (x_nb rfl)) (x_nb rfl)) (x_nb rfl)) (x_nb rfl)) (x_nb rfl)) (x_nb rfl)) (x_nb rfl)) (x_nb rfl)) (x_nb rfl)) (x_nb rfl)) (x_nb rfl)) (x_nb rfl)) (x_nb rfl)) (x_nb rfl)) (x_nb rfl)) (x_nb rfl)) (x_nb rfl)) (x_nb rfl)) (x_nb rfl)) (x_nb rfl)) (x_nb rfl)) (x_nb rfl)) (x_nb rfl)) (x_nb rfl)) (x_nb rfl)) (x_nb rfl)) (x_nb rfl)) (x_nb rfl)
          refine g_get (i := 189) (kd := 0) (ci := 10) (k := 6) (tc := 0) (v := .int 0) rfl rfl (Or.inl (by decide)) g600 rfl ?_
          refine g_n 8 (pc' := 100) (L' := [some (.ref 0), some (.int 1), some (.ref 50), some (.int 10)]) (st' := [.ref 0]) rfl ?_
          refine g_get (i := 48) (kd := 1) (ci := 11) (k := 3) (tc := 3) (v := .ref 3) rfl rfl (Or.inl (by decide)) g578 rfl ?_
          refine g_n 1 (pc' := 104) (L' := [some (.ref 0), some (.int 1), some (.ref 50), some (.int 10)]) (st' := [.int 10, .ref 3]) rfl ?_
          refine g_aa (i := 10) (a := 3) (n := 12) (v := 169) rfl g580 (by decide) (x_at (x_f3 hF) (k := 10) rfl) ?_
          have b601 : x_obj (x_W fi fl fr) 169 = some (10, [.ref 170, .ref 172, .int 402, .int 0, .int 0, .int 0, .int 0, .int 0, .int 0, .int 0, .int 0, .int 0]) := rfl
          have g602 := x_wo_ne w576 (x_wo_ne w570 (x_wo_ne w280 (x_wo_ne w274 (x_wo_ne w269 (x_wo_ne w265 (x_wo_ne w257 (x_wo_ne w253 (x_wo_ne w245 (x_wo_ne w236 (x_wo_ne w232 (x_wo_ne w228 (x_wo_ne w224 (x_wo_ne w219 (x_wo_ne w209 (x_wo_ne w199 (x_wo_ne w189 (x_wo_ne w179 (x_wo_ne w169 (x_wo_ne w159 (x_wo_ne w155 (x_wo_ne w148 (x_wo_ne w144 (x_wo_ne w138 (x_wo_ne w134 (x_wo_ne w130 (x_wo_ne w126 (x_wo_ne w122 (x_wo_ne w116 (x_wo_ne w109 (x_wo_ne w104 (x_wo_ne w99 (x_wo_ne w95 (x_wo_ne w90 (x_wo_ne w86 (x_wo_ne w81 (x_wo_ne w76 (x_wo_ne w69 (x_wo_ne w61 (x_wo_ne w53 (x_wo_ne w46 (x_wo_ne w37 (x_wo_ne w33 (x_wo_ne w26 (x_wo_ne w22 (x_wo_ne w16 (x_wo_ne w12 b601 (x_nb rfl)) (x_nb rfl)) (x_nb rfl)) (x_nb rfl)) (x_nb rfl)) (x_nb rfl)) (x_nb rfl)) (x_nb rfl)) (x_nb rfl)) (x_nb rfl)) (x_nb rfl)) (x_nb rfl)) (x_nb rfl)) (x_nb rfl)) (x_nb rfl)) (x_nb rfl)) (x_nb rfl)) (x_nb rfl)) (x_nb rfl)) (x_nb rfl)) (x_nb rfl)) (x_nb rfl)) (x_nb rfl)) (x_nb rfl)) (x_nb rfl)) (x_nb rfl)) (x_nb rfl)) (x_nb rfl)) (x_nb rfl)) (x_nb rfl)) (x_nb rfl)) (x_nb rfl)) (x_nb rfl)) (x_nb rfl)) (x_nb rfl)) (x_nb rfl)) (x_nb rfl)) (x_nb rfl)) (x_nb rfl)) (x_nb rfl)) (x_nb rfl)) (x_nb rfl)) (x_nb rfl)) (x_nb rfl)) (x_nb rfl)) (x_nb rfl)) (x_nb rfl)
          refine g_get (i := 189) (kd := 0) (ci := 10) (k := 6) (tc := 0) (v := .int 0) rfl rfl (Or.inl (by decide)) g602 rfl ?_
          refine g_n 8 (pc' := 100) (L' := [some (.ref 0), some (.int 1), some (.ref 50), some (.int 11)]) (st' := [.ref 0]) rfl ?_
          refine g_get (i := 48) (kd := 1) (ci := 11) (k := 3) (tc := 3) (v := .ref 3) rfl rfl (Or.inl (by decide)) g578 rfl ?_
          refine g_n 1 (pc' := 104) (L' := [some (.ref 0), some (.int 1), some (.ref 50), some (.int 11)]) (st' := [.int 11, .ref 3]) rfl ?_
          refine g_aa (i := 11) (a := 3) (n := 12) (v := 174) rfl g580 (by decide) (x_at (x_f3 hF) (k := 11) rfl) ?_
          have b603 : x_obj (x_W fi fl fr) 174 = some (10, [.ref 175, .ref 177, .int 402, .int 0, .int 0, .int 0, .int 0, .int 0, .int 0, .int 0, .int 0, .int 0]) := rfl
          have g604 := x_wo_ne w576 (x_wo_ne w570 (x_wo_ne w280 (x_wo_ne w274 (x_wo_ne w269 (x_wo_ne w265 (x_wo_ne w257 (x_wo_ne w253 (x_wo_ne w245 (x_wo_ne w236 (x_wo_ne w232 (x_wo_ne w228 (x_wo_ne w224 (x_wo_ne w219 (x_wo_ne w209 (x_wo_ne w199 (x_wo_ne w189 (x_wo_ne w179 (x_wo_ne w169 (x_wo_ne w159 (x_wo_ne w155 (x_wo_ne w148 (x_wo_ne w144 (x_wo_ne w138 (x_wo_ne w134 (x_wo_ne w130 (x_wo_ne w126 (x_wo_ne w122 (x_wo_ne w116 (x_wo_ne w109 (x_wo_ne w104 (x_wo_ne w99 (x_wo_ne w95 (x_wo_ne w90 (x_wo_ne w86 (x_wo_ne w81 (x_wo_ne w76 (x_wo_ne w69 (x_wo_ne w61 (x_wo_ne w53 (x_wo_ne w46 (x_wo_ne w37 (x_wo_ne w33 (x_wo_ne w26 (x_wo_ne w22 (x_wo_ne w16 (x_wo_ne w12 b603 (x_nb rfl)) (x_nb rfl)) (x_nb rfl)) (x_nb rfl)) (x_nb rfl)) (x_nb rfl)) (x_nb rfl)) (x_nb rfl)) (x_nb rfl)) (x_nb rfl)) (x_nb rfl)) (x_nb rfl)) (x_nb rfl)) (x_nb rfl)) (x_nb rfl)) (x_nb rfl)) (x_nb rfl)) (x_nb rfl)) (x_nb rfl)) (x_nb rfl)) (x_nb rfl)) (x_nb rfl)) (x_nb rfl)) (x_nb rfl)) (x_nb rfl)) (x_nb rfl)) (x_nb rfl)) (x_nb rfl)) (x_nb rfl)) (x_nb rfl)) (x_nb rfl)) (x_nb rfl)) (x_nb rfl)) (x_nb rfl)) (x_nb rfl)) (x_nb rfl)) (x_nb rfl)) (x_nb rfl)) (x_nb rfl)) (x_nb rfl)) (x_nb rfl)) (x_nb rfl)) (x_nb rfl)) (x_nb rfl)) (x_nb rfl)) (x_nb rfl)) (x_nb rfl)
          refine g_get (i := 189) (kd := 0) (ci := 10) (k := 6) (tc := 0) (v := .int 0) rfl rfl (Or.inl (by decide)) g604 rfl ?_
          refine g_n 8 (pc' := 129) (L' := [some (.ref 0), some (.int 1), some (.ref 50), some (.int 12)]) (st' := [.ref 0]) rfl ?_
          refine g_get (i := 139) (kd := 1) (ci := 11) (k := 11) (tc := 3) (v := .ref 248) rfl rfl (Or.inl (by decide)) g578 rfl ?_
          refine g_n 1 (pc' := 133) (L' := [some (.ref 0), some (.int 1), some (.ref 50), some (.int 12)]) (st' := [.int 1, .ref 248]) rfl ?_
          have b605 : x_obj (x_W fi fl fr) 248 = some (3, [.ref 249, .ref 251, .int 0, .int 0, .int 0, .int 0, .int (-2), .int 0, .int 0, .ref 253, .ref 255, .ref 257, .ref 259, .ref 261, .ref 262, .ref 264, .ref 266, .ref 268, .int 0, .int 0]) := rfl
          have g606 := x_wo_ne w576 (x_wo_ne w570 (x_wo_ne w280 (x_wo_ne w274 (x_wo_ne w269 (x_wo_ne w265 (x_wo_ne w257 (x_wo_ne w253 (x_wo_ne w245 (x_wo_ne w236 (x_wo_ne w232 (x_wo_ne w228 (x_wo_ne w224 (x_wo_ne w219 (x_wo_ne w209 (x_wo_ne w199 (x_wo_ne w189 (x_wo_ne w179 (x_wo_ne w169 (x_wo_ne w159 (x_wo_ne w155 (x_wo_ne w148 (x_wo_ne w144 (x_wo_ne w138 (x_wo_ne w134 (x_wo_ne w130 (x_wo_ne w126 (x_wo_ne w122 (x_wo_ne w116 (x_wo_ne w109 (x_wo_ne w104 (x_wo_ne w99 (x_wo_ne w95 (x_wo_ne w90 (x_wo_ne w86 (x_wo_ne w81 (x_wo_ne w76 (x_wo_ne w69 (x_wo_ne w61 (x_wo_ne w53 (x_wo_ne w46 (x_wo_ne w37 (x_wo_ne w33 (x_wo_ne w26 (x_wo_ne w22 (x_wo_ne w16 (x_wo_ne w12 b605 (x_nb rfl)) (x_nb rfl)) (x_nb rfl)) (x_nb rfl)) (x_nb rfl)) (x_nb rfl)) (x_nb rfl)) (x_nb rfl)) (x_nb rfl)) (x_nb rfl)) (x_nb rfl)) (x_nb rfl)) (x_nb rfl)) (x_nb rfl)) (x_nb rfl)) (x_nb rfl)) (x_nb rfl)) (x_nb rfl)) (x_nb rfl)) (x_nb rfl)) (x_nb rfl)) (x_nb rfl)) (x_nb rfl)) (x_nb rfl)) (x_nb rfl)) (x_nb rfl)) (x_nb rfl)) (x_nb rfl)) (x_nb rfl)) (x_nb rfl)) (x_nb rfl)) (x_nb rfl)) (x_nb rfl)) (x_nb rfl)) (x_nb rfl)) (x_nb rfl)) (x_nb rfl)) (x_nb rfl)) (x_nb rfl)) (x_nb rfl)) (x_nb rfl)) (x_nb rfl)) (x_nb rfl)) (x_nb rfl)) (x_nb rfl)) (x_nb rfl)) (x_nb rfl)
          refine g_vcall (i := 196) (kd := 3) (j := 75) (np := 1) (ci := 3) (as := [.ref 248, .int 1]) (rest := []) rfl rfl (Or.inl rfl) (Nat.le_of_ble_eq_true rfl) rfl rfl g606 rfl rfl ?_
          refine g_in (M := x_M75) (L := [some (.ref 248), some (.int 1), none]) x_pl75 rfl ?_
          refine g_n 1 (pc' := 1) (L' := [some (.ref 248), some (.int 1), none]) (st' := [.ref 248]) rfl ?_
          refine g_get (i := 29) (kd := 0) (ci := 3) (k := 6) (tc := 0) (v := .int (-2)) rfl rfl (Or.inl (by decide)) g606 rfl ?_
          refine g_n 9 (pc' := 21) (L' := [some (.ref 248), some (.int 1), some (.int 0)]) (st' := [.int 0, .ref 248]) rfl ?_
          refine g_vcall (i := 99) (kd := 3) (j := 76) (np := 1) (ci := 3) (as := [.ref 248, .int 0]) (rest := []) rfl rfl (Or.inl rfl) (Nat.le_of_ble_eq_true rfl) rfl rfl g606 rfl rfl ?_
          refine g_in (M := x_M76) (L := [some (.ref 248), some (.int 0)]) x_pl76 rfl ?_
          refine g_n 1 (pc' := 1) (L' := [some (.ref 248), some (.int 0)]) (st' := [.ref 248]) rfl ?_
          refine g_get (i := 38) (kd := 1) (ci := 3) (k := 10) (tc := 3) (v := .ref 255) rfl rfl (Or.inl (by decide)) g606 rfl ?_
          refine g_n 2 (pc' := 6) (L' := [some (.ref 248), some (.int 0)]) (st' := [.int 4, .int 0, .ref 255]) rfl ?_
          have b607 : x_obj (x_W fi fl fr) 255 = some (8, [.ref 256, .int 1, .int 3, .int 6]) := rfl
          have g608 := x_wo_ne w576 (x_wo_ne w570 (x_wo_ne w280 (x_wo_ne w274 (x_wo_ne w269 (x_wo_ne w265 (x_wo_ne w257 (x_wo_ne w253 (x_wo_ne w245 (x_wo_ne w236 (x_wo_ne w232 (x_wo_ne w228 (x_wo_ne w224 (x_wo_ne w219 (x_wo_ne w209 (x_wo_ne w199 (x_wo_ne w189 (x_wo_ne w179 (x_wo_ne w169 (x_wo_ne w159 (x_wo_ne w155 (x_wo_ne w148 (x_wo_ne w144 (x_wo_ne w138 (x_wo_ne w134 (x_wo_ne w130 (x_wo_ne w126 (x_wo_ne w122 (x_wo_ne w116 (x_wo_ne w109 (x_wo_ne w104 (x_wo_ne w99 (x_wo_ne w95 (x_wo_ne w90 (x_wo_ne w86 (x_wo_ne w81 (x_wo_ne w76 (x_wo_ne w69 (x_wo_ne w61 (x_wo_ne w53 (x_wo_ne w46 (x_wo_ne w37 (x_wo_ne w33 (x_wo_ne w26 (x_wo_ne w22 (x_wo_ne w16 (x_wo_ne w12 b607 (x_nb rfl)) (x_nb rfl)) (x_nb rfl)) (x_nb rfl)) (x_nb rfl)) (x_nb rfl)) (x_nb rfl)) (x_nb rfl)) (x_nb rfl)) (x_nb rfl)) (x_nb rfl)) (x_nb rfl)) (x_nb rfl)) (x_nb rfl)) (x_nb rfl)) (x_nb rfl)) (x_nb rfl)) (x_nb rfl)) (x_nb rfl)) (x_nb rfl)) (x_nb rfl)) (x_nb rfl)) (x_nb rfl)) (x_nb rfl)) (x_nb rfl)) (x_nb rfl)) (x_nb rfl)) (x_nb rfl)) (x_nb rfl)) (x_nb rfl)) (x_nb rfl)) (x_nb rfl)) (x_nb rfl)) (x_nb rfl)) (x_nb rfl)) (x_nb rfl)) (x_nb rfl)) (x_nb rfl)) (x_nb rfl)) (x_nb rfl)) (x_nb rfl)) (x_nb rfl)) (x_nb rfl)) (x_nb rfl)) (x_nb rfl)) (x_nb rfl)) (x_nb rfl)
          refine g_vcall (i := 95) (kd := 3) (j := 263) (np := 2) (ci := 8) (as := [.ref 255, .int 0, .int 4]) (rest := []) rfl rfl (Or.inl rfl) (Nat.le_of_ble_eq_true rfl) rfl rfl g608 rfl rfl ?_
          refine g_in (M := x_M263) (L := [some (.ref 255), some (.int 0), some (.int 4), none]) x_pl263 rfl ?_
          refine g_n 4 (pc' := 6) (L' := [some (.ref 255), some (.int 0), some (.int 4), none]) (st' := [.ref 255, .int 0]) rfl ?_
          refine g_get (i := 13) (kd := 1) (ci := 8) (k := 2) (tc := 0) (v := .int 3) rfl rfl (Or.inl (by decide)) g608 rfl ?_
          refine g_n 5 (pc' := 18) (L' := [some (.ref 255), some (.int 0), some (.int 4), none]) (st' := [.ref 255, .int 4]) rfl ?_
          refine g_get (i := 16) (kd := 1) (ci := 8) (k := 3) (tc := 0) (v := .int 6) rfl rfl (Or.inl (by decide)) g608 rfl ?_
          refine g_n 3 (pc' := 26) (L' := [some (.ref 255), some (.int 0), some (.int 4), none]) (st' := [.ref 255, .int 0]) rfl ?_
          refine g_get (i := 16) (kd := 1) (ci := 8) (k := 3) (tc := 0) (v := .int 6) rfl rfl (Or.inl (by decide)) g608 rfl ?_
          refine g_n 9 (pc' := 43) (L' := [some (.ref 255), some (.int 0), some (.int 4), some (.int 4)]) (st' := [.ref 255, .int 4]) rfl ?_
          refine g_get (i := 25) (kd := 1) (ci := 8) (k := 0) (tc := 3) (v := .ref 256) rfl rfl (Or.inl (by decide)) g608 rfl ?_
          have b609 : x_arr (x_W fi fl fr) 256 = some (1, 18, .inr (.inl (fl 256))) := rfl
          have g610 := x_wa_ne w576 (x_wa_ne w570 (x_wa_ne w280 (x_wa_ne w274 (x_wa_ne w269 (x_wa_ne w265 (x_wa_ne w257 (x_wa_ne w253 (x_wa_ne w245 (x_wa_ne w236 (x_wa_ne w232 (x_wa_ne w228 (x_wa_ne w224 (x_wa_ne w219 (x_wa_ne w209 (x_wa_ne w199 (x_wa_ne w189 (x_wa_ne w179 (x_wa_ne w169 (x_wa_ne w159 (x_wa_ne w155 (x_wa_ne w148 (x_wa_ne w144 (x_wa_ne w138 (x_wa_ne w134 (x_wa_ne w130 (x_wa_ne w126 (x_wa_ne w122 (x_wa_ne w116 (x_wa_ne w109 (x_wa_ne w104 (x_wa_ne w99 (x_wa_ne w95 (x_wa_ne w90 (x_wa_ne w86 (x_wa_ne w81 (x_wa_ne w76 (x_wa_ne w69 (x_wa_ne w61 (x_wa_ne w53 (x_wa_ne w46 (x_wa_ne w37 (x_wa_ne w33 (x_wa_ne w26 (x_wa_ne w22 (x_wa_ne w16 (x_wa_ne w12 b609 (x_nb rfl)) (x_nb rfl)) (x_nb rfl)) (x_nb rfl)) (x_nb rfl)) (x_nb rfl)) (x_nb rfl)) (x_nb rfl)) (x_nb rfl)) (x_nb rfl)) (x_nb rfl)) (x_nb rfl)) (x_nb rfl)) (x_nb rfl)) (x_nb rfl)) (x_nb rfl)) (x_nb rfl)) (x_nb rfl)) (x_nb rfl)) (x_nb rfl)) (x_nb rfl)) (x_nb rfl)) (x_nb rfl)) (x_nb rfl)) (x_nb rfl)) (x_nb rfl)) (x_nb rfl)) (x_nb rfl)) (x_nb rfl)) (x_nb rfl)) (x_nb rfl)) (x_nb rfl)) (x_nb rfl)) (x_nb rfl)) (x_nb rfl)) (x_nb rfl)) (x_nb rfl)) (x_nb rfl)) (x_nb rfl)) (x_nb rfl)) (x_nb rfl)) (x_nb rfl)) (x_nb rfl)) (x_nb rfl)) (x_nb rfl)) (x_nb rfl)) (x_nb rfl)
          refine g_len rfl g610 (by decide) ?_
          refine g_n 2 (pc' := 51) (L' := [some (.ref 255), some (.int 0), some (.int 4), some (.int 4)]) (st' := [.ref 255]) rfl ?_
          refine g_get (i := 25) (kd := 1) (ci := 8) (k := 0) (tc := 3) (v := .ref 256) rfl rfl (Or.inl (by decide)) g608 rfl ?_
          refine g_n 1 (pc' := 55) (L' := [some (.ref 255), some (.int 0), some (.int 4), some (.int 4)]) (st' := [.int 4, .ref 256]) rfl ?_
          refine g_la (i := 4) (a := 256) (n := 18) (v := 0) rfl g610 (by decide) (x_at (x_f256 hF) (k := 4) rfl) ?_
          refine g_n 2 (pc' := 61) (L' := [some (.ref 255), some (.int 0), some (.int 4), some (.int 4)]) (st' := [.int 0]) rfl ?_
          refine g_ret (ins := .ireturn) (len := 1) (r := (some (.int 0))) rfl rfl rfl ?_
          refine g_n 3 (pc' := 18) (L' := [some (.ref 248), some (.int 0)]) (st' := [.int 0]) rfl ?_
          refine g_ret (ins := .ireturn) (len := 1) (r := (some (.int 0))) rfl rfl rfl ?_
          refine g_n 8 (pc' := 21) (L' := [some (.ref 248), some (.int 1), some (.int 1)]) (st' := [.int 1, .ref 248]) rfl ?_
          refine g_vcall (i := 99) (kd := 3) (j := 76) (np := 1) (ci := 3) (as := [.ref 248, .int 1]) (rest := []) rfl rfl (Or.inl rfl) (Nat.le_of_ble_eq_true rfl) rfl rfl g606 rfl rfl ?_
          refine g_in (M := x_M76) (L := [some (.ref 248), some (.int 1)]) x_pl76 rfl ?_
          refine g_n 1 (pc' := 1) (L' := [some (.ref 248), some (.int 1)]) (st' := [.ref 248]) rfl ?_
          refine g_get (i := 38) (kd := 1) (ci := 3) (k := 10) (tc := 3) (v := .ref 255) rfl rfl (Or.inl (by decide)) g606 rfl ?_
          refine g_n 2 (pc' := 6) (L' := [some (.ref 248), some (.int 1)]) (st' := [.int 4, .int 1, .ref 255]) rfl ?_
          refine g_vcall (i := 95) (kd := 3) (j := 263) (np := 2) (ci := 8) (as := [.ref 255, .int 1, .int 4]) (rest := []) rfl rfl (Or.inl rfl) (Nat.le_of_ble_eq_true rfl) rfl rfl g608 rfl rfl ?_
          refine g_in (M := x_M263) (L := [some (.ref 255), some (.int 1), some (.int 4), none]) x_pl263 rfl ?_
          refine g_n 4 (pc' := 6) (L' := [some (.ref 255), some (.int 1), some (.int 4), none]) (st' := [.ref 255, .int 1]) rfl ?_
          refine g_get (i := 13) (kd := 1) (ci := 8) (k := 2) (tc := 0) (v := .int 3) rfl rfl (Or.inl (by decide)) g608 rfl ?_
          refine g_n 5 (pc' := 18) (L' := [some (.ref 255), some (.int 1), some (.int 4), none]) (st' := [.ref 255, .int 4]) rfl ?_
          refine g_get (i := 16) (kd := 1) (ci := 8) (k := 3) (tc := 0) (v := .int 6) rfl rfl (Or.inl (by decide)) g608 rfl ?_
          refine g_n 3 (pc' := 26) (L' := [some (.ref 255), some (.int 1), some (.int 4), none]) (st' := [.ref 255, .int 1]) rfl ?_
          refine g_get (i := 16) (kd := 1) (ci := 8) (k := 3) (tc := 0) (v := .int 6) rfl rfl (Or.inl (by decide)) g608 rfl ?_
          refine g_n 9 (pc' := 43) (L' := [some (.ref 255), some (.int 1), some (.int 4), some (.int 10)]) (st' := [.ref 255, .int 10]) rfl ?_
          refine g_get (i := 25) (kd := 1) (ci := 8) (k := 0) (tc := 3) (v := .ref 256) rfl rfl (Or.inl (by decide)) g608 rfl ?_
          refine g_len rfl g610 (by decide) ?_
          refine g_n 2 (pc' := 51) (L' := [some (.ref 255), some (.int 1), some (.int 4), some (.int 10)]) (st' := [.ref 255]) rfl ?_
          refine g_get (i := 25) (kd := 1) (ci := 8) (k := 0) (tc := 3) (v := .ref 256) rfl rfl (Or.inl (by decide)) g608 rfl ?_
          refine g_n 1 (pc' := 55) (L' := [some (.ref 255), some (.int 1), some (.int 4), some (.int 10)]) (st' := [.int 10, .ref 256]) rfl ?_
          refine g_la (i := 10) (a := 256) (n := 18) (v := 0) rfl g610 (by decide) (x_at (x_f256 hF) (k := 10) rfl) ?_
          refine g_n 2 (pc' := 61) (L' := [some (.ref 255), some (.int 1), some (.int 4), some (.int 10)]) (st' := [.int 0]) rfl ?_
          refine g_ret (ins := .ireturn) (len := 1) (r := (some (.int 0))) rfl rfl rfl ?_
          refine g_n 3 (pc' := 18) (L' := [some (.ref 248), some (.int 1)]) (st' := [.int 0]) rfl ?_
          refine g_ret (ins := .ireturn) (len := 1) (r := (some (.int 0))) rfl rfl rfl ?_
          refine g_n 8 (pc' := 21) (L' := [some (.ref 248), some (.int 1), some (.int 2)]) (st' := [.int 2, .ref 248]) rfl ?_
          refine g_vcall (i := 99) (kd := 3) (j := 76) (np := 1) (ci := 3) (as := [.ref 248, .int 2]) (rest := []) rfl rfl (Or.inl rfl) (Nat.le_of_ble_eq_true rfl) rfl rfl g606 rfl rfl ?_
          refine g_in (M := x_M76) (L := [some (.ref 248), some (.int 2)]) x_pl76 rfl ?_
          refine g_n 1 (pc' := 1) (L' := [some (.ref 248), some (.int 2)]) (st' := [.ref 248]) rfl ?_
          refine g_get (i := 38) (kd := 1) (ci := 3) (k := 10) (tc := 3) (v := .ref 255) rfl rfl (Or.inl (by decide)) g606 rfl ?_
          refine g_n 2 (pc' := 6) (L' := [some (.ref 248), some (.int 2)]) (st' := [.int 4, .int 2, .ref 255]) rfl ?_
          refine g_vcall (i := 95) (kd := 3) (j := 263) (np := 2) (ci := 8) (as := [.ref 255, .int 2, .int 4]) (rest := []) rfl rfl (Or.inl rfl) (Nat.le_of_ble_eq_true rfl) rfl rfl g608 rfl rfl ?_
          refine g_in (M := x_M263) (L := [some (.ref 255), some (.int 2), some (.int 4), none]) x_pl263 rfl ?_
          refine g_n 4 (pc' := 6) (L' := [some (.ref 255), some (.int 2), some (.int 4), none]) (st' := [.ref 255, .int 2]) rfl ?_
          refine g_get (i := 13) (kd := 1) (ci := 8) (k := 2) (tc := 0) (v := .int 3) rfl rfl (Or.inl (by decide)) g608 rfl ?_
          refine g_n 5 (pc' := 18) (L' := [some (.ref 255), some (.int 2), some (.int 4), none]) (st' := [.ref 255, .int 4]) rfl ?_
          refine g_get (i := 16) (kd := 1) (ci := 8) (k := 3) (tc := 0) (v := .int 6) rfl rfl (Or.inl (by decide)) g608 rfl ?_
          refine g_n 3 (pc' := 26) (L' := [some (.ref 255), some (.int 2), some (.int 4), none]) (st' := [.ref 255, .int 2]) rfl ?_
          refine g_get (i := 16) (kd := 1) (ci := 8) (k := 3) (tc := 0) (v := .int 6) rfl rfl (Or.inl (by decide)) g608 rfl ?_
          refine g_n 9 (pc' := 43) (L' := [some (.ref 255), some (.int 2), some (.int 4), some (.int 16)]) (st' := [.ref 255, .int 16]) rfl ?_
          refine g_get (i := 25) (kd := 1) (ci := 8) (k := 0) (tc := 3) (v := .ref 256) rfl rfl (Or.inl (by decide)) g608 rfl ?_
          refine g_len rfl g610 (by decide) ?_
          refine g_n 2 (pc' := 51) (L' := [some (.ref 255), some (.int 2), some (.int 4), some (.int 16)]) (st' := [.ref 255]) rfl ?_
          refine g_get (i := 25) (kd := 1) (ci := 8) (k := 0) (tc := 3) (v := .ref 256) rfl rfl (Or.inl (by decide)) g608 rfl ?_
          refine g_n 1 (pc' := 55) (L' := [some (.ref 255), some (.int 2), some (.int 4), some (.int 16)]) (st' := [.int 16, .ref 256]) rfl ?_
          refine g_la (i := 16) (a := 256) (n := 18) (v := 0) rfl g610 (by decide) (x_at (x_f256 hF) (k := 16) rfl) ?_
          refine g_n 2 (pc' := 61) (L' := [some (.ref 255), some (.int 2), some (.int 4), some (.int 16)]) (st' := [.int 0]) rfl ?_
          refine g_ret (ins := .ireturn) (len := 1) (r := (some (.int 0))) rfl rfl rfl ?_
          refine g_n 3 (pc' := 18) (L' := [some (.ref 248), some (.int 2)]) (st' := [.int 0]) rfl ?_
          refine g_ret (ins := .ireturn) (len := 1) (r := (some (.int 0))) rfl rfl rfl ?_
          refine g_n 6 (pc' := 56) (L' := [some (.ref 248), some (.int 1), some (.int 3)]) (st' := []) rfl ?_
          refine g_ret (ins := .return_) (len := 1) (r := none) rfl rfl rfl ?_
          refine g_n 1 (pc' := 137) (L' := [some (.ref 0), some (.int 1), some (.ref 50), some (.int 12)]) (st' := [.ref 0]) rfl ?_
          refine g_get (i := 42) (kd := 1) (ci := 11) (k := 2) (tc := 3) (v := .ref 2) rfl rfl (Or.inl (by decide)) g578 rfl ?_
          refine g_n 1 (pc' := 141) (L' := [some (.ref 0), some (.int 1), some (.ref 50), some (.int 12)]) (st' := [.int 1, .ref 2]) rfl ?_
          have g611 := x_wa_ne w576 g573 (x_nb rfl)
          refine g_aa (i := 1) (a := 2) (n := 4) (v := 183) rfl g611 (by decide) rfl ?_
          have g612 := x_wo_ne w576 (x_wo_ne w570 g571 (x_nb rfl)) (x_nb rfl)
          refine g_get (i := 199) (kd := 0) (ci := 4) (k := 12) (tc := 0) (v := .int 0) rfl rfl (Or.inl (by decide)) g612 rfl ?_
          refine g_ret (ins := .ireturn) (len := 1) (r := (some (.int 0))) rfl rfl rfl ?_
          have b613 : x_obj (x_W fi fl fr) 281 = some (12, x_MF) := rfl
          have g614 := x_wo_ne w576 (x_wo_ne w570 (x_wo_ne w280 (x_wo_ne w274 (x_wo_ne w269 (x_wo_ne w265 (x_wo_ne w257 (x_wo_ne w253 (x_wo_ne w245 (x_wo_ne w236 (x_wo_ne w232 (x_wo_ne w228 (x_wo_ne w224 (x_wo_ne w219 (x_wo_ne w209 (x_wo_ne w199 (x_wo_ne w189 (x_wo_ne w179 (x_wo_ne w169 (x_wo_ne w159 (x_wo_ne w155 (x_wo_ne w148 (x_wo_ne w144 (x_wo_ne w138 (x_wo_ne w134 (x_wo_ne w130 (x_wo_ne w126 (x_wo_ne w122 (x_wo_ne w116 (x_wo_ne w109 (x_wo_ne w104 (x_wo_ne w99 (x_wo_ne w95 (x_wo_ne w90 (x_wo_ne w86 (x_wo_ne w81 (x_wo_ne w76 (x_wo_ne w69 (x_wo_ne w61 (x_wo_ne w53 (x_wo_ne w46 (x_wo_ne w37 (x_wo_ne w33 (x_wo_ne w26 (x_wo_ne w22 (x_wo_ne w16 (x_wo_ne w12 b613 (x_nb rfl)) (x_nb rfl)) (x_nb rfl)) (x_nb rfl)) (x_nb rfl)) (x_nb rfl)) (x_nb rfl)) (x_nb rfl)) (x_nb rfl)) (x_nb rfl)) (x_nb rfl)) (x_nb rfl)) (x_nb rfl)) (x_nb rfl)) (x_nb rfl)) (x_nb rfl)) (x_nb rfl)) (x_nb rfl)) (x_nb rfl)) (x_nb rfl)) (x_nb rfl)) (x_nb rfl)) (x_nb rfl)) (x_nb rfl)) (x_nb rfl)) (x_nb rfl)) (x_nb rfl)) (x_nb rfl)) (x_nb rfl)) (x_nb rfl)) (x_nb rfl)) (x_nb rfl)) (x_nb rfl)) (x_nb rfl)) (x_nb rfl)) (x_nb rfl)) (x_nb rfl)) (x_nb rfl)) (x_nb rfl)) (x_nb rfl)) (x_nb rfl)) (x_nb rfl)) (x_nb rfl)) (x_nb rfl)) (x_nb rfl)) (x_nb rfl)) (x_nb rfl)
          refine ⟨⟨_, g614⟩, ?_⟩
          refine g_in (M := x_M489) (L := [some (.ref 281), some (.int 1), none]) x_pl489 rfl ?_
          refine g_n 2 (pc' := 2) (L' := [some (.ref 281), some (.int 1), none]) (st' := [.int 1, .ref 281]) rfl ?_
          refine g_vcall (i := 1015) (kd := 3) (j := 488) (np := 1) (ci := 12) (as := [.ref 281, .int 1]) (rest := []) rfl rfl (Or.inl rfl) (Nat.le_of_ble_eq_true rfl) rfl rfl g614 rfl rfl ?_
          refine g_in (M := x_M488) (L := [some (.ref 281), some (.int 1)]) x_pl488 rfl ?_
          refine g_n 7 (pc' := 14) (L' := [some (.ref 281), some (.int 1)]) (st' := [.int 1]) rfl ?_
          refine g_ret (ins := .ireturn) (len := 1) (r := (some (.int 1))) rfl rfl rfl ?_
          refine g_n 2 (pc' := 11) (L' := [some (.ref 281), some (.int 1), none]) (st' := [.ref 281]) rfl ?_
          refine g_vcall (i := 1018) (kd := 3) (j := 423) (np := 0) (ci := 12) (as := [.ref 281]) (rest := []) rfl rfl (Or.inl rfl) (Nat.le_of_ble_eq_true rfl) rfl rfl g614 rfl rfl ?_
          refine g_in (M := x_M423) (L := [some (.ref 281), none]) x_pl423 rfl ?_
          refine g_n 2 (pc' := 2) (L' := [some (.ref 281), none]) (st' := [.ref 281, .ref 281]) rfl ?_
          have v615 : x_MF[1]? = some (.int 0) := rfl
          refine g_get (i := 664) (kd := 0) (ci := 12) (k := 1) (tc := 0) (v := .int 0) rfl rfl (Or.inl (by decide)) g614 v615 ?_
          have l618 : x_MF.length = 311 := rfl
          refine g_putV (i := 681) (kd := 0) (ci := 12) (k := 6) (tc := 0) rfl rfl (Or.inl rfl) g614 (x_ltL l618 rfl) rfl (fun S616 y620 e619 w617 => ?_)
          have l621 := x_wf_len e619 l618
          have v622 := x_wf_at e619 (x_ltL l618 rfl)
          have s623 := x_wsO w617 g614 (l621.trans l618.symm) s577
          have g624 := x_wo_at w617 g614
          refine g_n 4 (pc' := 12) (L' := [some (.ref 281), some (.int 0)]) (st' := [.ref 281, .int 0]) rfl ?_
          have v625 := x_wf_ne e619 v615 (x_nb rfl)
          refine g_get (i := 664) (kd := 0) (ci := 12) (k := 1) (tc := 0) (v := .int 0) rfl rfl (Or.inl (by decide)) g624 v625 ?_
          refine g_n 3 (pc' := 38) (L' := [some (.ref 281), some (.int 0)]) (st' := [.int 0, .ref 281]) rfl ?_
          refine g_putV (i := 664) (kd := 0) (ci := 12) (k := 1) (tc := 0) rfl rfl (Or.inl rfl) g624 (x_ltL l621 rfl) rfl (fun S626 y629 e628 w627 => ?_)
          have l630 := x_wf_len e628 l621
          have v631 := x_wf_at e628 (x_ltL l621 rfl)
          have s632 := x_wsO w627 g624 (l630.trans l621.symm) s623
          have g633 := x_wo_at w627 g624
          refine g_n 2 (pc' := 43) (L' := [some (.ref 281), some (.int 0)]) (st' := [.int 0, .ref 281]) rfl ?_
          refine g_putV (i := 684) (kd := 0) (ci := 12) (k := 7) (tc := 0) rfl rfl (Or.inl rfl) g633 (x_ltL l630 rfl) rfl (fun S634 y637 e636 w635 => ?_)
          have l638 := x_wf_len e636 l630
          have v639 := x_wf_at e636 (x_ltL l630 rfl)
          have s640 := x_wsO w635 g633 (l638.trans l630.symm) s632
          have g641 := x_wo_at w635 g633
          refine g_n 2 (pc' := 48) (L' := [some (.ref 281), some (.int 0)]) (st' := [.int 0, .ref 281]) rfl ?_
          refine g_putV (i := 675) (kd := 0) (ci := 12) (k := 17) (tc := 0) rfl rfl (Or.inl rfl) g641 (x_ltL l638 rfl) rfl (fun S642 y645 e644 w643 => ?_)
          have l646 := x_wf_len e644 l638
          have v647 := x_wf_at e644 (x_ltL l638 rfl)
          have s648 := x_wsO w643 g641 (l646.trans l638.symm) s640
          have g649 := x_wo_at w643 g641
          refine g_ret (ins := .return_) (len := 1) (r := none) rfl rfl rfl ?_
          refine g_n 2 (pc' := 17) (L' := [some (.ref 281), some (.int 1), none]) (st' := [.int (-2), .ref 281]) rfl ?_
          refine g_putV (i := 19) (kd := 0) (ci := 12) (k := 4) (tc := 0) rfl rfl (Or.inl rfl) g649 (x_ltL l646 rfl) rfl (fun S650 y653 e652 w651 => ?_)
          have l654 := x_wf_len e652 l646
          have v655 := x_wf_at e652 (x_ltL l646 rfl)
          have s656 := x_wsO w651 g649 (l654.trans l646.symm) s648
          have g657 := x_wo_at w651 g649
          refine g_n 1 (pc' := 21) (L' := [some (.ref 281), some (.int 1), none]) (st' := [.ref 281]) rfl ?_
          refine g_vcall (i := 1021) (kd := 3) (j := 441) (np := 0) (ci := 12) (as := [.ref 281]) (rest := []) rfl rfl (Or.inl rfl) (Nat.le_of_ble_eq_true rfl) rfl rfl g657 rfl rfl ?_
          refine g_in (M := x_M441) (L := [some (.ref 281), none]) x_pl441 rfl ?_
          refine g_n 1 (pc' := 1) (L' := [some (.ref 281), none]) (st' := [.ref 281]) rfl ?_
          have v658 : x_MF[20]? = some (.ref 288) := rfl
          have v659 := x_wf_ne e652 (x_wf_ne e644 (x_wf_ne e636 (x_wf_ne e628 (x_wf_ne e619 v658 (x_nb rfl)) (x_nb rfl)) (x_nb rfl)) (x_nb rfl)) (x_nb rfl)
          refine g_get (i := 33) (kd := 1) (ci := 12) (k := 20) (tc := 3) (v := .ref 288) rfl rfl (Or.inl (by decide)) g657 v659 ?_
          refine g_n 2 (pc' := 6) (L' := [some (.ref 281), none]) (st' := [.int 0, .int 4, .ref 288]) rfl ?_
          have b660 : x_arr (x_W fi fl fr) 288 = some (0, 5, .inl fun _ => 0) := rfl
          have g661 := x_wa_ne w651 (x_wa_ne w643 (x_wa_ne w635 (x_wa_ne w627 (x_wa_ne w617 (x_wa_ne w576 (x_wa_ne w570 (x_wa_ne w280 (x_wa_ne w274 (x_wa_ne w269 (x_wa_ne w265 (x_wa_ne w257 (x_wa_ne w253 (x_wa_ne w245 (x_wa_ne w236 (x_wa_ne w232 (x_wa_ne w228 (x_wa_ne w224 (x_wa_ne w219 (x_wa_ne w209 (x_wa_ne w199 (x_wa_ne w189 (x_wa_ne w179 (x_wa_ne w169 (x_wa_ne w159 (x_wa_ne w155 (x_wa_ne w148 (x_wa_ne w144 (x_wa_ne w138 (x_wa_ne w134 (x_wa_ne w130 (x_wa_ne w126 (x_wa_ne w122 (x_wa_ne w116 (x_wa_ne w109 (x_wa_ne w104 (x_wa_ne w99 (x_wa_ne w95 (x_wa_ne w90 (x_wa_ne w86 (x_wa_ne w81 (x_wa_ne w76 (x_wa_ne w69 (x_wa_ne w61 (x_wa_ne w53 (x_wa_ne w46 (x_wa_ne w37 (x_wa_ne w33 (x_wa_ne w26 (x_wa_ne w22 (x_wa_ne w16 (x_wa_ne w12 b660 (x_nb rfl)) (x_nb rfl)) (x_nb rfl)) (x_nb rfl)) (x_nb rfl)) (x_nb rfl)) (x_nb rfl)) (x_nb rfl)) (x_nb rfl)) (x_nb rfl)) (x_nb rfl)) (x_nb rfl)) (x_nb rfl)) (x_nb rfl)) (x_nb rfl)) (x_nb rfl)) (x_nb rfl)) (x_nb rfl)) (x_nb rfl)) (x_nb rfl)) (x_nb rfl)) (x_nb rfl)) (x_nb rfl)) (x_nb rfl)) (x_nb rfl)) (x_nb rfl)) (x_nb rfl)) (x_nb rfl)) (x_nb rfl)) (x_nb rfl)) (x_nb rfl)) (x_nb rfl)) (x_nb rfl)) (x_nb rfl)) (x_nb rfl)) (x_nb rfl)) (x_nb rfl)) (x_nb rfl)) (x_nb rfl)) (x_nb rfl)) (x_nb rfl)) (x_nb rfl)) (x_nb rfl)) (x_nb rfl)) (x_nb rfl)) (x_nb rfl)) (x_nb rfl)) (x_nb rfl)) (x_nb rfl)) (x_nb rfl)) (x_nb rfl)) (x_nb rfl)
          refine g_isN rfl g661 (by decide) (fun S662 w663 => ?_)
          have s664 := x_wsA w663 g661 rfl s656
          have g665 := x_wa_at w663 g661
          refine g_n 1 (pc' := 8) (L' := [some (.ref 281), none]) (st' := [.ref 281]) rfl ?_
          have g666 := x_wo_ne w663 g657 (x_nb rfl)
          have v667 : x_MF[21]? = some (.ref 289) := rfl
          have v668 := x_wf_ne e652 (x_wf_ne e644 (x_wf_ne e636 (x_wf_ne e628 (x_wf_ne e619 v667 (x_nb rfl)) (x_nb rfl)) (x_nb rfl)) (x_nb rfl)) (x_nb rfl)
          refine g_get (i := 36) (kd := 1) (ci := 12) (k := 21) (tc := 3) (v := .ref 289) rfl rfl (Or.inl (by decide)) g666 v668 ?_
          refine g_n 2 (pc' := 13) (L' := [some (.ref 281), none]) (st' := [.int 0, .int 4, .ref 289]) rfl ?_
          have b669 : x_arr (x_W fi fl fr) 289 = some (0, 5, .inl fun _ => 0) := rfl
          have g670 := x_wa_ne w663 (x_wa_ne w651 (x_wa_ne w643 (x_wa_ne w635 (x_wa_ne w627 (x_wa_ne w617 (x_wa_ne w576 (x_wa_ne w570 (x_wa_ne w280 (x_wa_ne w274 (x_wa_ne w269 (x_wa_ne w265 (x_wa_ne w257 (x_wa_ne w253 (x_wa_ne w245 (x_wa_ne w236 (x_wa_ne w232 (x_wa_ne w228 (x_wa_ne w224 (x_wa_ne w219 (x_wa_ne w209 (x_wa_ne w199 (x_wa_ne w189 (x_wa_ne w179 (x_wa_ne w169 (x_wa_ne w159 (x_wa_ne w155 (x_wa_ne w148 (x_wa_ne w144 (x_wa_ne w138 (x_wa_ne w134 (x_wa_ne w130 (x_wa_ne w126 (x_wa_ne w122 (x_wa_ne w116 (x_wa_ne w109 (x_wa_ne w104 (x_wa_ne w99 (x_wa_ne w95 (x_wa_ne w90 (x_wa_ne w86 (x_wa_ne w81 (x_wa_ne w76 (x_wa_ne w69 (x_wa_ne w61 (x_wa_ne w53 (x_wa_ne w46 (x_wa_ne w37 (x_wa_ne w33 (x_wa_ne w26 (x_wa_ne w22 (x_wa_ne w16 (x_wa_ne w12 b669 (x_nb rfl)) (x_nb rfl)) (x_nb rfl)) (x_nb rfl)) (x_nb rfl)) (x_nb rfl)) (x_nb rfl)) (x_nb rfl)) (x_nb rfl)) (x_nb rfl)) (x_nb rfl)) (x_nb rfl)) (x_nb rfl)) (x_nb rfl)) (x_nb rfl)) (x_nb rfl)) (x_nb rfl)) (x_nb rfl)) (x_nb rfl)) (x_nb rfl)) (x_nb rfl)) (x_nb rfl)) (x_nb rfl)) (x_nb rfl)) (x_nb rfl)) (x_nb rfl)) (x_nb rfl)) (x_nb rfl)) (x_nb rfl)) (x_nb rfl)) (x_nb rfl)) (x_nb rfl)) (x_nb rfl)) (x_nb rfl)) (x_nb rfl)) (x_nb rfl)) (x_nb rfl)) (x_nb rfl)) (x_nb rfl)) (x_nb rfl)) (x_nb rfl)) (x_nb rfl)) (x_nb rfl)) (x_nb rfl)) (x_nb rfl)) (x_nb rfl)) (x_nb rfl)) (x_nb rfl)) (x_nb rfl)) (x_nb rfl)) (x_nb rfl)) (x_nb rfl)) (x_nb rfl)
          refine g_isN rfl g670 (by decide) (fun S671 w672 => ?_)
          have s673 := x_wsA w672 g670 rfl s664
          have g674 := x_wa_at w672 g670
          refine g_n 1 (pc' := 15) (L' := [some (.ref 281), none]) (st' := [.ref 281]) rfl ?_
          have g675 := x_wo_ne w672 g666 (x_nb rfl)
          have v676 : x_MF[115]? = some (.ref 382) := rfl
          have v677 := x_wf_ne e652 (x_wf_ne e644 (x_wf_ne e636 (x_wf_ne e628 (x_wf_ne e619 v676 (x_nb rfl)) (x_nb rfl)) (x_nb rfl)) (x_nb rfl)) (x_nb rfl)
          refine g_get (i := 318) (kd := 1) (ci := 12) (k := 115) (tc := 3) (v := .ref 382) rfl rfl (Or.inl (by decide)) g675 v677 ?_
          refine g_n 2 (pc' := 20) (L' := [some (.ref 281), none]) (st' := [.int 0, .int 4, .ref 382]) rfl ?_
          have b678 : x_arr (x_W fi fl fr) 382 = some (0, 5, .inl fun _ => 0) := rfl
          have g679 := x_wa_ne w672 (x_wa_ne w663 (x_wa_ne w651 (x_wa_ne w643 (x_wa_ne w635 (x_wa_ne w627 (x_wa_ne w617 (x_wa_ne w576 (x_wa_ne w570 (x_wa_ne w280 (x_wa_ne w274 (x_wa_ne w269 (x_wa_ne w265 (x_wa_ne w257 (x_wa_ne w253 (x_wa_ne w245 (x_wa_ne w236 (x_wa_ne w232 (x_wa_ne w228 (x_wa_ne w224 (x_wa_ne w219 (x_wa_ne w209 (x_wa_ne w199 (x_wa_ne w189 (x_wa_ne w179 (x_wa_ne w169 (x_wa_ne w159 (x_wa_ne w155 (x_wa_ne w148 (x_wa_ne w144 (x_wa_ne w138 (x_wa_ne w134 (x_wa_ne w130 (x_wa_ne w126 (x_wa_ne w122 (x_wa_ne w116 (x_wa_ne w109 (x_wa_ne w104 (x_wa_ne w99 (x_wa_ne w95 (x_wa_ne w90 (x_wa_ne w86 (x_wa_ne w81 (x_wa_ne w76 (x_wa_ne w69 (x_wa_ne w61 (x_wa_ne w53 (x_wa_ne w46 (x_wa_ne w37 (x_wa_ne w33 (x_wa_ne w26 (x_wa_ne w22 (x_wa_ne w16 (x_wa_ne w12 b678 (x_nb rfl)) (x_nb rfl)) (x_nb rfl)) (x_nb rfl)) (x_nb rfl)) (x_nb rfl)) (x_nb rfl)) (x_nb rfl)) (x_nb rfl)) (x_nb rfl)) (x_nb rfl)) (x_nb rfl)) (x_nb rfl)) (x_nb rfl)) (x_nb rfl)) (x_nb rfl)) (x_nb rfl)) (x_nb rfl)) (x_nb rfl)) (x_nb rfl)) (x_nb rfl)) (x_nb rfl)) (x_nb rfl)) (x_nb rfl)) (x_nb rfl)) (x_nb rfl)) (x_nb rfl)) (x_nb rfl)) (x_nb rfl)) (x_nb rfl)) (x_nb rfl)) (x_nb rfl)) (x_nb rfl)) (x_nb rfl)) (x_nb rfl)) (x_nb rfl)) (x_nb rfl)) (x_nb rfl)) (x_nb rfl)) (x_nb rfl)) (x_nb rfl)) (x_nb rfl)) (x_nb rfl)) (x_nb rfl)) (x_nb rfl)) (x_nb rfl)) (x_nb rfl)) (x_nb rfl)) (x_nb rfl)) (x_nb rfl)) (x_nb rfl)) (x_nb rfl)) (x_nb rfl)) (x_nb rfl)
          refine g_isN rfl g679 (by decide) (fun S680 w681 => ?_)
          have s682 := x_wsA w681 g679 rfl s673
          have g683 := x_wa_at w681 g679
          refine g_n 2 (pc' := 23) (L' := [some (.ref 281), none]) (st' := [.int 0, .ref 281]) rfl ?_
          have g684 := x_wo_ne w681 g675 (x_nb rfl)
          refine g_putV (i := 818) (kd := 0) (ci := 12) (k := 110) (tc := 0) rfl rfl (Or.inl rfl) g684 (x_ltL l654 rfl) rfl (fun S685 y688 e687 w686 => ?_)
          have l689 := x_wf_len e687 l654
          have v690 := x_wf_at e687 (x_ltL l654 rfl)
          have s691 := x_wsO w686 g684 (l689.trans l654.symm) s682
          have g692 := x_wo_at w686 g684
          refine g_n 1 (pc' := 27) (L' := [some (.ref 281), none]) (st' := [.ref 281]) rfl ?_
          refine g_vcall (i := 805) (kd := 3) (j := 427) (np := 0) (ci := 12) (as := [.ref 281]) (rest := []) rfl rfl (Or.inl rfl) (Nat.le_of_ble_eq_true rfl) rfl rfl g692 rfl rfl ?_
          refine g_in (M := x_M427) (L := [some (.ref 281), none, none]) x_pl427 rfl ?_
          refine g_n 5 (pc' := 7) (L' := [some (.ref 281), some (.int 1), none]) (st' := [.ref 281]) rfl ?_
          have v693 := x_wf_ne e687 (x_wf_ne e652 (x_wf_ne e644 v639 (x_nb rfl)) (x_nb rfl)) (x_nb rfl)
          refine g_get (i := 684) (kd := 0) (ci := 12) (k := 7) (tc := 0) (v := .int 0) rfl rfl (Or.inl (by decide)) g692 v693 ?_
          refine g_n 1 (pc' := 11) (L' := [some (.ref 281), some (.int 1), none]) (st' := [.ref 281, .int 0]) rfl ?_
          have v694 := x_wf_ne e687 (x_wf_ne e652 (x_wf_ne e644 (x_wf_ne e636 (x_wf_ne e628 v622 (x_nb rfl)) (x_nb rfl)) (x_nb rfl)) (x_nb rfl)) (x_nb rfl)
          refine g_get (i := 681) (kd := 0) (ci := 12) (k := 6) (tc := 0) (v := .int 0) rfl rfl (Or.inl (by decide)) g692 v694 ?_
          refine g_n 2 (pc' := 87) (L' := [some (.ref 281), some (.int 1), none]) (st' := [.ref 281]) rfl ?_
          refine g_get (i := 684) (kd := 0) (ci := 12) (k := 7) (tc := 0) (v := .int 0) rfl rfl (Or.inl (by decide)) g692 v693 ?_
          refine g_n 1 (pc' := 91) (L' := [some (.ref 281), some (.int 1), none]) (st' := [.ref 281, .int 0]) rfl ?_
          refine g_get (i := 681) (kd := 0) (ci := 12) (k := 6) (tc := 0) (v := .int 0) rfl rfl (Or.inl (by decide)) g692 v694 ?_
          refine g_n 9 (pc' := 161) (L' := [some (.ref 281), some (.int 0), none]) (st' := [.ref 281, .ref 281]) rfl ?_
          refine g_get (i := 684) (kd := 0) (ci := 12) (k := 7) (tc := 0) (v := .int 0) rfl rfl (Or.inl (by decide)) g692 v693 ?_
          refine g_putV (i := 687) (kd := 0) (ci := 12) (k := 9) (tc := 0) rfl rfl (Or.inl rfl) g692 (x_ltL l689 rfl) rfl (fun S695 y698 e697 w696 => ?_)
          have l699 := x_wf_len e697 l689
          have v700 := x_wf_at e697 (x_ltL l689 rfl)
          have s701 := x_wsO w696 g692 (l699.trans l689.symm) s691
          have g702 := x_wo_at w696 g692
          refine g_n 2 (pc' := 169) (L' := [some (.ref 281), some (.int 0), none]) (st' := [.ref 281, .ref 281]) rfl ?_
          have v703 := x_wf_ne e697 v693 (x_nb rfl)
          refine g_get (i := 684) (kd := 0) (ci := 12) (k := 7) (tc := 0) (v := .int 0) rfl rfl (Or.inl (by decide)) g702 v703 ?_
          refine g_putV (i := 690) (kd := 0) (ci := 12) (k := 10) (tc := 0) rfl rfl (Or.inl rfl) g702 (x_ltL l699 rfl) rfl (fun S704 y707 e706 w705 => ?_)
          have l708 := x_wf_len e706 l699
          have v709 := x_wf_at e706 (x_ltL l699 rfl)
          have s710 := x_wsO w705 g702 (l708.trans l699.symm) s701
          have g711 := x_wo_at w705 g702
          refine g_n 1 (pc' := 176) (L' := [some (.ref 281), some (.int 0), none]) (st' := [.ref 281]) rfl ?_
          have v712 := x_wf_ne e706 v703 (x_nb rfl)
          refine g_get (i := 684) (kd := 0) (ci := 12) (k := 7) (tc := 0) (v := .int 0) rfl rfl (Or.inl (by decide)) g711 v712 ?_
          refine g_n 1 (pc' := 180) (L' := [some (.ref 281), some (.int 0), none]) (st' := [.ref 281, .int 0]) rfl ?_
          have v713 := x_wf_ne e706 (x_wf_ne e697 v694 (x_nb rfl)) (x_nb rfl)
          refine g_get (i := 681) (kd := 0) (ci := 12) (k := 6) (tc := 0) (v := .int 0) rfl rfl (Or.inl (by decide)) g711 v713 ?_
          refine g_n 3 (pc' := 188) (L' := [some (.ref 281), some (.int 0), none]) (st' := [.int 0, .ref 281]) rfl ?_
          refine g_putV (i := 693) (kd := 0) (ci := 12) (k := 8) (tc := 0) rfl rfl (Or.inl rfl) g711 (x_ltL l708 rfl) rfl (fun S714 y717 e716 w715 => ?_)
          have l718 := x_wf_len e716 l708
          have v719 := x_wf_at e716 (x_ltL l708 rfl)
          have s720 := x_wsO w715 g711 (l718.trans l708.symm) s710
          have g721 := x_wo_at w715 g711
          refine g_n 1 (pc' := 192) (L' := [some (.ref 281), some (.int 0), none]) (st' := [.int 1]) rfl ?_
          refine g_ret (ins := .ireturn) (len := 1) (r := (some (.int 1))) rfl rfl rfl ?_
          refine g_n 2 (pc' := 36) (L' := [some (.ref 281), none]) (st' := [.ref 281]) rfl ?_
          refine g_get (i := 693) (kd := 0) (ci := 12) (k := 8) (tc := 0) (v := .int 0) rfl rfl (Or.inl (by decide)) g721 v719 ?_
          refine g_n 2 (pc' := 105) (L' := [some (.ref 281), none]) (st' := [.int 1]) rfl ?_
          refine g_ret (ins := .ireturn) (len := 1) (r := (some (.int 1))) rfl rfl rfl ?_
          refine g_n 2 (pc' := 28) (L' := [some (.ref 281), some (.int 1), none]) (st' := [.ref 281]) rfl ?_
          refine g_vcall (i := 1024) (kd := 3) (j := 478) (np := 0) (ci := 12) (as := [.ref 281]) (rest := []) rfl rfl (Or.inl rfl) (Nat.le_of_ble_eq_true rfl) rfl rfl g721 rfl rfl ?_
          refine g_in (M := x_M478) (L := [some (.ref 281), none]) x_pl478 rfl ?_
          refine g_n 2 (pc' := 2) (L' := [some (.ref 281), none]) (st' := [.int 0, .ref 281]) rfl ?_
          refine g_putV (i := 909) (kd := 0) (ci := 12) (k := 127) (tc := 0) rfl rfl (Or.inl rfl) g721 (x_ltL l718 rfl) rfl (fun S722 y725 e724 w723 => ?_)
          have l726 := x_wf_len e724 l718
          have v727 := x_wf_at e724 (x_ltL l718 rfl)
          have s728 := x_wsO w723 g721 (l726.trans l718.symm) s720
          have g729 := x_wo_at w723 g721
          refine g_n 1 (pc' := 6) (L' := [some (.ref 281), none]) (st' := [.ref 281]) rfl ?_
          refine g_vcall (i := 976) (kd := 3) (j := 464) (np := 0) (ci := 12) (as := [.ref 281]) (rest := []) rfl rfl (Or.inl rfl) (Nat.le_of_ble_eq_true rfl) rfl rfl g729 rfl rfl ?_
          refine g_in (M := x_M464) (L := [some (.ref 281), none, none]) x_pl464 rfl ?_
          refine g_n 5 (pc' := 7) (L' := [some (.ref 281), some (.int 120), none]) (st' := [.ref 281, .int 120, .int 120]) rfl ?_
          have v730 := x_wf_ne e724 (x_wf_ne e716 (x_wf_ne e706 (x_wf_ne e697 (x_wf_ne e687 v659 (x_nb rfl)) (x_nb rfl)) (x_nb rfl)) (x_nb rfl)) (x_nb rfl)
          refine g_get (i := 33) (kd := 1) (ci := 12) (k := 20) (tc := 3) (v := .ref 288) rfl rfl (Or.inl (by decide)) g729 v730 ?_
          refine g_n 1 (pc' := 11) (L' := [some (.ref 281), some (.int 120), none]) (st' := [.int 4, .ref 288, .int 120, .int 120]) rfl ?_
          have g731 := x_wa_ne w723 (x_wa_ne w715 (x_wa_ne w705 (x_wa_ne w696 (x_wa_ne w686 (x_wa_ne w681 (x_wa_ne w672 g665 (x_nb rfl)) (x_nb rfl)) (x_nb rfl)) (x_nb rfl)) (x_nb rfl)) (x_nb rfl)) (x_nb rfl)
          refine g_ia (i := 4) (a := 288) (n := 5) (v := 0) rfl g731 (by decide) rfl ?_
          refine g_n 7 (pc' := 198) (L' := [some (.ref 281), some (.int 16), none]) (st' := [.ref 281, .int 16, .int 16]) rfl ?_
          have v732 := x_wf_ne e724 (x_wf_ne e716 (x_wf_ne e706 (x_wf_ne e697 (x_wf_ne e687 v668 (x_nb rfl)) (x_nb rfl)) (x_nb rfl)) (x_nb rfl)) (x_nb rfl)
          refine g_get (i := 36) (kd := 1) (ci := 12) (k := 21) (tc := 3) (v := .ref 289) rfl rfl (Or.inl (by decide)) g729 v732 ?_
          refine g_n 1 (pc' := 202) (L' := [some (.ref 281), some (.int 16), none]) (st' := [.int 4, .ref 289, .int 16, .int 16]) rfl ?_
          have g733 := x_wa_ne w723 (x_wa_ne w715 (x_wa_ne w705 (x_wa_ne w696 (x_wa_ne w686 (x_wa_ne w681 g674 (x_nb rfl)) (x_nb rfl)) (x_nb rfl)) (x_nb rfl)) (x_nb rfl)) (x_nb rfl)
          refine g_ia (i := 4) (a := 289) (n := 5) (v := 0) rfl g733 (by decide) rfl ?_
          refine g_n 2 (pc' := 270) (L' := [some (.ref 281), some (.int 16), none]) (st' := []) rfl ?_
          refine g_ret (ins := .return_) (len := 1) (r := none) rfl rfl rfl ?_
          refine g_n 5 (pc' := 16) (L' := [some (.ref 281), some (.int 120)]) (st' := [.ref 281, .int 120, .int 120]) rfl ?_
          refine g_get (i := 33) (kd := 1) (ci := 12) (k := 20) (tc := 3) (v := .ref 288) rfl rfl (Or.inl (by decide)) g729 v730 ?_
          refine g_n 1 (pc' := 20) (L' := [some (.ref 281), some (.int 120)]) (st' := [.int 4, .ref 288, .int 120, .int 120]) rfl ?_
          refine g_ia (i := 4) (a := 288) (n := 5) (v := 0) rfl g731 (by decide) rfl ?_
          refine g_n 7 (pc' := 60) (L' := [some (.ref 281), some (.int 16)]) (st' := [.ref 281, .int 16, .int 16]) rfl ?_
          refine g_get (i := 36) (kd := 1) (ci := 12) (k := 21) (tc := 3) (v := .ref 289) rfl rfl (Or.inl (by decide)) g729 v732 ?_
          refine g_n 1 (pc' := 64) (L' := [some (.ref 281), some (.int 16)]) (st' := [.int 4, .ref 289, .int 16, .int 16]) rfl ?_
          refine g_ia (i := 4) (a := 289) (n := 5) (v := 0) rfl g733 (by decide) rfl ?_
          refine g_n 3 (pc' := 81) (L' := [some (.ref 281), some (.int 16)]) (st' := [.ref 281]) rfl ?_
          refine g_get (i := 909) (kd := 0) (ci := 12) (k := 127) (tc := 0) (v := .int 0) rfl rfl (Or.inl (by decide)) g729 v727 ?_
          refine g_n 2 (pc' := 101) (L' := [some (.ref 281), some (.int 16)]) (st' := [.ref 281]) rfl ?_
          refine g_get (i := 909) (kd := 0) (ci := 12) (k := 127) (tc := 0) (v := .int 0) rfl rfl (Or.inl (by decide)) g729 v727 ?_
          refine g_n 3 (pc' := 112) (L' := [some (.ref 281), some (.int 16)]) (st' := [.int 1]) rfl ?_
          refine g_ret (ins := .ireturn) (len := 1) (r := (some (.int 1))) rfl rfl rfl ?_
          refine g_n 6 (pc' := 57) (L' := [some (.ref 281), some (.int 1), some (.int 120)]) (st' := [.ref 281, .int 120, .int 120]) rfl ?_
          refine g_get (i := 33) (kd := 1) (ci := 12) (k := 20) (tc := 3) (v := .ref 288) rfl rfl (Or.inl (by decide)) g729 v730 ?_
          refine g_n 1 (pc' := 61) (L' := [some (.ref 281), some (.int 1), some (.int 120)]) (st' := [.int 4, .ref 288, .int 120, .int 120]) rfl ?_
          refine g_ia (i := 4) (a := 288) (n := 5) (v := 0) rfl g731 (by decide) rfl ?_
          refine g_n 4 (pc' := 88) (L' := [some (.ref 281), some (.int 1), some (.int 120)]) (st' := [.int 1, .ref 281]) rfl ?_
          refine g_vcall (i := 1030) (kd := 3) (j := 485) (np := 1) (ci := 12) (as := [.ref 281, .int 1]) (rest := []) rfl rfl (Or.inl rfl) (Nat.le_of_ble_eq_true rfl) rfl rfl g729 rfl rfl ?_
          refine g_in (M := x_M485) (L := [some (.ref 281), some (.int 1), none, none, none, none]) x_pl485 rfl ?_
          refine g_n 1 (pc' := 1) (L' := [some (.ref 281), some (.int 1), none, none, none, none]) (st' := [.ref 281]) rfl ?_
          have v734 : x_MF[19]? = some (.ref 287) := rfl
          have v735 := x_wf_ne e724 (x_wf_ne e716 (x_wf_ne e706 (x_wf_ne e697 (x_wf_ne e687 (x_wf_ne e652 (x_wf_ne e644 (x_wf_ne e636 (x_wf_ne e628 (x_wf_ne e619 v734 (x_nb rfl)) (x_nb rfl)) (x_nb rfl)) (x_nb rfl)) (x_nb rfl)) (x_nb rfl)) (x_nb rfl)) (x_nb rfl)) (x_nb rfl)) (x_nb rfl)
          refine g_get (i := 29) (kd := 1) (ci := 12) (k := 19) (tc := 3) (v := .ref 287) rfl rfl (Or.inl (by decide)) g729 v735 ?_
          refine g_n 2 (pc' := 6) (L' := [some (.ref 281), some (.int 1), none, none, none, none]) (st' := [.int 1, .int 1, .ref 287]) rfl ?_
          have b736 : x_arr (x_W fi fl fr) 287 = some (3, 5, .inl fun _ => 0) := rfl
          have g737 := x_wa_ne w723 (x_wa_ne w715 (x_wa_ne w705 (x_wa_ne w696 (x_wa_ne w686 (x_wa_ne w681 (x_wa_ne w672 (x_wa_ne w663 (x_wa_ne w651 (x_wa_ne w643 (x_wa_ne w635 (x_wa_ne w627 (x_wa_ne w617 (x_wa_ne w576 (x_wa_ne w570 (x_wa_ne w280 (x_wa_ne w274 (x_wa_ne w269 (x_wa_ne w265 (x_wa_ne w257 (x_wa_ne w253 (x_wa_ne w245 (x_wa_ne w236 (x_wa_ne w232 (x_wa_ne w228 (x_wa_ne w224 (x_wa_ne w219 (x_wa_ne w209 (x_wa_ne w199 (x_wa_ne w189 (x_wa_ne w179 (x_wa_ne w169 (x_wa_ne w159 (x_wa_ne w155 (x_wa_ne w148 (x_wa_ne w144 (x_wa_ne w138 (x_wa_ne w134 (x_wa_ne w130 (x_wa_ne w126 (x_wa_ne w122 (x_wa_ne w116 (x_wa_ne w109 (x_wa_ne w104 (x_wa_ne w99 (x_wa_ne w95 (x_wa_ne w90 (x_wa_ne w86 (x_wa_ne w81 (x_wa_ne w76 (x_wa_ne w69 (x_wa_ne w61 (x_wa_ne w53 (x_wa_ne w46 (x_wa_ne w37 (x_wa_ne w33 (x_wa_ne w26 (x_wa_ne w22 (x_wa_ne w16 (x_wa_ne w12 b736 (x_nb rfl)) (x_nb rfl)) (x_nb rfl)) (x_nb rfl)) (x_nb rfl)) (x_nb rfl)) (x_nb rfl)) (x_nb rfl)) (x_nb rfl)) (x_nb rfl)) (x_nb rfl)) (x_nb rfl)) (x_nb rfl)) (x_nb rfl)) (x_nb rfl)) (x_nb rfl)) (x_nb rfl)) (x_nb rfl)) (x_nb rfl)) (x_nb rfl)) (x_nb rfl)) (x_nb rfl)) (x_nb rfl)) (x_nb rfl)) (x_nb rfl)) (x_nb rfl)) (x_nb rfl)) (x_nb rfl)) (x_nb rfl)) (x_nb rfl)) (x_nb rfl)) (x_nb rfl)) (x_nb rfl)) (x_nb rfl)) (x_nb rfl)) (x_nb rfl)) (x_nb rfl)) (x_nb rfl)) (x_nb rfl)) (x_nb rfl)) (x_nb rfl)) (x_nb rfl)) (x_nb rfl)) (x_nb rfl)) (x_nb rfl)) (x_nb rfl)) (x_nb rfl)) (x_nb rfl)) (x_nb rfl)) (x_nb rfl)) (x_nb rfl)) (x_nb rfl)) (x_nb rfl)) (x_nb rfl)) (x_nb rfl)) (x_nb rfl)) (x_nb rfl)) (x_nb rfl)) (x_nb rfl)) (x_nb rfl)
          refine g_bs3N rfl g737 (by decide) (fun S738 w739 => ?_)
          have s740 := x_wsA w739 g737 rfl s728
          have g741 := x_wa_at w739 g737
          refine g_n 1 (pc' := 8) (L' := [some (.ref 281), some (.int 1), none, none, none, none]) (st' := [.ref 281]) rfl ?_
          have g742 := x_wo_ne w739 g729 (x_nb rfl)
          refine g_get (i := 33) (kd := 1) (ci := 12) (k := 20) (tc := 3) (v := .ref 288) rfl rfl (Or.inl (by decide)) g742 v730 ?_
          refine g_n 2 (pc' := 13) (L' := [some (.ref 281), some (.int 1), none, none, none, none]) (st' := [.ref 281, .int 1, .ref 288]) rfl ?_
          refine g_get (i := 33) (kd := 1) (ci := 12) (k := 20) (tc := 3) (v := .ref 288) rfl rfl (Or.inl (by decide)) g742 v730 ?_
          refine g_n 1 (pc' := 17) (L' := [some (.ref 281), some (.int 1), none, none, none, none]) (st' := [.int 4, .ref 288, .int 1, .ref 288]) rfl ?_
          have g743 := x_wa_ne w739 g731 (x_nb rfl)
          refine g_ia (i := 4) (a := 288) (n := 5) (v := 0) rfl g743 (by decide) rfl ?_
          refine g_isN rfl g743 (by decide) (fun S744 w745 => ?_)
          have s746 := x_wsA w745 g743 rfl s740
          have g747 := x_wa_at w745 g743
          refine g_n 1 (pc' := 20) (L' := [some (.ref 281), some (.int 1), none, none, none, none]) (st' := [.ref 281]) rfl ?_
          have g748 := x_wo_ne w745 g742 (x_nb rfl)
          refine g_get (i := 36) (kd := 1) (ci := 12) (k := 21) (tc := 3) (v := .ref 289) rfl rfl (Or.inl (by decide)) g748 v732 ?_
          refine g_n 2 (pc' := 25) (L' := [some (.ref 281), some (.int 1), none, none, none, none]) (st' := [.ref 281, .int 1, .ref 289]) rfl ?_
          refine g_get (i := 36) (kd := 1) (ci := 12) (k := 21) (tc := 3) (v := .ref 289) rfl rfl (Or.inl (by decide)) g748 v732 ?_
          refine g_n 1 (pc' := 29) (L' := [some (.ref 281), some (.int 1), none, none, none, none]) (st' := [.int 4, .ref 289, .int 1, .ref 289]) rfl ?_
          have g749 := x_wa_ne w745 (x_wa_ne w739 g733 (x_nb rfl)) (x_nb rfl)
          refine g_ia (i := 4) (a := 289) (n := 5) (v := 0) rfl g749 (by decide) rfl ?_
          refine g_isN rfl g749 (by decide) (fun S750 w751 => ?_)
          have s752 := x_wsA w751 g749 rfl s746
          have g753 := x_wa_at w751 g749
          refine g_n 1 (pc' := 32) (L' := [some (.ref 281), some (.int 1), none, none, none, none]) (st' := [.ref 281]) rfl ?_
          have g754 := x_wo_ne w751 g748 (x_nb rfl)
          have v755 := x_wf_ne e724 (x_wf_ne e716 (x_wf_ne e706 (x_wf_ne e697 (x_wf_ne e687 v677 (x_nb rfl)) (x_nb rfl)) (x_nb rfl)) (x_nb rfl)) (x_nb rfl)
          refine g_get (i := 318) (kd := 1) (ci := 12) (k := 115) (tc := 3) (v := .ref 382) rfl rfl (Or.inl (by decide)) g754 v755 ?_
          refine g_n 2 (pc' := 37) (L' := [some (.ref 281), some (.int 1), none, none, none, none]) (st' := [.ref 281, .int 1, .ref 382]) rfl ?_
          refine g_get (i := 318) (kd := 1) (ci := 12) (k := 115) (tc := 3) (v := .ref 382) rfl rfl (Or.inl (by decide)) g754 v755 ?_
          refine g_n 1 (pc' := 41) (L' := [some (.ref 281), some (.int 1), none, none, none, none]) (st' := [.int 4, .ref 382, .int 1, .ref 382]) rfl ?_
          have g756 := x_wa_ne w751 (x_wa_ne w745 (x_wa_ne w739 (x_wa_ne w723 (x_wa_ne w715 (x_wa_ne w705 (x_wa_ne w696 (x_wa_ne w686 g683 (x_nb rfl)) (x_nb rfl)) (x_nb rfl)) (x_nb rfl)) (x_nb rfl)) (x_nb rfl)) (x_nb rfl)) (x_nb rfl)
          refine g_ia (i := 4) (a := 382) (n := 5) (v := 0) rfl g756 (by decide) rfl ?_
          refine g_isN rfl g756 (by decide) (fun S757 w758 => ?_)
          have s759 := x_wsA w758 g756 rfl s752
          have g760 := x_wa_at w758 g756
          refine g_n 4 (pc' := 47) (L' := [some (.ref 281), some (.int 1), some (.int 0), none, none, none]) (st' := [.ref 281, .int 0]) rfl ?_
          have g761 := x_wo_ne w758 g754 (x_nb rfl)
          refine g_get (i := 318) (kd := 1) (ci := 12) (k := 115) (tc := 3) (v := .ref 382) rfl rfl (Or.inl (by decide)) g761 v755 ?_
          refine g_n 1 (pc' := 51) (L' := [some (.ref 281), some (.int 1), some (.int 0), none, none, none]) (st' := [.int 1, .ref 382, .int 0]) rfl ?_
          refine g_ia (i := 1) (a := 382) (n := 5) (v := 0) rfl g760 (by decide) rfl ?_
          refine g_n 5 (pc' := 87) (L' := [some (.ref 281), some (.int 1), some (.int 0), none, none, none]) (st' := [.ref 281, .int 0]) rfl ?_
          refine g_get (i := 33) (kd := 1) (ci := 12) (k := 20) (tc := 3) (v := .ref 288) rfl rfl (Or.inl (by decide)) g761 v730 ?_
          refine g_n 1 (pc' := 91) (L' := [some (.ref 281), some (.int 1), some (.int 0), none, none, none]) (st' := [.int 1, .ref 288, .int 0]) rfl ?_
          have g762 := x_wa_ne w758 (x_wa_ne w751 g747 (x_nb rfl)) (x_nb rfl)
          refine g_ia (i := 1) (a := 288) (n := 5) (v := 0) rfl g762 (by decide) rfl ?_
          refine g_n 5 (pc' := 502) (L' := [some (.ref 281), some (.int 1), some (.int 0), none, none, none]) (st' := [.ref 281, .int 0]) rfl ?_
          refine g_get (i := 36) (kd := 1) (ci := 12) (k := 21) (tc := 3) (v := .ref 289) rfl rfl (Or.inl (by decide)) g761 v732 ?_
          refine g_n 1 (pc' := 506) (L' := [some (.ref 281), some (.int 1), some (.int 0), none, none, none]) (st' := [.int 1, .ref 289, .int 0]) rfl ?_
          have g763 := x_wa_ne w758 g753 (x_nb rfl)
          refine g_ia (i := 1) (a := 289) (n := 5) (v := 0) rfl g763 (by decide) rfl ?_
          refine g_n 1 (pc' := 529) (L' := [some (.ref 281), some (.int 1), some (.int 0), none, none, none]) (st' := []) rfl ?_
          refine g_ret (ins := .return_) (len := 1) (r := none) rfl rfl rfl ?_
          refine g_n 2 (pc' := 93) (L' := [some (.ref 281), some (.int 1), some (.int 120)]) (st' := [.int 1, .ref 281]) rfl ?_
          refine g_vcall (i := 1033) (kd := 3) (j := 712) (np := 1) (ci := 12) (as := [.ref 281, .int 1]) (rest := []) rfl rfl (Or.inl rfl) (Nat.le_of_ble_eq_true rfl) rfl rfl g761 rfl rfl ?_
          refine g_in (M := x_M712) (L := [some (.ref 281), some (.int 1), none]) x_pl712 rfl ?_
          refine g_n 6 (pc' := 9) (L' := [some (.ref 281), some (.int 1), some (.int 0)]) (st' := [.ref 281]) rfl ?_
          have v764 : x_MF[135]? = some (.ref 387) := rfl
          have v765 := x_wf_ne e724 (x_wf_ne e716 (x_wf_ne e706 (x_wf_ne e697 (x_wf_ne e687 (x_wf_ne e652 (x_wf_ne e644 (x_wf_ne e636 (x_wf_ne e628 (x_wf_ne e619 v764 (x_nb rfl)) (x_nb rfl)) (x_nb rfl)) (x_nb rfl)) (x_nb rfl)) (x_nb rfl)) (x_nb rfl)) (x_nb rfl)) (x_nb rfl)) (x_nb rfl)
          refine g_get (i := 333) (kd := 1) (ci := 12) (k := 135) (tc := 3) (v := .ref 387) rfl rfl (Or.inl (by decide)) g761 v765 ?_
          refine g_n 1 (pc' := 13) (L' := [some (.ref 281), some (.int 1), some (.int 0)]) (st' := [.int 0, .ref 387]) rfl ?_
          have b766 : x_arr (x_W fi fl fr) 387 = some (3, 16, .inl fun _ => 0) := rfl
          have g767 := x_wa_ne w758 (x_wa_ne w751 (x_wa_ne w745 (x_wa_ne w739 (x_wa_ne w723 (x_wa_ne w715 (x_wa_ne w705 (x_wa_ne w696 (x_wa_ne w686 (x_wa_ne w681 (x_wa_ne w672 (x_wa_ne w663 (x_wa_ne w651 (x_wa_ne w643 (x_wa_ne w635 (x_wa_ne w627 (x_wa_ne w617 (x_wa_ne w576 (x_wa_ne w570 (x_wa_ne w280 (x_wa_ne w274 (x_wa_ne w269 (x_wa_ne w265 (x_wa_ne w257 (x_wa_ne w253 (x_wa_ne w245 (x_wa_ne w236 (x_wa_ne w232 (x_wa_ne w228 (x_wa_ne w224 (x_wa_ne w219 (x_wa_ne w209 (x_wa_ne w199 (x_wa_ne w189 (x_wa_ne w179 (x_wa_ne w169 (x_wa_ne w159 (x_wa_ne w155 (x_wa_ne w148 (x_wa_ne w144 (x_wa_ne w138 (x_wa_ne w134 (x_wa_ne w130 (x_wa_ne w126 (x_wa_ne w122 (x_wa_ne w116 (x_wa_ne w109 (x_wa_ne w104 (x_wa_ne w99 (x_wa_ne w95 (x_wa_ne w90 (x_wa_ne w86 (x_wa_ne w81 (x_wa_ne w76 (x_wa_ne w69 (x_wa_ne w61 (x_wa_ne w53 (x_wa_ne w46 (x_wa_ne w37 (x_wa_ne w33 (x_wa_ne w26 (x_wa_ne w22 (x_wa_ne w16 (x_wa_ne w12 b766 (x_nb rfl)) (x_nb rfl)) (x_nb rfl)) (x_nb rfl)) (x_nb rfl)) (x_nb rfl)) (x_nb rfl)) (x_nb rfl)) (x_nb rfl)) (x_nb rfl)) (x_nb rfl)) (x_nb rfl)) (x_nb rfl)) (x_nb rfl)) (x_nb rfl)) (x_nb rfl)) (x_nb rfl)) (x_nb rfl)) (x_nb rfl)) (x_nb rfl)) (x_nb rfl)) (x_nb rfl)) (x_nb rfl)) (x_nb rfl)) (x_nb rfl)) (x_nb rfl)) (x_nb rfl)) (x_nb rfl)) (x_nb rfl)) (x_nb rfl)) (x_nb rfl)) (x_nb rfl)) (x_nb rfl)) (x_nb rfl)) (x_nb rfl)) (x_nb rfl)) (x_nb rfl)) (x_nb rfl)) (x_nb rfl)) (x_nb rfl)) (x_nb rfl)) (x_nb rfl)) (x_nb rfl)) (x_nb rfl)) (x_nb rfl)) (x_nb rfl)) (x_nb rfl)) (x_nb rfl)) (x_nb rfl)) (x_nb rfl)) (x_nb rfl)) (x_nb rfl)) (x_nb rfl)) (x_nb rfl)) (x_nb rfl)) (x_nb rfl)) (x_nb rfl)) (x_nb rfl)) (x_nb rfl)) (x_nb rfl)) (x_nb rfl)) (x_nb rfl)) (x_nb rfl)) (x_nb rfl)
          refine g_ba3 (i := 0) (a := 387) (n := 16) (v := 0) rfl g767 (by decide) rfl ?_
          refine g_n 7 (pc' := 9) (L' := [some (.ref 281), some (.int 1), some (.int 1)]) (st' := [.ref 281]) rfl ?_
          refine g_get (i := 333) (kd := 1) (ci := 12) (k := 135) (tc := 3) (v := .ref 387) rfl rfl (Or.inl (by decide)) g761 v765 ?_
          refine g_n 1 (pc' := 13) (L' := [some (.ref 281), some (.int 1), some (.int 1)]) (st' := [.int 1, .ref 387]) rfl ?_
          refine g_ba3 (i := 1) (a := 387) (n := 16) (v := 0) rfl g767 (by decide) rfl ?_
          refine g_n 7 (pc' := 9) (L' := [some (.ref 281), some (.int 1), some (.int 2)]) (st' := [.ref 281]) rfl ?_
          refine g_get (i := 333) (kd := 1) (ci := 12) (k := 135) (tc := 3) (v := .ref 387) rfl rfl (Or.inl (by decide)) g761 v765 ?_
          refine g_n 1 (pc' := 13) (L' := [some (.ref 281), some (.int 1), some (.int 2)]) (st' := [.int 2, .ref 387]) rfl ?_
          refine g_ba3 (i := 2) (a := 387) (n := 16) (v := 0) rfl g767 (by decide) rfl ?_
          refine g_n 7 (pc' := 9) (L' := [some (.ref 281), some (.int 1), some (.int 3)]) (st' := [.ref 281]) rfl ?_
          refine g_get (i := 333) (kd := 1) (ci := 12) (k := 135) (tc := 3) (v := .ref 387) rfl rfl (Or.inl (by decide)) g761 v765 ?_
          refine g_n 1 (pc' := 13) (L' := [some (.ref 281), some (.int 1), some (.int 3)]) (st' := [.int 3, .ref 387]) rfl ?_
          refine g_ba3 (i := 3) (a := 387) (n := 16) (v := 0) rfl g767 (by decide) rfl ?_
          refine g_n 7 (pc' := 9) (L' := [some (.ref 281), some (.int 1), some (.int 4)]) (st' := [.ref 281]) rfl ?_
          refine g_get (i := 333) (kd := 1) (ci := 12) (k := 135) (tc := 3) (v := .ref 387) rfl rfl (Or.inl (by decide)) g761 v765 ?_
          refine g_n 1 (pc' := 13) (L' := [some (.ref 281), some (.int 1), some (.int 4)]) (st' := [.int 4, .ref 387]) rfl ?_
          refine g_ba3 (i := 4) (a := 387) (n := 16) (v := 0) rfl g767 (by decide) rfl ?_
          refine g_n 7 (pc' := 9) (L' := [some (.ref 281), some (.int 1), some (.int 5)]) (st' := [.ref 281]) rfl ?_
          refine g_get (i := 333) (kd := 1) (ci := 12) (k := 135) (tc := 3) (v := .ref 387) rfl rfl (Or.inl (by decide)) g761 v765 ?_
          refine g_n 1 (pc' := 13) (L' := [some (.ref 281), some (.int 1), some (.int 5)]) (st' := [.int 5, .ref 387]) rfl ?_
          refine g_ba3 (i := 5) (a := 387) (n := 16) (v := 0) rfl g767 (by decide) rfl ?_
          refine g_n 7 (pc' := 9) (L' := [some (.ref 281), some (.int 1), some (.int 6)]) (st' := [.ref 281]) rfl ?_
          refine g_get (i := 333) (kd := 1) (ci := 12) (k := 135) (tc := 3) (v := .ref 387) rfl rfl (Or.inl (by decide)) g761 v765 ?_
          refine g_n 1 (pc' := 13) (L' := [some (.ref 281), some (.int 1), some (.int 6)]) (st' := [.int 6, .ref 387]) rfl ?_
          refine g_ba3 (i := 6) (a := 387) (n := 16) (v := 0) rfl g767 (by decide) rfl ?_
          refine g_n 7 (pc' := 9) (L' := [some (.ref 281), some (.int 1), some (.int 7)]) (st' := [.ref 281]) rfl ?_
          refine g_get (i := 333) (kd := 1) (ci := 12) (k := 135) (tc := 3) (v := .ref 387) rfl rfl (Or.inl (by decide)) g761 v765 ?_
          refine g_n 1 (pc' := 13) (L' := [some (.ref 281), some (.int 1), some (.int 7)]) (st' := [.int 7, .ref 387]) rfl ?_
          refine g_ba3 (i := 7) (a := 387) (n := 16) (v := 0) rfl g767 (by decide) rfl ?_
          refine g_n 7 (pc' := 9) (L' := [some (.ref 281), some (.int 1), some (.int 8)]) (st' := [.ref 281]) rfl ?_
          refine g_get (i := 333) (kd := 1) (ci := 12) (k := 135) (tc := 3) (v := .ref 387) rfl rfl (Or.inl (by decide)) g761 v765 ?_
          refine g_n 1 (pc' := 13) (L' := [some (.ref 281), some (.int 1), some (.int 8)]) (st' := [.int 8, .ref 387]) rfl ?_
          refine g_ba3 (i := 8) (a := 387) (n := 16) (v := 0) rfl g767 (by decide) rfl ?_
          refine g_n 7 (pc' := 9) (L' := [some (.ref 281), some (.int 1), some (.int 9)]) (st' := [.ref 281]) rfl ?_
          refine g_get (i := 333) (kd := 1) (ci := 12) (k := 135) (tc := 3) (v := .ref 387) rfl rfl (Or.inl (by decide)) g761 v765 ?_
          refine g_n 1 (pc' := 13) (L' := [some (.ref 281), some (.int 1), some (.int 9)]) (st' := [.int 9, .ref 387]) rfl ?_
          refine g_ba3 (i := 9) (a := 387) (n := 16) (v := 0) rfl g767 (by decide) rfl ?_
          refine g_n 7 (pc' := 9) (L' := [some (.ref 281), some (.int 1), some (.int 10)]) (st' := [.ref 281]) rfl ?_
          refine g_get (i := 333) (kd := 1) (ci := 12) (k := 135) (tc := 3) (v := .ref 387) rfl rfl (Or.inl (by decide)) g761 v765 ?_
          refine g_n 1 (pc' := 13) (L' := [some (.ref 281), some (.int 1), some (.int 10)]) (st' := [.int 10, .ref 387]) rfl ?_
          refine g_ba3 (i := 10) (a := 387) (n := 16) (v := 0) rfl g767 (by decide) rfl ?_
          refine g_n 7 (pc' := 9) (L' := [some (.ref 281), some (.int 1), some (.int 11)]) (st' := [.ref 281]) rfl ?_
          refine g_get (i := 333) (kd := 1) (ci := 12) (k := 135) (tc := 3) (v := .ref 387) rfl rfl (Or.inl (by decide)) g761 v765 ?_
          refine g_n 1 (pc' := 13) (L' := [some (.ref 281), some (.int 1), some (.int 11)]) (st' := [.int 11, .ref 387]) rfl ?_
          refine g_ba3 (i := 11) (a := 387) (n := 16) (v := 0) rfl g767 (by decide) rfl ?_
          refine g_n 7 (pc' := 41) (L' := [some (.ref 281), some (.int 1), some (.int 12)]) (st' := [.ref 281]) rfl ?_
          have v768 : x_MF[260]? = some (.int 0) := rfl
          have v769 := x_wf_ne e724 (x_wf_ne e716 (x_wf_ne e706 (x_wf_ne e697 (x_wf_ne e687 (x_wf_ne e652 (x_wf_ne e644 (x_wf_ne e636 (x_wf_ne e628 (x_wf_ne e619 v768 (x_nb rfl)) (x_nb rfl)) (x_nb rfl)) (x_nb rfl)) (x_nb rfl)) (x_nb rfl)) (x_nb rfl)) (x_nb rfl)) (x_nb rfl)) (x_nb rfl)
          refine g_get (i := 1889) (kd := 0) (ci := 12) (k := 260) (tc := 2) (v := .int 0) rfl rfl (Or.inl (by decide)) g761 v769 ?_
          refine g_n 7 (pc' := 92) (L' := [some (.ref 281), some (.int 1), some (.int 0)]) (st' := [.ref 281]) rfl ?_
          have v770 : x_MF[280]? = some (.ref 470) := rfl
          have v771 := x_wf_ne e724 (x_wf_ne e716 (x_wf_ne e706 (x_wf_ne e697 (x_wf_ne e687 (x_wf_ne e652 (x_wf_ne e644 (x_wf_ne e636 (x_wf_ne e628 (x_wf_ne e619 v770 (x_nb rfl)) (x_nb rfl)) (x_nb rfl)) (x_nb rfl)) (x_nb rfl)) (x_nb rfl)) (x_nb rfl)) (x_nb rfl)) (x_nb rfl)) (x_nb rfl)
          refine g_get (i := 585) (kd := 1) (ci := 12) (k := 280) (tc := 3) (v := .ref 470) rfl rfl (Or.inl (by decide)) g761 v771 ?_
          refine g_n 1 (pc' := 96) (L' := [some (.ref 281), some (.int 1), some (.int 0)]) (st' := [.int 0, .ref 470]) rfl ?_
          have b772 : x_arr (x_W fi fl fr) 470 = some (3, 3, .inl fun _ => 0) := rfl
          have g773 := x_wa_ne w758 (x_wa_ne w751 (x_wa_ne w745 (x_wa_ne w739 (x_wa_ne w723 (x_wa_ne w715 (x_wa_ne w705 (x_wa_ne w696 (x_wa_ne w686 (x_wa_ne w681 (x_wa_ne w672 (x_wa_ne w663 (x_wa_ne w651 (x_wa_ne w643 (x_wa_ne w635 (x_wa_ne w627 (x_wa_ne w617 (x_wa_ne w576 (x_wa_ne w570 (x_wa_ne w280 (x_wa_ne w274 (x_wa_ne w269 (x_wa_ne w265 (x_wa_ne w257 (x_wa_ne w253 (x_wa_ne w245 (x_wa_ne w236 (x_wa_ne w232 (x_wa_ne w228 (x_wa_ne w224 (x_wa_ne w219 (x_wa_ne w209 (x_wa_ne w199 (x_wa_ne w189 (x_wa_ne w179 (x_wa_ne w169 (x_wa_ne w159 (x_wa_ne w155 (x_wa_ne w148 (x_wa_ne w144 (x_wa_ne w138 (x_wa_ne w134 (x_wa_ne w130 (x_wa_ne w126 (x_wa_ne w122 (x_wa_ne w116 (x_wa_ne w109 (x_wa_ne w104 (x_wa_ne w99 (x_wa_ne w95 (x_wa_ne w90 (x_wa_ne w86 (x_wa_ne w81 (x_wa_ne w76 (x_wa_ne w69 (x_wa_ne w61 (x_wa_ne w53 (x_wa_ne w46 (x_wa_ne w37 (x_wa_ne w33 (x_wa_ne w26 (x_wa_ne w22 (x_wa_ne w16 (x_wa_ne w12 b772 (x_nb rfl)) (x_nb rfl)) (x_nb rfl)) (x_nb rfl)) (x_nb rfl)) (x_nb rfl)) (x_nb rfl)) (x_nb rfl)) (x_nb rfl)) (x_nb rfl)) (x_nb rfl)) (x_nb rfl)) (x_nb rfl)) (x_nb rfl)) (x_nb rfl)) (x_nb rfl)) (x_nb rfl)) (x_nb rfl)) (x_nb rfl)) (x_nb rfl)) (x_nb rfl)) (x_nb rfl)) (x_nb rfl)) (x_nb rfl)) (x_nb rfl)) (x_nb rfl)) (x_nb rfl)) (x_nb rfl)) (x_nb rfl)) (x_nb rfl)) (x_nb rfl)) (x_nb rfl)) (x_nb rfl)) (x_nb rfl)) (x_nb rfl)) (x_nb rfl)) (x_nb rfl)) (x_nb rfl)) (x_nb rfl)) (x_nb rfl)) (x_nb rfl)) (x_nb rfl)) (x_nb rfl)) (x_nb rfl)) (x_nb rfl)) (x_nb rfl)) (x_nb rfl)) (x_nb rfl)) (x_nb rfl)) (x_nb rfl)) (x_nb rfl)) (x_nb rfl)) (x_nb rfl)) (x_nb rfl)) (x_nb rfl)) (x_nb rfl)) (x_nb rfl)) (x_nb rfl)) (x_nb rfl)) (x_nb rfl)) (x_nb rfl)) (x_nb rfl)) (x_nb rfl)) (x_nb rfl)
          refine g_ba3 (i := 0) (a := 470) (n := 3) (v := 0) rfl g773 (by decide) rfl ?_
          refine g_n 7 (pc' := 92) (L' := [some (.ref 281), some (.int 1), some (.int 1)]) (st' := [.ref 281]) rfl ?_
          refine g_get (i := 585) (kd := 1) (ci := 12) (k := 280) (tc := 3) (v := .ref 470) rfl rfl (Or.inl (by decide)) g761 v771 ?_
          refine g_n 1 (pc' := 96) (L' := [some (.ref 281), some (.int 1), some (.int 1)]) (st' := [.int 1, .ref 470]) rfl ?_
          refine g_ba3 (i := 1) (a := 470) (n := 3) (v := 0) rfl g773 (by decide) rfl ?_
          refine g_n 7 (pc' := 92) (L' := [some (.ref 281), some (.int 1), some (.int 2)]) (st' := [.ref 281]) rfl ?_
          refine g_get (i := 585) (kd := 1) (ci := 12) (k := 280) (tc := 3) (v := .ref 470) rfl rfl (Or.inl (by decide)) g761 v771 ?_
          refine g_n 1 (pc' := 96) (L' := [some (.ref 281), some (.int 1), some (.int 2)]) (st' := [.int 2, .ref 470]) rfl ?_
          refine g_ba3 (i := 2) (a := 470) (n := 3) (v := 0) rfl g773 (by decide) rfl ?_
          refine g_n 6 (pc' := 130) (L' := [some (.ref 281), some (.int 1), some (.int 3)]) (st' := []) rfl ?_
          refine g_ret (ins := .return_) (len := 1) (r := none) rfl rfl rfl ?_
          refine g_n 1 (pc' := 97) (L' := [some (.ref 281), some (.int 1), some (.int 120)]) (st' := [.ref 281]) rfl ?_
          refine g_get (i := 33) (kd := 1) (ci := 12) (k := 20) (tc := 3) (v := .ref 288) rfl rfl (Or.inl (by decide)) g761 v730 ?_
          refine g_n 1 (pc' := 101) (L' := [some (.ref 281), some (.int 1), some (.int 120)]) (st' := [.int 1, .ref 288]) rfl ?_
          refine g_ia (i := 1) (a := 288) (n := 5) (v := 0) rfl g762 (by decide) rfl ?_
          exact g_ret (ins := .ireturn) (len := 1) (r := (some (.int 0))) rfl rfl rfl ⟨_, rfl, rfl, s759⟩
        · have q774 : ¬ a = 1 := h565
          have p775 : 2 ≤ a.toInt := x_lo_ne q774 p564 (by decide)
          by_cases h776 : a = 2
          · have e777 : a = 2 := h776
            subst e777
            have b778 : x_arr (x_W fi fl fr) 2 = some (5, 4, .inr (.inr (.inr (.inr (fr 2))))) := rfl
            have g779 := x_wa_ne w280 (x_wa_ne w274 (x_wa_ne w269 (x_wa_ne w265 (x_wa_ne w257 (x_wa_ne w253 (x_wa_ne w245 (x_wa_ne w236 (x_wa_ne w232 (x_wa_ne w228 (x_wa_ne w224 (x_wa_ne w219 (x_wa_ne w209 (x_wa_ne w199 (x_wa_ne w189 (x_wa_ne w179 (x_wa_ne w169 (x_wa_ne w159 (x_wa_ne w155 (x_wa_ne w148 (x_wa_ne w144 (x_wa_ne w138 (x_wa_ne w134 (x_wa_ne w130 (x_wa_ne w126 (x_wa_ne w122 (x_wa_ne w116 (x_wa_ne w109 (x_wa_ne w104 (x_wa_ne w99 (x_wa_ne w95 (x_wa_ne w90 (x_wa_ne w86 (x_wa_ne w81 (x_wa_ne w76 (x_wa_ne w69 (x_wa_ne w61 (x_wa_ne w53 (x_wa_ne w46 (x_wa_ne w37 (x_wa_ne w33 (x_wa_ne w26 (x_wa_ne w22 (x_wa_ne w16 (x_wa_ne w12 b778 (x_nb rfl)) (x_nb rfl)) (x_nb rfl)) (x_nb rfl)) (x_nb rfl)) (x_nb rfl)) (x_nb rfl)) (x_nb rfl)) (x_nb rfl)) (x_nb rfl)) (x_nb rfl)) (x_nb rfl)) (x_nb rfl)) (x_nb rfl)) (x_nb rfl)) (x_nb rfl)) (x_nb rfl)) (x_nb rfl)) (x_nb rfl)) (x_nb rfl)) (x_nb rfl)) (x_nb rfl)) (x_nb rfl)) (x_nb rfl)) (x_nb rfl)) (x_nb rfl)) (x_nb rfl)) (x_nb rfl)) (x_nb rfl)) (x_nb rfl)) (x_nb rfl)) (x_nb rfl)) (x_nb rfl)) (x_nb rfl)) (x_nb rfl)) (x_nb rfl)) (x_nb rfl)) (x_nb rfl)) (x_nb rfl)) (x_nb rfl)) (x_nb rfl)) (x_nb rfl)) (x_nb rfl)) (x_nb rfl)) (x_nb rfl)
            refine g_aa (i := 2) (a := 2) (n := 4) (v := 73) rfl g779 (by decide) (x_at (x_f2 hF) (k := 2) rfl) ?_
            refine g_n 2 (pc' := 77) (L' := [some (.ref 0), some (.int 2), some (.ref 73), none]) (st' := [.ref 0]) rfl ?_
            refine g_get (i := 42) (kd := 1) (ci := 11) (k := 2) (tc := 3) (v := .ref 2) rfl rfl (Or.inl (by decide)) g282 rfl ?_
            refine g_n 2 (pc' := 82) (L' := [some (.ref 0), some (.int 2), some (.ref 73), none]) (st' := [.ref 0, .int 2, .ref 2]) rfl ?_
            refine g_get (i := 82) (kd := 0) (ci := 11) (k := 4) (tc := 3) (v := .ref 183) rfl rfl (Or.inl (by decide)) g282 rfl ?_
            have g782 := x_wo_ne w280 g276 (x_nb rfl)
            refine g_asN rfl g779 g782 (by decide) (fun S780 w781 => ?_)
            have s783 := x_wsA w781 g779 rfl s281
            have g784 := x_wa_at w781 g779
            refine g_n 2 (pc' := 88) (L' := [some (.ref 0), some (.int 2), some (.ref 73), none]) (st' := [.ref 73, .ref 0]) rfl ?_
            have g785 := x_wo_ne w781 g282 (x_nb rfl)
            refine g_putN (i := 82) (kd := 0) (ci := 11) (k := 4) (tc := 3) (fs' := [.ref 179, .ref 1, .ref 2, .ref 3, .ref 73, .ref 211, .ref 224, .ref 235, .ref 237, .ref 238, .ref 240, .ref 248, .ref 206, .ref 4, .ref 181, .ref 9, .int (-2), .int 0, .long 0]) rfl rfl (Or.inl rfl) g785 (x_ltL rfl rfl) rfl rfl (fun S786 w787 => ?_)
            have s788 := x_wsO w787 g785 rfl s783
            have g789 := x_wo_at w787 g785
            refine g_n 6 (pc' := 100) (L' := [some (.ref 0), some (.int 2), some (.ref 73), some (.int 0)]) (st' := [.ref 0]) rfl ?_
            refine g_get (i := 48) (kd := 1) (ci := 11) (k := 3) (tc := 3) (v := .ref 3) rfl rfl (Or.inl (by decide)) g789 rfl ?_
            refine g_n 1 (pc' := 104) (L' := [some (.ref 0), some (.int 2), some (.ref 73), some (.int 0)]) (st' := [.int 0, .ref 3]) rfl ?_
            have b790 : x_arr (x_W fi fl fr) 3 = some (6, 12, .inr (.inr (.inr (.inr (fr 3))))) := rfl
            have g791 := x_wa_ne w787 (x_wa_ne w781 (x_wa_ne w280 (x_wa_ne w274 (x_wa_ne w269 (x_wa_ne w265 (x_wa_ne w257 (x_wa_ne w253 (x_wa_ne w245 (x_wa_ne w236 (x_wa_ne w232 (x_wa_ne w228 (x_wa_ne w224 (x_wa_ne w219 (x_wa_ne w209 (x_wa_ne w199 (x_wa_ne w189 (x_wa_ne w179 (x_wa_ne w169 (x_wa_ne w159 (x_wa_ne w155 (x_wa_ne w148 (x_wa_ne w144 (x_wa_ne w138 (x_wa_ne w134 (x_wa_ne w130 (x_wa_ne w126 (x_wa_ne w122 (x_wa_ne w116 (x_wa_ne w109 (x_wa_ne w104 (x_wa_ne w99 (x_wa_ne w95 (x_wa_ne w90 (x_wa_ne w86 (x_wa_ne w81 (x_wa_ne w76 (x_wa_ne w69 (x_wa_ne w61 (x_wa_ne w53 (x_wa_ne w46 (x_wa_ne w37 (x_wa_ne w33 (x_wa_ne w26 (x_wa_ne w22 (x_wa_ne w16 (x_wa_ne w12 b790 (x_nb rfl)) (x_nb rfl)) (x_nb rfl)) (x_nb rfl)) (x_nb rfl)) (x_nb rfl)) (x_nb rfl)) (x_nb rfl)) (x_nb rfl)) (x_nb rfl)) (x_nb rfl)) (x_nb rfl)) (x_nb rfl)) (x_nb rfl)) (x_nb rfl)) (x_nb rfl)) (x_nb rfl)) (x_nb rfl)) (x_nb rfl)) (x_nb rfl)) (x_nb rfl)) (x_nb rfl)) (x_nb rfl)) (x_nb rfl)) (x_nb rfl)) (x_nb rfl)) (x_nb rfl)) (x_nb rfl)) (x_nb rfl)) (x_nb rfl)) (x_nb rfl)) (x_nb rfl)) (x_nb rfl)) (x_nb rfl)) (x_nb rfl)) (x_nb rfl)) (x_nb rfl)) (x_nb rfl)) (x_nb rfl)) (x_nb rfl)) (x_nb rfl)) (x_nb rfl)) (x_nb rfl)) (x_nb rfl)) (x_nb rfl)) (x_nb rfl)) (x_nb rfl)
            refine g_aa (i := 0) (a := 3) (n := 12) (v := 119) rfl g791 (by decide) (x_at (x_f3 hF) (k := 0) rfl) ?_
            have b792 : x_obj (x_W fi fl fr) 119 = some (10, [.ref 120, .ref 122, .int 402, .int 0, .int 0, .int 0, .int 0, .int 0, .int 0, .int 0, .int 0, .int 0]) := rfl
            have g793 := x_wo_ne w787 (x_wo_ne w781 (x_wo_ne w280 (x_wo_ne w274 (x_wo_ne w269 (x_wo_ne w265 (x_wo_ne w257 (x_wo_ne w253 (x_wo_ne w245 (x_wo_ne w236 (x_wo_ne w232 (x_wo_ne w228 (x_wo_ne w224 (x_wo_ne w219 (x_wo_ne w209 (x_wo_ne w199 (x_wo_ne w189 (x_wo_ne w179 (x_wo_ne w169 (x_wo_ne w159 (x_wo_ne w155 (x_wo_ne w148 (x_wo_ne w144 (x_wo_ne w138 (x_wo_ne w134 (x_wo_ne w130 (x_wo_ne w126 (x_wo_ne w122 (x_wo_ne w116 (x_wo_ne w109 (x_wo_ne w104 (x_wo_ne w99 (x_wo_ne w95 (x_wo_ne w90 (x_wo_ne w86 (x_wo_ne w81 (x_wo_ne w76 (x_wo_ne w69 (x_wo_ne w61 (x_wo_ne w53 (x_wo_ne w46 (x_wo_ne w37 (x_wo_ne w33 (x_wo_ne w26 (x_wo_ne w22 (x_wo_ne w16 (x_wo_ne w12 b792 (x_nb rfl)) (x_nb rfl)) (x_nb rfl)) (x_nb rfl)) (x_nb rfl)) (x_nb rfl)) (x_nb rfl)) (x_nb rfl)) (x_nb rfl)) (x_nb rfl)) (x_nb rfl)) (x_nb rfl)) (x_nb rfl)) (x_nb rfl)) (x_nb rfl)) (x_nb rfl)) (x_nb rfl)) (x_nb rfl)) (x_nb rfl)) (x_nb rfl)) (x_nb rfl)) (x_nb rfl)) (x_nb rfl)) (x_nb rfl)) (x_nb rfl)) (x_nb rfl)) (x_nb rfl)) (x_nb rfl)) (x_nb rfl)) (x_nb rfl)) (x_nb rfl)) (x_nb rfl)) (x_nb rfl)) (x_nb rfl)) (x_nb rfl)) (x_nb rfl)) (x_nb rfl)) (x_nb rfl)) (x_nb rfl)) (x_nb rfl)) (x_nb rfl)) (x_nb rfl)) (x_nb rfl)) (x_nb rfl)) (x_nb rfl)) (x_nb rfl)) (x_nb rfl)
            refine g_get (i := 189) (kd := 0) (ci := 10) (k := 6) (tc := 0) (v := .int 0) rfl rfl (Or.inl (by decide)) g793 rfl ?_
            refine g_n 8 (pc' := 100) (L' := [some (.ref 0), some (.int 2), some (.ref 73), some (.int 1)]) (st' := [.ref 0]) rfl ?_
            refine g_get (i := 48) (kd := 1) (ci := 11) (k := 3) (tc := 3) (v := .ref 3) rfl rfl (Or.inl (by decide)) g789 rfl ?_
            refine g_n 1 (pc' := 104) (L' := [some (.ref 0), some (.int 2), some (.ref 73), some (.int 1)]) (st' := [.int 1, .ref 3]) rfl ?_
            refine g_aa (i := 1) (a := 3) (n := 12) (v := 124) rfl g791 (by decide) (x_at (x_f3 hF) (k := 1) rfl) ?_
            have b794 : x_obj (x_W fi fl fr) 124 = some (10, [.ref 125, .ref 127, .int 402, .int 0, .int 0, .int 0, .int 0, .int 0, .int 0, .int 0, .int 0, .int 0]) := rfl
            have g795 := x_wo_ne w787 (x_wo_ne w781 (x_wo_ne w280 (x_wo_ne w274 (x_wo_ne w269 (x_wo_ne w265 (x_wo_ne w257 (x_wo_ne w253 (x_wo_ne w245 (x_wo_ne w236 (x_wo_ne w232 (x_wo_ne w228 (x_wo_ne w224 (x_wo_ne w219 (x_wo_ne w209 (x_wo_ne w199 (x_wo_ne w189 (x_wo_ne w179 (x_wo_ne w169 (x_wo_ne w159 (x_wo_ne w155 (x_wo_ne w148 (x_wo_ne w144 (x_wo_ne w138 (x_wo_ne w134 (x_wo_ne w130 (x_wo_ne w126 (x_wo_ne w122 (x_wo_ne w116 (x_wo_ne w109 (x_wo_ne w104 (x_wo_ne w99 (x_wo_ne w95 (x_wo_ne w90 (x_wo_ne w86 (x_wo_ne w81 (x_wo_ne w76 (x_wo_ne w69 (x_wo_ne w61 (x_wo_ne w53 (x_wo_ne w46 (x_wo_ne w37 (x_wo_ne w33 (x_wo_ne w26 (x_wo_ne w22 (x_wo_ne w16 (x_wo_ne w12 b794 (x_nb rfl)) (x_nb rfl)) (x_nb rfl)) (x_nb rfl)) (x_nb rfl)) (x_nb rfl)) (x_nb rfl)) (x_nb rfl)) (x_nb rfl)) (x_nb rfl)) (x_nb rfl)) (x_nb rfl)) (x_nb rfl)) (x_nb rfl)) (x_nb rfl)) (x_nb rfl)) (x_nb rfl)) (x_nb rfl)) (x_nb rfl)) (x_nb rfl)) (x_nb rfl)) (x_nb rfl)) (x_nb rfl)) (x_nb rfl)) (x_nb rfl)) (x_nb rfl)) (x_nb rfl)) (x_nb rfl)) (x_nb rfl)) (x_nb rfl)) (x_nb rfl)) (x_nb rfl)) (x_nb rfl)) (x_nb rfl)) (x_nb rfl)) (x_nb rfl)) (x_nb rfl)) (x_nb rfl)) (x_nb rfl)) (x_nb rfl)) (x_nb rfl)) (x_nb rfl)) (x_nb rfl)) (x_nb rfl)) (x_nb rfl)) (x_nb rfl)) (x_nb rfl)
            refine g_get (i := 189) (kd := 0) (ci := 10) (k := 6) (tc := 0) (v := .int 0) rfl rfl (Or.inl (by decide)) g795 rfl ?_
            refine g_n 8 (pc' := 100) (L' := [some (.ref 0), some (.int 2), some (.ref 73), some (.int 2)]) (st' := [.ref 0]) rfl ?_
            refine g_get (i := 48) (kd := 1) (ci := 11) (k := 3) (tc := 3) (v := .ref 3) rfl rfl (Or.inl (by decide)) g789 rfl ?_
            refine g_n 1 (pc' := 104) (L' := [some (.ref 0), some (.int 2), some (.ref 73), some (.int 2)]) (st' := [.int 2, .ref 3]) rfl ?_
            refine g_aa (i := 2) (a := 3) (n := 12) (v := 129) rfl g791 (by decide) (x_at (x_f3 hF) (k := 2) rfl) ?_
            have b796 : x_obj (x_W fi fl fr) 129 = some (10, [.ref 130, .ref 132, .int 402, .int 0, .int 0, .int 0, .int 0, .int 0, .int 0, .int 0, .int 0, .int 0]) := rfl
            have g797 := x_wo_ne w787 (x_wo_ne w781 (x_wo_ne w280 (x_wo_ne w274 (x_wo_ne w269 (x_wo_ne w265 (x_wo_ne w257 (x_wo_ne w253 (x_wo_ne w245 (x_wo_ne w236 (x_wo_ne w232 (x_wo_ne w228 (x_wo_ne w224 (x_wo_ne w219 (x_wo_ne w209 (x_wo_ne w199 (x_wo_ne w189 (x_wo_ne w179 (x_wo_ne w169 (x_wo_ne w159 (x_wo_ne w155 (x_wo_ne w148 (x_wo_ne w144 (x_wo_ne w138 (x_wo_ne w134 (x_wo_ne w130 (x_wo_ne w126 (x_wo_ne w122 (x_wo_ne w116 (x_wo_ne w109 (x_wo_ne w104 (x_wo_ne w99 (x_wo_ne w95 (x_wo_ne w90 (x_wo_ne w86 (x_wo_ne w81 (x_wo_ne w76 (x_wo_ne w69 (x_wo_ne w61 (x_wo_ne w53 (x_wo_ne w46 (x_wo_ne w37 (x_wo_ne w33 (x_wo_ne w26 (x_wo_ne w22 (x_wo_ne w16 (x_wo_ne w12 b796 (x_nb rfl)) (x_nb rfl)) (x_nb rfl)) (x_nb rfl)) (x_nb rfl)) (x_nb rfl)) (x_nb rfl)) (x_nb rfl)) (x_nb rfl)) (x_nb rfl)) (x_nb rfl)) (x_nb rfl)) (x_nb rfl)) (x_nb rfl)) (x_nb rfl)) (x_nb rfl)) (x_nb rfl)) (x_nb rfl)) (x_nb rfl)) (x_nb rfl)) (x_nb rfl)) (x_nb rfl)) (x_nb rfl)) (x_nb rfl)) (x_nb rfl)) (x_nb rfl)) (x_nb rfl)) (x_nb rfl)) (x_nb rfl)) (x_nb rfl)) (x_nb rfl)) (x_nb rfl)) (x_nb rfl)) (x_nb rfl)) (x_nb rfl)) (x_nb rfl)) (x_nb rfl)) (x_nb rfl)) (x_nb rfl)) (x_nb rfl)) (x_nb rfl)) (x_nb rfl)) (x_nb rfl)) (x_nb rfl)) (x_nb rfl)) (x_nb rfl)) (x_nb rfl)
            refine g_get (i := 189) (kd := 0) (ci := 10) (k := 6) (tc := 0) (v := .int 0) rfl rfl (Or.inl (by decide)) g797 rfl ?_
            refine g_n 8 (pc' := 100) (L' := [some (.ref 0), some (.int 2), some (.ref 73), some (.int 3)]) (st' := [.ref 0]) rfl ?_
            refine g_get (i := 48) (kd := 1) (ci := 11) (k := 3) (tc := 3) (v := .ref 3) rfl rfl (Or.inl (by decide)) g789 rfl ?_
            refine g_n 1 (pc' := 104) (L' := [some (.ref 0), some (.int 2), some (.ref 73), some (.int 3)]) (st' := [.int 3, .ref 3]) rfl ?_
            refine g_aa (i := 3) (a := 3) (n := 12) (v := 134) rfl g791 (by decide) (x_at (x_f3 hF) (k := 3) rfl) ?_
            have b798 : x_obj (x_W fi fl fr) 134 = some (10, [.ref 135, .ref 137, .int 402, .int 0, .int 0, .int 0, .int 0, .int 0, .int 0, .int 0, .int 0, .int 0]) := rfl
            have g799 := x_wo_ne w787 (x_wo_ne w781 (x_wo_ne w280 (x_wo_ne w274 (x_wo_ne w269 (x_wo_ne w265 (x_wo_ne w257 (x_wo_ne w253 (x_wo_ne w245 (x_wo_ne w236 (x_wo_ne w232 (x_wo_ne w228 (x_wo_ne w224 (x_wo_ne w219 (x_wo_ne w209 (x_wo_ne w199 (x_wo_ne w189 (x_wo_ne w179 (x_wo_ne w169 (x_wo_ne w159 (x_wo_ne w155 (x_wo_ne w148 (x_wo_ne w144 (x_wo_ne w138 (x_wo_ne w134 (x_wo_ne w130 (x_wo_ne w126 (x_wo_ne w122 (x_wo_ne w116 (x_wo_ne w109 (x_wo_ne w104 (x_wo_ne w99 (x_wo_ne w95 (x_wo_ne w90 (x_wo_ne w86 (x_wo_ne w81 (x_wo_ne w76 (x_wo_ne w69 (x_wo_ne w61 (x_wo_ne w53 (x_wo_ne w46 (x_wo_ne w37 (x_wo_ne w33 (x_wo_ne w26 (x_wo_ne w22 (x_wo_ne w16 (x_wo_ne w12 b798 (x_nb rfl)) (x_nb rfl)) (x_nb rfl)) (x_nb rfl)) (x_nb rfl)) (x_nb rfl)) (x_nb rfl)) (x_nb rfl)) (x_nb rfl)) (x_nb rfl)) (x_nb rfl)) (x_nb rfl)) (x_nb rfl)) (x_nb rfl)) (x_nb rfl)) (x_nb rfl)) (x_nb rfl)) (x_nb rfl)) (x_nb rfl)) (x_nb rfl)) (x_nb rfl)) (x_nb rfl)) (x_nb rfl)) (x_nb rfl)) (x_nb rfl)) (x_nb rfl)) (x_nb rfl)) (x_nb rfl)) (x_nb rfl)) (x_nb rfl)) (x_nb rfl)) (x_nb rfl)) (x_nb rfl)) (x_nb rfl)) (x_nb rfl)) (x_nb rfl)) (x_nb rfl)) (x_nb rfl)) (x_nb rfl)) (x_nb rfl)) (x_nb rfl)) (x_nb rfl)) (x_nb rfl)) (x_nb rfl)) (x_nb rfl)) (x_nb rfl)) (x_nb rfl)
            refine g_get (i := 189) (kd := 0) (ci := 10) (k := 6) (tc := 0) (v := .int 0) rfl rfl (Or.inl (by decide)) g799 rfl ?_
            refine g_n 8 (pc' := 100) (L' := [some (.ref 0), some (.int 2), some (.ref 73), some (.int 4)]) (st' := [.ref 0]) rfl ?_
            refine g_get (i := 48) (kd := 1) (ci := 11) (k := 3) (tc := 3) (v := .ref 3) rfl rfl (Or.inl (by decide)) g789 rfl ?_
            refine g_n 1 (pc' := 104) (L' := [some (.ref 0), some (.int 2), some (.ref 73), some (.int 4)]) (st' := [.int 4, .ref 3]) rfl ?_
            refine g_aa (i := 4) (a := 3) (n := 12) (v := 139) rfl g791 (by decide) (x_at (x_f3 hF) (k := 4) rfl) ?_
            have b800 : x_obj (x_W fi fl fr) 139 = some (10, [.ref 140, .ref 142, .int 402, .int 0, .int 0, .int 0, .int 0, .int 0, .int 0, .int 0, .int 0, .int 0]) := rfl
            have g801 := x_wo_ne w787 (x_wo_ne w781 (x_wo_ne w280 (x_wo_ne w274 (x_wo_ne w269 (x_wo_ne w265 (x_wo_ne w257 (x_wo_ne w253 (x_wo_ne w245 (x_wo_ne w236 (x_wo_ne w232 (x_wo_ne w228 (x_wo_ne w224 (x_wo_ne w219 (x_wo_ne w209 (x_wo_ne w199 (x_wo_ne w189 (x_wo_ne w179 (x_wo_ne w169 (x_wo_ne w159 (x_wo_ne w155 (x_wo_ne w148 (x_wo_ne w144 (x_wo_ne w138 (x_wo_ne w134 (x_wo_ne w130 (x_wo_ne w126 (x_wo_ne w122 (x_wo_ne w116 (x_wo_ne w109 (x_wo_ne w104 (x_wo_ne w99 (x_wo_ne w95 (x_wo_ne w90 (x_wo_ne w86 (x_wo_ne w81 (x_wo_ne w76 (x_wo_ne w69 (x_wo_ne w61 (x_wo_ne w53 (x_wo_ne w46 (x_wo_ne w37 (x_wo_ne w33 (x_wo_ne w26 (x_wo_ne w22 (x_wo_ne w16 (x_wo_ne w12 b800 (x_nb rfl)) (x_nb rfl)) (x_nb rfl)) (x_nb rfl)) (x_nb rfl)) (x_nb rfl)) (x_nb rfl)) (x_nb rfl)) (x_nb rfl)) (x_nb rfl)) (x_nb rfl)) (x_nb rfl)) (x_nb rfl)) (x_nb rfl)) (x_nb rfl)) (x_nb rfl)) (x_nb rfl)) (x_nb rfl)) (x_nb rfl)) (x_nb rfl)) (x_nb rfl)) (x_nb rfl)) (x_nb rfl)) (x_nb rfl)) (x_nb rfl)) (x_nb rfl)) (x_nb rfl)) (x_nb rfl)) (x_nb rfl)) (x_nb rfl)) (x_nb rfl)) (x_nb rfl)) (x_nb rfl)) (x_nb rfl)) (x_nb rfl)) (x_nb rfl)) (x_nb rfl)) (x_nb rfl)) (x_nb rfl)) (x_nb rfl)) (x_nb rfl)) (x_nb rfl)) (x_nb rfl)) (x_nb rfl)) (x_nb rfl)) (x_nb rfl)) (x_nb rfl)
            refine g_get (i := 189) (kd := 0) (ci := 10) (k := 6) (tc := 0) (v := .int 0) rfl rfl (Or.inl (by decide)) g801 rfl ?_
            refine g_n 8 (pc' := 100) (L' := [some (.ref 0), some (.int 2), some (.ref 73), some (.int 5)]) (st' := [.ref 0]) rfl ?_
            refine g_get (i := 48) (kd := 1) (ci := 11) (k := 3) (tc := 3) (v := .ref 3) rfl rfl (Or.inl (by decide)) g789 rfl ?_
            refine g_n 1 (pc' := 104) (L' := [some (.ref 0), some (.int 2), some (.ref 73), some (.int 5)]) (st' := [.int 5, .ref 3]) rfl ?_
            refine g_aa (i := 5) (a := 3) (n := 12) (v := 144) rfl g791 (by decide) (x_at (x_f3 hF) (k := 5) rfl) ?_
            have b802 : x_obj (x_W fi fl fr) 144 = some (10, [.ref 145, .ref 147, .int 402, .int 0, .int 0, .int 0, .int 0, .int 0, .int 0, .int 0, .int 0, .int 0]) := rfl
            have g803 := x_wo_ne w787 (x_wo_ne w781 (x_wo_ne w280 (x_wo_ne w274 (x_wo_ne w269 (x_wo_ne w265 (x_wo_ne w257 (x_wo_ne w253 (x_wo_ne w245 (x_wo_ne w236 (x_wo_ne w232 (x_wo_ne w228 (x_wo_ne w224 (x_wo_ne w219 (x_wo_ne w209 (x_wo_ne w199 (x_wo_ne w189 (x_wo_ne w179 (x_wo_ne w169 (x_wo_ne w159 (x_wo_ne w155 (x_wo_ne w148 (x_wo_ne w144 (x_wo_ne w138 (x_wo_ne w134 (x_wo_ne w130 (x_wo_ne w126 (x_wo_ne w122 (x_wo_ne w116 (x_wo_ne w109 (x_wo_ne w104 (x_wo_ne w99 (x_wo_ne w95 (x_wo_ne w90 (x_wo_ne w86 (x_wo_ne w81 (x_wo_ne w76 (x_wo_ne w69 (x_wo_ne w61 (x_wo_ne w53 (x_wo_ne w46 (x_wo_ne w37 (x_wo_ne w33 (x_wo_ne w26 (x_wo_ne w22 (x_wo_ne w16 (x_wo_ne w12 b802 (x_nb rfl)) (x_nb rfl)) (x_nb rfl)) (x_nb rfl)) (x_nb rfl)) (x_nb rfl)) (x_nb rfl)) (x_nb rfl)) (x_nb rfl)) (x_nb rfl)) (x_nb rfl)) (x_nb rfl)) (x_nb rfl)) (x_nb rfl)) (x_nb rfl)) (x_nb rfl)) (x_nb rfl)) (x_nb rfl)) (x_nb rfl)) (x_nb rfl)) (x_nb rfl)) (x_nb rfl)) (x_nb rfl)) (x_nb rfl)) (x_nb rfl)) (x_nb rfl)) (x_nb rfl)) (x_nb rfl)) (x_nb rfl)) (x_nb rfl)) (x_nb rfl)) (x_nb rfl)) (x_nb rfl)) (x_nb rfl)) (x_nb rfl)) (x_nb rfl)) (x_nb rfl)) (x_nb rfl)) (x_nb rfl)) (x_nb rfl)) (x_nb rfl)) (x_nb rfl)) (x_nb rfl)) (x_nb rfl)) (x_nb rfl)) (x_nb rfl)) (x_nb rfl)
            refine g_get (i := 189) (kd := 0) (ci := 10) (k := 6) (tc := 0) (v := .int 0) rfl rfl (Or.inl (by decide)) g803 rfl ?_
            refine g_n 8 (pc' := 100) (L' := [some (.ref 0), some (.int 2), some (.ref 73), some (.int 6)]) (st' := [.ref 0]) rfl ?_
            refine g_get (i := 48) (kd := 1) (ci := 11) (k := 3) (tc := 3) (v := .ref 3) rfl rfl (Or.inl (by decide)) g789 rfl ?_
            refine g_n 1 (pc' := 104) (L' := [some (.ref 0), some (.int 2), some (.ref 73), some (.int 6)]) (st' := [.int 6, .ref 3]) rfl ?_
            refine g_aa (i := 6) (a := 3) (n := 12) (v := 149) rfl g791 (by decide) (x_at (x_f3 hF) (k := 6) rfl) ?_
            have b804 : x_obj (x_W fi fl fr) 149 = some (10, [.ref 150, .ref 152, .int 402, .int 0, .int 0, .int 0, .int 0, .int 0, .int 0, .int 0, .int 0, .int 0]) := rfl
            have g805 := x_wo_ne w787 (x_wo_ne w781 (x_wo_ne w280 (x_wo_ne w274 (x_wo_ne w269 (x_wo_ne w265 (x_wo_ne w257 (x_wo_ne w253 (x_wo_ne w245 (x_wo_ne w236 (x_wo_ne w232 (x_wo_ne w228 (x_wo_ne w224 (x_wo_ne w219 (x_wo_ne w209 (x_wo_ne w199 (x_wo_ne w189 (x_wo_ne w179 (x_wo_ne w169 (x_wo_ne w159 (x_wo_ne w155 (x_wo_ne w148 (x_wo_ne w144 (x_wo_ne w138 (x_wo_ne w134 (x_wo_ne w130 (x_wo_ne w126 (x_wo_ne w122 (x_wo_ne w116 (x_wo_ne w109 (x_wo_ne w104 (x_wo_ne w99 (x_wo_ne w95 (x_wo_ne w90 (x_wo_ne w86 (x_wo_ne w81 (x_wo_ne w76 (x_wo_ne w69 (x_wo_ne w61 (x_wo_ne w53 (x_wo_ne w46 (x_wo_ne w37 (x_wo_ne w33 (x_wo_ne w26 (x_wo_ne w22 (x_wo_ne w16 (x_wo_ne w12 b804 (x_nb rfl)) (x_nb rfl)) (x_nb rfl)) (x_nb rfl)) (x_nb rfl)) (x_nb rfl)) (x_nb rfl)) (x_nb rfl)) (x_nb rfl)) (x_nb rfl)) (x_nb rfl)) (x_nb rfl)) (x_nb rfl)) (x_nb rfl)) (x_nb rfl)) (x_nb rfl)) (x_nb rfl)) (x_nb rfl)) (x_nb rfl)) (x_nb rfl)) (x_nb rfl)) (x_nb rfl)) (x_nb rfl)) (x_nb rfl)) (x_nb rfl)) (x_nb rfl)) (x_nb rfl)) (x_nb rfl)) (x_nb rfl)) (x_nb rfl)) (x_nb rfl)) (x_nb rfl)) (x_nb rfl)) (x_nb rfl)) (x_nb rfl)) (x_nb rfl)) (x_nb rfl)) (x_nb rfl)) (x_nb rfl)) (x_nb rfl)) (x_nb rfl)) (x_nb rfl)) (x_nb rfl)) (x_nb rfl)) (x_nb rfl)) (x_nb rfl)) (x_nb rfl)
            refine g_get (i := 189) (kd := 0) (ci := 10) (k := 6) (tc := 0) (v := .int 0) rfl rfl (Or.inl (by decide)) g805 rfl ?_
            refine g_n 8 (pc' := 100) (L' := [some (.ref 0), some (.int 2), some (.ref 73), some (.int 7)]) (st' := [.ref 0]) rfl ?_
            refine g_get (i := 48) (kd := 1) (ci := 11) (k := 3) (tc := 3) (v := .ref 3) rfl rfl (Or.inl (by decide)) g789 rfl ?_
            refine g_n 1 (pc' := 104) (L' := [some (.ref 0), some (.int 2), some (.ref 73), some (.int 7)]) (st' := [.int 7, .ref 3]) rfl ?_
            refine g_aa (i := 7) (a := 3) (n := 12) (v := 154) rfl g791 (by decide) (x_at (x_f3 hF) (k := 7) rfl) ?_
            have b806 : x_obj (x_W fi fl fr) 154 = some (10, [.ref 155, .ref 157, .int 402, .int 0, .int 0, .int 0, .int 0, .int 0, .int 0, .int 0, .int 0, .int 0]) := rfl
            have g807 := x_wo_ne w787 (x_wo_ne w781 (x_wo_ne w280 (x_wo_ne w274 (x_wo_ne w269 (x_wo_ne w265 (x_wo_ne w257 (x_wo_ne w253 (x_wo_ne w245 (x_wo_ne w236 (x_wo_ne w232 (x_wo_ne w228 (x_wo_ne w224 (x_wo_ne w219 (x_wo_ne w209 (x_wo_ne w199 (x_wo_ne w189 (x_wo_ne w179 (x_wo_ne w169 (x_wo_ne w159 (x_wo_ne w155 (x_wo_ne w148 (x_wo_ne w144 (x_wo_ne w138 (x_wo_ne w134 (x_wo_ne w130 (x_wo_ne w126 (x_wo_ne w122 (x_wo_ne w116 (x_wo_ne w109 (x_wo_ne w104 (x_wo_ne w99 (x_wo_ne w95 (x_wo_ne w90 (x_wo_ne w86 (x_wo_ne w81 (x_wo_ne w76 (x_wo_ne w69 (x_wo_ne w61 (x_wo_ne w53 (x_wo_ne w46 (x_wo_ne w37 (x_wo_ne w33 (x_wo_ne w26 (x_wo_ne w22 (x_wo_ne w16 (x_wo_ne w12 b806 (x_nb rfl)) (x_nb rfl)) (x_nb rfl)) (x_nb rfl)) (x_nb rfl)) (x_nb rfl)) (x_nb rfl)) (x_nb rfl)) (x_nb rfl)) (x_nb rfl)) (x_nb rfl)) (x_nb rfl)) (x_nb rfl)) (x_nb rfl)) (x_nb rfl)) (x_nb rfl)) (x_nb rfl)) (x_nb rfl)) (x_nb rfl)) (x_nb rfl)) (x_nb rfl)) (x_nb rfl)) (x_nb rfl)) (x_nb rfl)) (x_nb rfl)) (x_nb rfl)) (x_nb rfl)) (x_nb rfl)) (x_nb rfl)) (x_nb rfl)) (x_nb rfl)) (x_nb rfl)) (x_nb rfl)) (x_nb rfl)) (x_nb rfl)) (x_nb rfl)) (x_nb rfl)) (x_nb rfl)) (x_nb rfl)) (x_nb rfl)) (x_nb rfl)) (x_nb rfl)) (x_nb rfl)) (x_nb rfl)) (x_nb rfl)) (x_nb rfl)) (x_nb rfl)
            refine g_get (i := 189) (kd := 0) (ci := 10) (k := 6) (tc := 0) (v := .int 0) rfl rfl (Or.inl (by decide)) g807 rfl ?_
            refine g_n 8 (pc' := 100) (L' := [some (.ref 0), some (.int 2), some (.ref 73), some (.int 8)]) (st' := [.ref 0]) rfl ?_
            refine g_get (i := 48) (kd := 1) (ci := 11) (k := 3) (tc := 3) (v := .ref 3) rfl rfl (Or.inl (by decide)) g789 rfl ?_
            refine g_n 1 (pc' := 104) (L' := [some (.ref 0), some (.int 2), some (.ref 73), some (.int 8)]) (st' := [.int 8, .ref 3]) rfl ?_
            refine g_aa (i := 8) (a := 3) (n := 12) (v := 159) rfl g791 (by decide) (x_at (x_f3 hF) (k := 8) rfl) ?_
            have b808 : x_obj (x_W fi fl fr) 159 = some (10, [.ref 160, .ref 162, .int 402, .int 0, .int 0, .int 0, .int 0, .int 0, .int 0, .int 0, .int 0, .int 0]) := rfl
            have g809 := x_wo_ne w787 (x_wo_ne w781 (x_wo_ne w280 (x_wo_ne w274 (x_wo_ne w269 (x_wo_ne w265 (x_wo_ne w257 (x_wo_ne w253 (x_wo_ne w245 (x_wo_ne w236 (x_wo_ne w232 (x_wo_ne w228 (x_wo_ne w224 (x_wo_ne w219 (x_wo_ne w209 (x_wo_ne w199 (x_wo_ne w189 (x_wo_ne w179 (x_wo_ne w169 (x_wo_ne w159 (x_wo_ne w155 (x_wo_ne w148 (x_wo_ne w144 (x_wo_ne w138 (x_wo_ne w134 (x_wo_ne w130 (x_wo_ne w126 (x_wo_ne w122 (x_wo_ne w116 (x_wo_ne w109 (x_wo_ne w104 (x_wo_ne w99 (x_wo_ne w95 (x_wo_ne w90 (x_wo_ne w86 (x_wo_ne w81 (x_wo_ne w76 (x_wo_ne w69 (x_wo_ne w61 (x_wo_ne w53 (x_wo_ne w46 (x_wo_ne w37 (x_wo_ne w33 (x_wo_ne w26 (x_wo_ne w22 (x_wo_ne w16 (x_wo_ne w12 b808 (x_nb rfl)) (x_nb rfl)) (x_nb rfl)) (x_nb rfl)) (x_nb rfl)) (x_nb rfl)) (x_nb rfl)) (x_nb rfl)) (x_nb rfl)) (x_nb rfl)) (x_nb rfl)) (x_nb rfl)) (x_nb rfl)) (x_nb rfl)) (x_nb rfl)) (x_nb rfl)) (x_nb rfl)) (x_nb rfl)) (x_nb rfl)) (x_nb rfl)) (x_nb rfl)) (x_nb rfl)) (x_nb rfl)) (x_nb rfl)) (x_nb rfl)) (x_nb rfl)) (x_nb rfl)) (x_nb rfl)) (x_nb rfl)) (x_nb rfl)) (x_nb rfl)) (x_nb rfl)) (x_nb rfl)) (x_nb rfl)) (x_nb rfl)) (x_nb rfl)) (x_nb rfl)) (x_nb rfl)) (x_nb rfl)) (x_nb rfl)) (x_nb rfl)) (x_nb rfl)) (x_nb rfl)) (x_nb rfl)) (x_nb rfl)) (x_nb rfl)) (x_nb rfl)
            refine g_get (i := 189) (kd := 0) (ci := 10) (k := 6) (tc := 0) (v := .int 0) rfl rfl (Or.inl (by decide)) g809 rfl ?_
            refine g_n 8 (pc' := 100) (L' := [some (.ref 0), some (.int 2), some (.ref 73), some (.int 9)]) (st' := [.ref 0]) rfl ?_
            refine g_get (i := 48) (kd := 1) (ci := 11) (k := 3) (tc := 3) (v := .ref 3) rfl rfl (Or.inl (by decide)) g789 rfl ?_
            refine g_n 1 (pc' := 104) (L' := [some (.ref 0), some (.int 2), some (.ref 73), some (.int 9)]) (st' := [.int 9, .ref 3]) rfl ?_
            refine g_aa (i := 9) (a := 3) (n := 12) (v := 164) rfl g791 (by decide) (x_at (x_f3 hF) (k := 9) rfl) ?_
            have b810 : x_obj (x_W fi fl fr) 164 = some (10, [.ref 165, .ref 167, .int 402, .int 0, .int 0, .int 0, .int 0, .int 0, .int 0, .int 0, .int 0, .int 0]) := rfl
            have g811 := x_wo_ne w787 (x_wo_ne w781 (x_wo_ne w280 (x_wo_ne w274 (x_wo_ne w269 (x_wo_ne w265 (x_wo_ne w257 (x_wo_ne w253 (x_wo_ne w245 (x_wo_ne w236 (x_wo_ne w232 (x_wo_ne w228 (x_wo_ne w224 (x_wo_ne w219 (x_wo_ne w209 (x_wo_ne w199 (x_wo_ne w189 (x_wo_ne w179 (x_wo_ne w169 (x_wo_ne w159 (x_wo_ne w155 (x_wo_ne w148 (x_wo_ne w144 (x_wo_ne w138 (x_wo_ne w134 (x_wo_ne w130 (x_wo_ne w126 (x_wo_ne w122 (x_wo_ne w116 (x_wo_ne w109 (x_wo_ne w104 (x_wo_ne w99 (x_wo_ne w95 (x_wo_ne w90 (x_wo_ne w86 (x_wo_ne w81 (x_wo_ne w76 (x_wo_ne w69 (x_wo_ne w61 (x_wo_ne w53 (x_wo_ne w46 (x_wo_ne w37 (x_wo_ne w33 (x_wo_ne w26 (x_wo_ne w22 (x_wo_ne w16 (x_wo_ne w12 b810 (x_nb rfl)) (x_nb rfl)) (x_nb rfl)) (x_nb rfl)) (x_nb rfl)) (x_nb rfl)) (x_nb rfl)) (x_nb rfl)) (x_nb rfl)) (x_nb rfl)) (x_nb rfl)) (x_nb rfl)) (x_nb rfl)) (x_nb rfl)) (x_nb rfl)) (x_nb rfl)) (x_nb rfl)) (x_nb rfl)) (x_nb rfl)) (x_nb rfl)) (x_nb rfl)) (x_nb rfl)) (x_nb rfl)) (x_nb rfl)) (x_nb rfl)) (x_nb rfl)) (x_nb rfl)) (x_nb rfl)) (x_nb rfl)) (x_nb rfl)) (x_nb rfl)) (x_nb rfl)) (x_nb rfl)) (x_nb rfl)) (x_nb rfl)) (x_nb rfl)) (x_nb rfl)) (x_nb rfl)) (x_nb rfl)) (x_nb rfl)) (x_nb rfl)) (x_nb rfl)) (x_nb rfl)) (x_nb rfl)) (x_nb rfl)) (x_nb rfl)) (x_nb rfl)
            refine g_get (i := 189) (kd := 0) (ci := 10) (k := 6) (tc := 0) (v := .int 0) rfl rfl (Or.inl (by decide)) g811 rfl ?_
            refine g_n 8 (pc' := 100) (L' := [some (.ref 0), some (.int 2), some (.ref 73), some (.int 10)]) (st' := [.ref 0]) rfl ?_
            refine g_get (i := 48) (kd := 1) (ci := 11) (k := 3) (tc := 3) (v := .ref 3) rfl rfl (Or.inl (by decide)) g789 rfl ?_
            refine g_n 1 (pc' := 104) (L' := [some (.ref 0), some (.int 2), some (.ref 73), some (.int 10)]) (st' := [.int 10, .ref 3]) rfl ?_
            refine g_aa (i := 10) (a := 3) (n := 12) (v := 169) rfl g791 (by decide) (x_at (x_f3 hF) (k := 10) rfl) ?_
            have b812 : x_obj (x_W fi fl fr) 169 = some (10, [.ref 170, .ref 172, .int 402, .int 0, .int 0, .int 0, .int 0, .int 0, .int 0, .int 0, .int 0, .int 0]) := rfl
            have g813 := x_wo_ne w787 (x_wo_ne w781 (x_wo_ne w280 (x_wo_ne w274 (x_wo_ne w269 (x_wo_ne w265 (x_wo_ne w257 (x_wo_ne w253 (x_wo_ne w245 (x_wo_ne w236 (x_wo_ne w232 (x_wo_ne w228 (x_wo_ne w224 (x_wo_ne w219 (x_wo_ne w209 (x_wo_ne w199 (x_wo_ne w189 (x_wo_ne w179 (x_wo_ne w169 (x_wo_ne w159 (x_wo_ne w155 (x_wo_ne w148 (x_wo_ne w144 (x_wo_ne w138 (x_wo_ne w134 (x_wo_ne w130 (x_wo_ne w126 (x_wo_ne w122 (x_wo_ne w116 (x_wo_ne w109 (x_wo_ne w104 (x_wo_ne w99 (x_wo_ne w95 (x_wo_ne w90 (x_wo_ne w86 (x_wo_ne w81 (x_wo_ne w76 (x_wo_ne w69 (x_wo_ne w61 (x_wo_ne w53 (x_wo_ne w46 (x_wo_ne w37 (x_wo_ne w33 (x_wo_ne w26 (x_wo_ne w22 (x_wo_ne w16 (x_wo_ne w12 b812 (x_nb rfl)) (x_nb rfl)) (x_nb rfl)) (x_nb rfl)) (x_nb rfl)) (x_nb rfl)) (x_nb rfl)) (x_nb rfl)) (x_nb rfl)) (x_nb rfl)) (x_nb rfl)) (x_nb rfl)) (x_nb rfl)) (x_nb rfl)) (x_nb rfl)) (x_nb rfl)) (x_nb rfl)) (x_nb rfl)) (x_nb rfl)) (x_nb rfl)) (x_nb rfl)) (x_nb rfl)) (x_nb rfl)) (x_nb rfl)) (x_nb rfl)) (x_nb rfl)) (x_nb rfl)) (x_nb rfl)) (x_nb rfl)) (x_nb rfl)) (x_nb rfl)) (x_nb rfl)) (x_nb rfl)) (x_nb rfl)) (x_nb rfl)) (x_nb rfl)) (x_nb rfl)) (x_nb rfl)) (x_nb rfl)) (x_nb rfl)) (x_nb rfl)) (x_nb rfl)) (x_nb rfl)) (x_nb rfl)) (x_nb rfl)) (x_nb rfl)) (x_nb rfl)
            refine g_get (i := 189) (kd := 0) (ci := 10) (k := 6) (tc := 0) (v := .int 0) rfl rfl (Or.inl (by decide)) g813 rfl ?_
            refine g_n 8 (pc' := 100) (L' := [some (.ref 0), some (.int 2), some (.ref 73), some (.int 11)]) (st' := [.ref 0]) rfl ?_
            refine g_get (i := 48) (kd := 1) (ci := 11) (k := 3) (tc := 3) (v := .ref 3) rfl rfl (Or.inl (by decide)) g789 rfl ?_
            refine g_n 1 (pc' := 104) (L' := [some (.ref 0), some (.int 2), some (.ref 73), some (.int 11)]) (st' := [.int 11, .ref 3]) rfl ?_
            refine g_aa (i := 11) (a := 3) (n := 12) (v := 174) rfl g791 (by decide) (x_at (x_f3 hF) (k := 11) rfl) ?_
            have b814 : x_obj (x_W fi fl fr) 174 = some (10, [.ref 175, .ref 177, .int 402, .int 0, .int 0, .int 0, .int 0, .int 0, .int 0, .int 0, .int 0, .int 0]) := rfl
            have g815 := x_wo_ne w787 (x_wo_ne w781 (x_wo_ne w280 (x_wo_ne w274 (x_wo_ne w269 (x_wo_ne w265 (x_wo_ne w257 (x_wo_ne w253 (x_wo_ne w245 (x_wo_ne w236 (x_wo_ne w232 (x_wo_ne w228 (x_wo_ne w224 (x_wo_ne w219 (x_wo_ne w209 (x_wo_ne w199 (x_wo_ne w189 (x_wo_ne w179 (x_wo_ne w169 (x_wo_ne w159 (x_wo_ne w155 (x_wo_ne w148 (x_wo_ne w144 (x_wo_ne w138 (x_wo_ne w134 (x_wo_ne w130 (x_wo_ne w126 (x_wo_ne w122 (x_wo_ne w116 (x_wo_ne w109 (x_wo_ne w104 (x_wo_ne w99 (x_wo_ne w95 (x_wo_ne w90 (x_wo_ne w86 (x_wo_ne w81 (x_wo_ne w76 (x_wo_ne w69 (x_wo_ne w61 (x_wo_ne w53 (x_wo_ne w46 (x_wo_ne w37 (x_wo_ne w33 (x_wo_ne w26 (x_wo_ne w22 (x_wo_ne w16 (x_wo_ne w12 b814 (x_nb rfl)) (x_nb rfl)) (x_nb rfl)) (x_nb rfl)) (x_nb rfl)) (x_nb rfl)) (x_nb rfl)) (x_nb rfl)) (x_nb rfl)) (x_nb rfl)) (x_nb rfl)) (x_nb rfl)) (x_nb rfl)) (x_nb rfl)) (x_nb rfl)) (x_nb rfl)) (x_nb rfl)) (x_nb rfl)) (x_nb rfl)) (x_nb rfl)) (x_nb rfl)) (x_nb rfl)) (x_nb rfl)) (x_nb rfl)) (x_nb rfl)) (x_nb rfl)) (x_nb rfl)) (x_nb rfl)) (x_nb rfl)) (x_nb rfl)) (x_nb rfl)) (x_nb rfl)) (x_nb rfl)) (x_nb rfl)) (x_nb rfl)) (x_nb rfl)) (x_nb rfl)) (x_nb rfl)) (x_nb rfl)) (x_nb rfl)) (x_nb rfl)) (x_nb rfl)) (x_nb rfl)) (x_nb rfl)) (x_nb rfl)) (x_nb rfl)) (x_nb rfl)
            refine g_get (i := 189) (kd := 0) (ci := 10) (k := 6) (tc := 0) (v := .int 0) rfl rfl (Or.inl (by decide)) g815 rfl ?_
            refine g_n 8 (pc' := 129) (L' := [some (.ref 0), some (.int 2), some (.ref 73), some (.int 12)]) (st' := [.ref 0]) rfl ?_
            refine g_get (i := 139) (kd := 1) (ci := 11) (k := 11) (tc := 3) (v := .ref 248) rfl rfl (Or.inl (by decide)) g789 rfl ?_
            refine g_n 1 (pc' := 133) (L' := [some (.ref 0), some (.int 2), some (.ref 73), some (.int 12)]) (st' := [.int 2, .ref 248]) rfl ?_
            have b816 : x_obj (x_W fi fl fr) 248 = some (3, [.ref 249, .ref 251, .int 0, .int 0, .int 0, .int 0, .int (-2), .int 0, .int 0, .ref 253, .ref 255, .ref 257, .ref 259, .ref 261, .ref 262, .ref 264, .ref 266, .ref 268, .int 0, .int 0]) := rfl
            have g817 := x_wo_ne w787 (x_wo_ne w781 (x_wo_ne w280 (x_wo_ne w274 (x_wo_ne w269 (x_wo_ne w265 (x_wo_ne w257 (x_wo_ne w253 (x_wo_ne w245 (x_wo_ne w236 (x_wo_ne w232 (x_wo_ne w228 (x_wo_ne w224 (x_wo_ne w219 (x_wo_ne w209 (x_wo_ne w199 (x_wo_ne w189 (x_wo_ne w179 (x_wo_ne w169 (x_wo_ne w159 (x_wo_ne w155 (x_wo_ne w148 (x_wo_ne w144 (x_wo_ne w138 (x_wo_ne w134 (x_wo_ne w130 (x_wo_ne w126 (x_wo_ne w122 (x_wo_ne w116 (x_wo_ne w109 (x_wo_ne w104 (x_wo_ne w99 (x_wo_ne w95 (x_wo_ne w90 (x_wo_ne w86 (x_wo_ne w81 (x_wo_ne w76 (x_wo_ne w69 (x_wo_ne w61 (x_wo_ne w53 (x_wo_ne w46 (x_wo_ne w37 (x_wo_ne w33 (x_wo_ne w26 (x_wo_ne w22 (x_wo_ne w16 (x_wo_ne w12 b816 (x_nb rfl)) (x_nb rfl)) (x_nb rfl)) (x_nb rfl)) (x_nb rfl)) (x_nb rfl)) (x_nb rfl)) (x_nb rfl)) (x_nb rfl)) (x_nb rfl)) (x_nb rfl)) (x_nb rfl)) (x_nb rfl)) (x_nb rfl)) (x_nb rfl)) (x_nb rfl)) (x_nb rfl)) (x_nb rfl)) (x_nb rfl)) (x_nb rfl)) (x_nb rfl)) (x_nb rfl)) (x_nb rfl)) (x_nb rfl)) (x_nb rfl)) (x_nb rfl)) (x_nb rfl)) (x_nb rfl)) (x_nb rfl)) (x_nb rfl)) (x_nb rfl)) (x_nb rfl)) (x_nb rfl)) (x_nb rfl)) (x_nb rfl)) (x_nb rfl)) (x_nb rfl)) (x_nb rfl)) (x_nb rfl)) (x_nb rfl)) (x_nb rfl)) (x_nb rfl)) (x_nb rfl)) (x_nb rfl)) (x_nb rfl)) (x_nb rfl)) (x_nb rfl)
            refine g_vcall (i := 196) (kd := 3) (j := 75) (np := 1) (ci := 3) (as := [.ref 248, .int 2]) (rest := []) rfl rfl (Or.inl rfl) (Nat.le_of_ble_eq_true rfl) rfl rfl g817 rfl rfl ?_
            refine g_in (M := x_M75) (L := [some (.ref 248), some (.int 2), none]) x_pl75 rfl ?_
            refine g_n 1 (pc' := 1) (L' := [some (.ref 248), some (.int 2), none]) (st' := [.ref 248]) rfl ?_
            refine g_get (i := 29) (kd := 0) (ci := 3) (k := 6) (tc := 0) (v := .int (-2)) rfl rfl (Or.inl (by decide)) g817 rfl ?_
            refine g_n 9 (pc' := 21) (L' := [some (.ref 248), some (.int 2), some (.int 0)]) (st' := [.int 0, .ref 248]) rfl ?_
            refine g_vcall (i := 99) (kd := 3) (j := 76) (np := 1) (ci := 3) (as := [.ref 248, .int 0]) (rest := []) rfl rfl (Or.inl rfl) (Nat.le_of_ble_eq_true rfl) rfl rfl g817 rfl rfl ?_
            refine g_in (M := x_M76) (L := [some (.ref 248), some (.int 0)]) x_pl76 rfl ?_
            refine g_n 1 (pc' := 1) (L' := [some (.ref 248), some (.int 0)]) (st' := [.ref 248]) rfl ?_
            refine g_get (i := 38) (kd := 1) (ci := 3) (k := 10) (tc := 3) (v := .ref 255) rfl rfl (Or.inl (by decide)) g817 rfl ?_
            refine g_n 2 (pc' := 6) (L' := [some (.ref 248), some (.int 0)]) (st' := [.int 4, .int 0, .ref 255]) rfl ?_
            have b818 : x_obj (x_W fi fl fr) 255 = some (8, [.ref 256, .int 1, .int 3, .int 6]) := rfl
            have g819 := x_wo_ne w787 (x_wo_ne w781 (x_wo_ne w280 (x_wo_ne w274 (x_wo_ne w269 (x_wo_ne w265 (x_wo_ne w257 (x_wo_ne w253 (x_wo_ne w245 (x_wo_ne w236 (x_wo_ne w232 (x_wo_ne w228 (x_wo_ne w224 (x_wo_ne w219 (x_wo_ne w209 (x_wo_ne w199 (x_wo_ne w189 (x_wo_ne w179 (x_wo_ne w169 (x_wo_ne w159 (x_wo_ne w155 (x_wo_ne w148 (x_wo_ne w144 (x_wo_ne w138 (x_wo_ne w134 (x_wo_ne w130 (x_wo_ne w126 (x_wo_ne w122 (x_wo_ne w116 (x_wo_ne w109 (x_wo_ne w104 (x_wo_ne w99 (x_wo_ne w95 (x_wo_ne w90 (x_wo_ne w86 (x_wo_ne w81 (x_wo_ne w76 (x_wo_ne w69 (x_wo_ne w61 (x_wo_ne w53 (x_wo_ne w46 (x_wo_ne w37 (x_wo_ne w33 (x_wo_ne w26 (x_wo_ne w22 (x_wo_ne w16 (x_wo_ne w12 b818 (x_nb rfl)) (x_nb rfl)) (x_nb rfl)) (x_nb rfl)) (x_nb rfl)) (x_nb rfl)) (x_nb rfl)) (x_nb rfl)) (x_nb rfl)) (x_nb rfl)) (x_nb rfl)) (x_nb rfl)) (x_nb rfl)) (x_nb rfl)) (x_nb rfl)) (x_nb rfl)) (x_nb rfl)) (x_nb rfl)) (x_nb rfl)) (x_nb rfl)) (x_nb rfl)) (x_nb rfl)) (x_nb rfl)) (x_nb rfl)) (x_nb rfl)) (x_nb rfl)) (x_nb rfl)) (x_nb rfl)) (x_nb rfl)) (x_nb rfl)) (x_nb rfl)) (x_nb rfl)) (x_nb rfl)) (x_nb rfl)) (x_nb rfl)) (x_nb rfl)) (x_nb rfl)) (x_nb rfl)) (x_nb rfl)) (x_nb rfl)) (x_nb rfl)) (x_nb rfl)) (x_nb rfl)) (x_nb rfl)) (x_nb rfl)) (x_nb rfl)) (x_nb rfl)
            refine g_vcall (i := 95) (kd := 3) (j := 263) (np := 2) (ci := 8) (as := [.ref 255, .int 0, .int 4]) (rest := []) rfl rfl (Or.inl rfl) (Nat.le_of_ble_eq_true rfl) rfl rfl g819 rfl rfl ?_
            refine g_in (M := x_M263) (L := [some (.ref 255), some (.int 0), some (.int 4), none]) x_pl263 rfl ?_
            refine g_n 4 (pc' := 6) (L' := [some (.ref 255), some (.int 0), some (.int 4), none]) (st' := [.ref 255, .int 0]) rfl ?_
            refine g_get (i := 13) (kd := 1) (ci := 8) (k := 2) (tc := 0) (v := .int 3) rfl rfl (Or.inl (by decide)) g819 rfl ?_
            refine g_n 5 (pc' := 18) (L' := [some (.ref 255), some (.int 0), some (.int 4), none]) (st' := [.ref 255, .int 4]) rfl ?_
            refine g_get (i := 16) (kd := 1) (ci := 8) (k := 3) (tc := 0) (v := .int 6) rfl rfl (Or.inl (by decide)) g819 rfl ?_
            refine g_n 3 (pc' := 26) (L' := [some (.ref 255), some (.int 0), some (.int 4), none]) (st' := [.ref 255, .int 0]) rfl ?_
            refine g_get (i := 16) (kd := 1) (ci := 8) (k := 3) (tc := 0) (v := .int 6) rfl rfl (Or.inl (by decide)) g819 rfl ?_
            refine g_n 9 (pc' := 43) (L' := [some (.ref 255), some (.int 0), some (.int 4), some (.int 4)]) (st' := [.ref 255, .int 4]) rfl ?_
            refine g_get (i := 25) (kd := 1) (ci := 8) (k := 0) (tc := 3) (v := .ref 256) rfl rfl (Or.inl (by decide)) g819 rfl ?_
            have b820 : x_arr (x_W fi fl fr) 256 = some (1, 18, .inr (.inl (fl 256))) := rfl
            have g821 := x_wa_ne w787 (x_wa_ne w781 (x_wa_ne w280 (x_wa_ne w274 (x_wa_ne w269 (x_wa_ne w265 (x_wa_ne w257 (x_wa_ne w253 (x_wa_ne w245 (x_wa_ne w236 (x_wa_ne w232 (x_wa_ne w228 (x_wa_ne w224 (x_wa_ne w219 (x_wa_ne w209 (x_wa_ne w199 (x_wa_ne w189 (x_wa_ne w179 (x_wa_ne w169 (x_wa_ne w159 (x_wa_ne w155 (x_wa_ne w148 (x_wa_ne w144 (x_wa_ne w138 (x_wa_ne w134 (x_wa_ne w130 (x_wa_ne w126 (x_wa_ne w122 (x_wa_ne w116 (x_wa_ne w109 (x_wa_ne w104 (x_wa_ne w99 (x_wa_ne w95 (x_wa_ne w90 (x_wa_ne w86 (x_wa_ne w81 (x_wa_ne w76 (x_wa_ne w69 (x_wa_ne w61 (x_wa_ne w53 (x_wa_ne w46 (x_wa_ne w37 (x_wa_ne w33 (x_wa_ne w26 (x_wa_ne w22 (x_wa_ne w16 (x_wa_ne w12 b820 (x_nb rfl)) (x_nb rfl)) (x_nb rfl)) (x_nb rfl)) (x_nb rfl)) (x_nb rfl)) (x_nb rfl)) (x_nb rfl)) (x_nb rfl)) (x_nb rfl)) (x_nb rfl)) (x_nb rfl)) (x_nb rfl)) (x_nb rfl)) (x_nb rfl)) (x_nb rfl)) (x_nb rfl)) (x_nb rfl)) (x_nb rfl)) (x_nb rfl)) (x_nb rfl)) (x_nb rfl)) (x_nb rfl)) (x_nb rfl)) (x_nb rfl)) (x_nb rfl)) (x_nb rfl)) (x_nb rfl)) (x_nb rfl)) (x_nb rfl)) (x_nb rfl)) (x_nb rfl)) (x_nb rfl)) (x_nb rfl)) (x_nb rfl)) (x_nb rfl)) (x_nb rfl)) (x_nb rfl)) (x_nb rfl)) (x_nb rfl)) (x_nb rfl)) (x_nb rfl)) (x_nb rfl)) (x_nb rfl)) (x_nb rfl)) (x_nb rfl)) (x_nb rfl)
            refine g_len rfl g821 (by decide) ?_
            refine g_n 2 (pc' := 51) (L' := [some (.ref 255), some (.int 0), some (.int 4), some (.int 4)]) (st' := [.ref 255]) rfl ?_
            refine g_get (i := 25) (kd := 1) (ci := 8) (k := 0) (tc := 3) (v := .ref 256) rfl rfl (Or.inl (by decide)) g819 rfl ?_
            refine g_n 1 (pc' := 55) (L' := [some (.ref 255), some (.int 0), some (.int 4), some (.int 4)]) (st' := [.int 4, .ref 256]) rfl ?_
            refine g_la (i := 4) (a := 256) (n := 18) (v := 0) rfl g821 (by decide) (x_at (x_f256 hF) (k := 4) rfl) ?_
            refine g_n 2 (pc' := 61) (L' := [some (.ref 255), some (.int 0), some (.int 4), some (.int 4)]) (st' := [.int 0]) rfl ?_
            refine g_ret (ins := .ireturn) (len := 1) (r := (some (.int 0))) rfl rfl rfl ?_
            refine g_n 3 (pc' := 18) (L' := [some (.ref 248), some (.int 0)]) (st' := [.int 0]) rfl ?_
            refine g_ret (ins := .ireturn) (len := 1) (r := (some (.int 0))) rfl rfl rfl ?_
            refine g_n 8 (pc' := 21) (L' := [some (.ref 248), some (.int 2), some (.int 1)]) (st' := [.int 1, .ref 248]) rfl ?_
            refine g_vcall (i := 99) (kd := 3) (j := 76) (np := 1) (ci := 3) (as := [.ref 248, .int 1]) (rest := []) rfl rfl (Or.inl rfl) (Nat.le_of_ble_eq_true rfl) rfl rfl g817 rfl rfl ?_
            refine g_in (M := x_M76) (L := [some (.ref 248), some (.int 1)]) x_pl76 rfl ?_
            refine g_n 1 (pc' := 1) (L' := [some (.ref 248), some (.int 1)]) (st' := [.ref 248]) rfl ?_
            refine g_get (i := 38) (kd := 1) (ci := 3) (k := 10) (tc := 3) (v := .ref 255) rfl rfl (Or.inl (by decide)) g817 rfl ?_
            refine g_n 2 (pc' := 6) (L' := [some (.ref 248), some (.int 1)]) (st' := [.int 4, .int 1, .ref 255]) rfl ?_
            refine g_vcall (i := 95) (kd := 3) (j := 263) (np := 2) (ci := 8) (as := [.ref 255, .int 1, .int 4]) (rest := []) rfl rfl (Or.inl rfl) (Nat.le_of_ble_eq_true rfl) rfl rfl g819 rfl rfl ?_
            refine g_in (M := x_M263) (L := [some (.ref 255), some (.int 1), some (.int 4), none]) x_pl263 rfl ?_
            refine g_n 4 (pc' := 6) (L' := [some (.ref 255), some (.int 1), some (.int 4), none]) (st' := [.ref 255, .int 1]) rfl ?_
            refine g_get (i := 13) (kd := 1) (ci := 8) (k := 2) (tc := 0) (v := .int 3) rfl rfl (Or.inl (by decide)) g819 rfl ?_
            refine g_n 5 (pc' := 18) (L' := [some (.ref 255), some (.int 1), some (.int 4), none]) (st' := [.ref 255, .int 4]) rfl ?_
            refine g_get (i := 16) (kd := 1) (ci := 8) (k := 3) (tc := 0) (v := .int 6) rfl rfl (Or.inl (by decide)) g819 rfl ?_
            refine g_n 3 (pc' := 26) (L' := [some (.ref 255), some (.int 1), some (.int 4), none]) (st' := [.ref 255, .int 1]) rfl ?_
            refine g_get (i := 16) (kd := 1) (ci := 8) (k := 3) (tc := 0) (v := .int 6) rfl rfl (Or.inl (by decide)) g819 rfl ?_
            refine g_n 9 (pc' := 43) (L' := [some (.ref 255), some (.int 1), some (.int 4), some (.int 10)]) (st' := [.ref 255, .int 10]) rfl ?_
            refine g_get (i := 25) (kd := 1) (ci := 8) (k := 0) (tc := 3) (v := .ref 256) rfl rfl (Or.inl (by decide)) g819 rfl ?_
            refine g_len rfl g821 (by decide) ?_
            refine g_n 2 (pc' := 51) (L' := [some (.ref 255), some (.int 1), some (.int 4), some (.int 10)]) (st' := [.ref 255]) rfl ?_
            refine g_get (i := 25) (kd := 1) (ci := 8) (k := 0) (tc := 3) (v := .ref 256) rfl rfl (Or.inl (by decide)) g819 rfl ?_
            refine g_n 1 (pc' := 55) (L' := [some (.ref 255), some (.int 1), some (.int 4), some (.int 10)]) (st' := [.int 10, .ref 256]) rfl ?_
            refine g_la (i := 10) (a := 256) (n := 18) (v := 0) rfl g821 (by decide) (x_at (x_f256 hF) (k := 10) rfl) ?_
            refine g_n 2 (pc' := 61) (L' := [some (.ref 255), some (.int 1), some (.int 4), some (.int 10)]) (st' := [.int 0]) rfl ?_
            refine g_ret (ins := .ireturn) (len := 1) (r := (some (.int 0))) rfl rfl rfl ?_
            refine g_n 3 (pc' := 18) (L' := [some (.ref 248), some (.int 1)]) (st' := [.int 0]) rfl ?_
            refine g_ret (ins := .ireturn) (len := 1) (r := (some (.int 0))) rfl rfl rfl ?_
            refine g_n 8 (pc' := 21) (L' := [some (.ref 248), some (.int 2), some (.int 2)]) (st' := [.int 2, .ref 248]) rfl ?_
            refine g_vcall (i := 99) (kd := 3) (j := 76) (np := 1) (ci := 3) (as := [.ref 248, .int 2]) (rest := []) rfl rfl (Or.inl rfl) (Nat.le_of_ble_eq_true rfl) rfl rfl g817 rfl rfl ?_
            refine g_in (M := x_M76) (L := [some (.ref 248), some (.int 2)]) x_pl76 rfl ?_
            refine g_n 1 (pc' := 1) (L' := [some (.ref 248), some (.int 2)]) (st' := [.ref 248]) rfl ?_
            refine g_get (i := 38) (kd := 1) (ci := 3) (k := 10) (tc := 3) (v := .ref 255) rfl rfl (Or.inl (by decide)) g817 rfl ?_
            refine g_n 2 (pc' := 6) (L' := [some (.ref 248), some (.int 2)]) (st' := [.int 4, .int 2, .ref 255]) rfl ?_
            refine g_vcall (i := 95) (kd := 3) (j := 263) (np := 2) (ci := 8) (as := [.ref 255, .int 2, .int 4]) (rest := []) rfl rfl (Or.inl rfl) (Nat.le_of_ble_eq_true rfl) rfl rfl g819 rfl rfl ?_
            refine g_in (M := x_M263) (L := [some (.ref 255), some (.int 2), some (.int 4), none]) x_pl263 rfl ?_
            refine g_n 4 (pc' := 6) (L' := [some (.ref 255), some (.int 2), some (.int 4), none]) (st' := [.ref 255, .int 2]) rfl ?_
            refine g_get (i := 13) (kd := 1) (ci := 8) (k := 2) (tc := 0) (v := .int 3) rfl rfl (Or.inl (by decide)) g819 rfl ?_
            refine g_n 5 (pc' := 18) (L' := [some (.ref 255), some (.int 2), some (.int 4), none]) (st' := [.ref 255, .int 4]) rfl ?_
            refine g_get (i := 16) (kd := 1) (ci := 8) (k := 3) (tc := 0) (v := .int 6) rfl rfl (Or.inl (by decide)) g819 rfl ?_
            refine g_n 3 (pc' := 26) (L' := [some (.ref 255), some (.int 2), some (.int 4), none]) (st' := [.ref 255, .int 2]) rfl ?_
            refine g_get (i := 16) (kd := 1) (ci := 8) (k := 3) (tc := 0) (v := .int 6) rfl rfl (Or.inl (by decide)) g819 rfl ?_
            refine g_n 9 (pc' := 43) (L' := [some (.ref 255), some (.int 2), some (.int 4), some (.int 16)]) (st' := [.ref 255, .int 16]) rfl ?_
            refine g_get (i := 25) (kd := 1) (ci := 8) (k := 0) (tc := 3) (v := .ref 256) rfl rfl (Or.inl (by decide)) g819 rfl ?_
            refine g_len rfl g821 (by decide) ?_
            refine g_n 2 (pc' := 51) (L' := [some (.ref 255), some (.int 2), some (.int 4), some (.int 16)]) (st' := [.ref 255]) rfl ?_
            refine g_get (i := 25) (kd := 1) (ci := 8) (k := 0) (tc := 3) (v := .ref 256) rfl rfl (Or.inl (by decide)) g819 rfl ?_
            refine g_n 1 (pc' := 55) (L' := [some (.ref 255), some (.int 2), some (.int 4), some (.int 16)]) (st' := [.int 16, .ref 256]) rfl ?_
            refine g_la (i := 16) (a := 256) (n := 18) (v := 0) rfl g821 (by decide) (x_at (x_f256 hF) (k := 16) rfl) ?_
            refine g_n 2 (pc' := 61) (L' := [some (.ref 255), some (.int 2), some (.int 4), some (.int 16)]) (st' := [.int 0]) rfl ?_
            refine g_ret (ins := .ireturn) (len := 1) (r := (some (.int 0))) rfl rfl rfl ?_
            refine g_n 3 (pc' := 18) (L' := [some (.ref 248), some (.int 2)]) (st' := [.int 0]) rfl ?_
            refine g_ret (ins := .ireturn) (len := 1) (r := (some (.int 0))) rfl rfl rfl ?_
            refine g_n 6 (pc' := 56) (L' := [some (.ref 248), some (.int 2), some (.int 3)]) (st' := []) rfl ?_
            refine g_ret (ins := .return_) (len := 1) (r := none) rfl rfl rfl ?_
            refine g_n 1 (pc' := 137) (L' := [some (.ref 0), some (.int 2), some (.ref 73), some (.int 12)]) (st' := [.ref 0]) rfl ?_
            refine g_get (i := 42) (kd := 1) (ci := 11) (k := 2) (tc := 3) (v := .ref 2) rfl rfl (Or.inl (by decide)) g789 rfl ?_
            refine g_n 1 (pc' := 141) (L' := [some (.ref 0), some (.int 2), some (.ref 73), some (.int 12)]) (st' := [.int 2, .ref 2]) rfl ?_
            have g822 := x_wa_ne w787 g784 (x_nb rfl)
            refine g_aa (i := 2) (a := 2) (n := 4) (v := 183) rfl g822 (by decide) rfl ?_
            have g823 := x_wo_ne w787 (x_wo_ne w781 g782 (x_nb rfl)) (x_nb rfl)
            refine g_get (i := 199) (kd := 0) (ci := 4) (k := 12) (tc := 0) (v := .int 0) rfl rfl (Or.inl (by decide)) g823 rfl ?_
            refine g_ret (ins := .ireturn) (len := 1) (r := (some (.int 0))) rfl rfl rfl ?_
            have b824 : x_obj (x_W fi fl fr) 281 = some (12, x_MF) := rfl
            have g825 := x_wo_ne w787 (x_wo_ne w781 (x_wo_ne w280 (x_wo_ne w274 (x_wo_ne w269 (x_wo_ne w265 (x_wo_ne w257 (x_wo_ne w253 (x_wo_ne w245 (x_wo_ne w236 (x_wo_ne w232 (x_wo_ne w228 (x_wo_ne w224 (x_wo_ne w219 (x_wo_ne w209 (x_wo_ne w199 (x_wo_ne w189 (x_wo_ne w179 (x_wo_ne w169 (x_wo_ne w159 (x_wo_ne w155 (x_wo_ne w148 (x_wo_ne w144 (x_wo_ne w138 (x_wo_ne w134 (x_wo_ne w130 (x_wo_ne w126 (x_wo_ne w122 (x_wo_ne w116 (x_wo_ne w109 (x_wo_ne w104 (x_wo_ne w99 (x_wo_ne w95 (x_wo_ne w90 (x_wo_ne w86 (x_wo_ne w81 (x_wo_ne w76 (x_wo_ne w69 (x_wo_ne w61 (x_wo_ne w53 (x_wo_ne w46 (x_wo_ne w37 (x_wo_ne w33 (x_wo_ne w26 (x_wo_ne w22 (x_wo_ne w16 (x_wo_ne w12 b824 (x_nb rfl)) (x_nb rfl)) (x_nb rfl)) (x_nb rfl)) (x_nb rfl)) (x_nb rfl)) (x_nb rfl)) (x_nb rfl)) (x_nb rfl)) (x_nb rfl)) (x_nb rfl)) (x_nb rfl)) (x_nb rfl)) (x_nb rfl)) (x_nb rfl)) (x_nb rfl)) (x_nb rfl)) (x_nb rfl)) (x_nb rfl)) (x_nb rfl)) (x_nb rfl)) (x_nb rfl)) (x_nb rfl)) (x_nb rfl)) (x_nb rfl)) (x_nb rfl)) (x_nb rfl)) (x_nb rfl)) (x_nb rfl)) (x_nb rfl)) (x_nb rfl)) (x_nb rfl)) (x_nb rfl)) (x_nb rfl)) (x_nb rfl)) (x_nb rfl)) (x_nb rfl)) (x_nb rfl)) (x_nb rfl)) (x_nb rfl)) (x_nb rfl)) (x_nb rfl)) (x_nb rfl)) (x_nb rfl)) (x_nb rfl)) (x_nb rfl)) (x_nb rfl)
            refine ⟨⟨_, g825⟩, ?_⟩
            refine g_in (M := x_M489) (L := [some (.ref 281), some (.int 2), none]) x_pl489 rfl ?_
            refine g_n 2 (pc' := 2) (L' := [some (.ref 281), some (.int 2), none]) (st' := [.int 2, .ref 281]) rfl ?_
            refine g_vcall (i := 1015) (kd := 3) (j := 488) (np := 1) (ci := 12) (as := [.ref 281, .int 2]) (rest := []) rfl rfl (Or.inl rfl) (Nat.le_of_ble_eq_true rfl) rfl rfl g825 rfl rfl ?_
            refine g_in (M := x_M488) (L := [some (.ref 281), some (.int 2)]) x_pl488 rfl ?_
            refine g_n 7 (pc' := 14) (L' := [some (.ref 281), some (.int 2)]) (st' := [.int 1]) rfl ?_
            refine g_ret (ins := .ireturn) (len := 1) (r := (some (.int 1))) rfl rfl rfl ?_
            refine g_n 2 (pc' := 11) (L' := [some (.ref 281), some (.int 2), none]) (st' := [.ref 281]) rfl ?_
            refine g_vcall (i := 1018) (kd := 3) (j := 423) (np := 0) (ci := 12) (as := [.ref 281]) (rest := []) rfl rfl (Or.inl rfl) (Nat.le_of_ble_eq_true rfl) rfl rfl g825 rfl rfl ?_
            refine g_in (M := x_M423) (L := [some (.ref 281), none]) x_pl423 rfl ?_
            refine g_n 2 (pc' := 2) (L' := [some (.ref 281), none]) (st' := [.ref 281, .ref 281]) rfl ?_
            have v826 : x_MF[1]? = some (.int 0) := rfl
            refine g_get (i := 664) (kd := 0) (ci := 12) (k := 1) (tc := 0) (v := .int 0) rfl rfl (Or.inl (by decide)) g825 v826 ?_
            have l829 : x_MF.length = 311 := rfl
            refine g_putV (i := 681) (kd := 0) (ci := 12) (k := 6) (tc := 0) rfl rfl (Or.inl rfl) g825 (x_ltL l829 rfl) rfl (fun S827 y831 e830 w828 => ?_)
            have l832 := x_wf_len e830 l829
            have v833 := x_wf_at e830 (x_ltL l829 rfl)
            have s834 := x_wsO w828 g825 (l832.trans l829.symm) s788
            have g835 := x_wo_at w828 g825
            refine g_n 4 (pc' := 12) (L' := [some (.ref 281), some (.int 0)]) (st' := [.ref 281, .int 0]) rfl ?_
            have v836 := x_wf_ne e830 v826 (x_nb rfl)
            refine g_get (i := 664) (kd := 0) (ci := 12) (k := 1) (tc := 0) (v := .int 0) rfl rfl (Or.inl (by decide)) g835 v836 ?_
            refine g_n 3 (pc' := 38) (L' := [some (.ref 281), some (.int 0)]) (st' := [.int 0, .ref 281]) rfl ?_
            refine g_putV (i := 664) (kd := 0) (ci := 12) (k := 1) (tc := 0) rfl rfl (Or.inl rfl) g835 (x_ltL l832 rfl) rfl (fun S837 y840 e839 w838 => ?_)
            have l841 := x_wf_len e839 l832
            have v842 := x_wf_at e839 (x_ltL l832 rfl)
            have s843 := x_wsO w838 g835 (l841.trans l832.symm) s834
            have g844 := x_wo_at w838 g835
            refine g_n 2 (pc' := 43) (L' := [some (.ref 281), some (.int 0)]) (st' := [.int 0, .ref 281]) rfl ?_
            refine g_putV (i := 684) (kd := 0) (ci := 12) (k := 7) (tc := 0) rfl rfl (Or.inl rfl) g844 (x_ltL l841 rfl) rfl (fun S845 y848 e847 w846 => ?_)
            have l849 := x_wf_len e847 l841
            have v850 := x_wf_at e847 (x_ltL l841 rfl)
            have s851 := x_wsO w846 g844 (l849.trans l841.symm) s843
            have g852 := x_wo_at w846 g844
            refine g_n 2 (pc' := 48) (L' := [some (.ref 281), some (.int 0)]) (st' := [.int 0, .ref 281]) rfl ?_
            refine g_putV (i := 675) (kd := 0) (ci := 12) (k := 17) (tc := 0) rfl rfl (Or.inl rfl) g852 (x_ltL l849 rfl) rfl (fun S853 y856 e855 w854 => ?_)
            have l857 := x_wf_len e855 l849
            have v858 := x_wf_at e855 (x_ltL l849 rfl)
            have s859 := x_wsO w854 g852 (l857.trans l849.symm) s851
            have g860 := x_wo_at w854 g852
            refine g_ret (ins := .return_) (len := 1) (r := none) rfl rfl rfl ?_
            refine g_n 2 (pc' := 17) (L' := [some (.ref 281), some (.int 2), none]) (st' := [.int (-2), .ref 281]) rfl ?_
            refine g_putV (i := 19) (kd := 0) (ci := 12) (k := 4) (tc := 0) rfl rfl (Or.inl rfl) g860 (x_ltL l857 rfl) rfl (fun S861 y864 e863 w862 => ?_)
            have l865 := x_wf_len e863 l857
            have v866 := x_wf_at e863 (x_ltL l857 rfl)
            have s867 := x_wsO w862 g860 (l865.trans l857.symm) s859
            have g868 := x_wo_at w862 g860
            refine g_n 1 (pc' := 21) (L' := [some (.ref 281), some (.int 2), none]) (st' := [.ref 281]) rfl ?_
            refine g_vcall (i := 1021) (kd := 3) (j := 441) (np := 0) (ci := 12) (as := [.ref 281]) (rest := []) rfl rfl (Or.inl rfl) (Nat.le_of_ble_eq_true rfl) rfl rfl g868 rfl rfl ?_
            refine g_in (M := x_M441) (L := [some (.ref 281), none]) x_pl441 rfl ?_
            refine g_n 1 (pc' := 1) (L' := [some (.ref 281), none]) (st' := [.ref 281]) rfl ?_
            have v869 : x_MF[20]? = some (.ref 288) := rfl
            have v870 := x_wf_ne e863 (x_wf_ne e855 (x_wf_ne e847 (x_wf_ne e839 (x_wf_ne e830 v869 (x_nb rfl)) (x_nb rfl)) (x_nb rfl)) (x_nb rfl)) (x_nb rfl)
            refine g_get (i := 33) (kd := 1) (ci := 12) (k := 20) (tc := 3) (v := .ref 288) rfl rfl (Or.inl (by decide)) g868 v870 ?_
            refine g_n 2 (pc' := 6) (L' := [some (.ref 281), none]) (st' := [.int 0, .int 4, .ref 288]) rfl ?_
            have b871 : x_arr (x_W fi fl fr) 288 = some (0, 5, .inl fun _ => 0) := rfl
            have g872 := x_wa_ne w862 (x_wa_ne w854 (x_wa_ne w846 (x_wa_ne w838 (x_wa_ne w828 (x_wa_ne w787 (x_wa_ne w781 (x_wa_ne w280 (x_wa_ne w274 (x_wa_ne w269 (x_wa_ne w265 (x_wa_ne w257 (x_wa_ne w253 (x_wa_ne w245 (x_wa_ne w236 (x_wa_ne w232 (x_wa_ne w228 (x_wa_ne w224 (x_wa_ne w219 (x_wa_ne w209 (x_wa_ne w199 (x_wa_ne w189 (x_wa_ne w179 (x_wa_ne w169 (x_wa_ne w159 (x_wa_ne w155 (x_wa_ne w148 (x_wa_ne w144 (x_wa_ne w138 (x_wa_ne w134 (x_wa_ne w130 (x_wa_ne w126 (x_wa_ne w122 (x_wa_ne w116 (x_wa_ne w109 (x_wa_ne w104 (x_wa_ne w99 (x_wa_ne w95 (x_wa_ne w90 (x_wa_ne w86 (x_wa_ne w81 (x_wa_ne w76 (x_wa_ne w69 (x_wa_ne w61 (x_wa_ne w53 (x_wa_ne w46 (x_wa_ne w37 (x_wa_ne w33 (x_wa_ne w26 (x_wa_ne w22 (x_wa_ne w16 (x_wa_ne w12 b871 (x_nb rfl)) (x_nb rfl)) (x_nb rfl)) (x_nb rfl)) (x_nb rfl)) (x_nb rfl)) (x_nb rfl)) (x_nb rfl)) (x_nb rfl)) (x_nb rfl)) (x_nb rfl)) (x_nb rfl)) (x_nb rfl)) (x_nb rfl)) (x_nb rfl)) (x_nb rfl)) (x_nb rfl)) (x_nb rfl)) (x_nb rfl)) (x_nb rfl)) (x_nb rfl)) (x_nb rfl)) (x_nb rfl)) (x_nb rfl)) (x_nb rfl)) (x_nb rfl)) (x_nb rfl)) (x_nb rfl)) (x_nb rfl)) (x_nb rfl)) (x_nb rfl)) (x_nb rfl)) (x_nb rfl)) (x_nb rfl)) (x_nb rfl)) (x_nb rfl)) (x_nb rfl)) (x_nb rfl)) (x_nb rfl)) (x_nb rfl)) (x_nb rfl)) (x_nb rfl)) (x_nb rfl)) (x_nb rfl)) (x_nb rfl)) (x_nb rfl)) (x_nb rfl)) (x_nb rfl)) (x_nb rfl)) (x_nb rfl)) (x_nb rfl)) (x_nb rfl)
            refine g_isN rfl g872 (by decide) (fun S873 w874 => ?_)
            have s875 := x_wsA w874 g872 rfl s867
            have g876 := x_wa_at w874 g872
            refine g_n 1 (pc' := 8) (L' := [some (.ref 281), none]) (st' := [.ref 281]) rfl ?_
            have g877 := x_wo_ne w874 g868 (x_nb rfl)
            have v878 : x_MF[21]? = some (.ref 289) := rfl
            have v879 := x_wf_ne e863 (x_wf_ne e855 (x_wf_ne e847 (x_wf_ne e839 (x_wf_ne e830 v878 (x_nb rfl)) (x_nb rfl)) (x_nb rfl)) (x_nb rfl)) (x_nb rfl)
            refine g_get (i := 36) (kd := 1) (ci := 12) (k := 21) (tc := 3) (v := .ref 289) rfl rfl (Or.inl (by decide)) g877 v879 ?_
            refine g_n 2 (pc' := 13) (L' := [some (.ref 281), none]) (st' := [.int 0, .int 4, .ref 289]) rfl ?_
            have b880 : x_arr (x_W fi fl fr) 289 = some (0, 5, .inl fun _ => 0) := rfl
            have g881 := x_wa_ne w874 (x_wa_ne w862 (x_wa_ne w854 (x_wa_ne w846 (x_wa_ne w838 (x_wa_ne w828 (x_wa_ne w787 (x_wa_ne w781 (x_wa_ne w280 (x_wa_ne w274 (x_wa_ne w269 (x_wa_ne w265 (x_wa_ne w257 (x_wa_ne w253 (x_wa_ne w245 (x_wa_ne w236 (x_wa_ne w232 (x_wa_ne w228 (x_wa_ne w224 (x_wa_ne w219 (x_wa_ne w209 (x_wa_ne w199 (x_wa_ne w189 (x_wa_ne w179 (x_wa_ne w169 (x_wa_ne w159 (x_wa_ne w155 (x_wa_ne w148 (x_wa_ne w144 (x_wa_ne w138 (x_wa_ne w134 (x_wa_ne w130 (x_wa_ne w126 (x_wa_ne w122 (x_wa_ne w116 (x_wa_ne w109 (x_wa_ne w104 (x_wa_ne w99 (x_wa_ne w95 (x_wa_ne w90 (x_wa_ne w86 (x_wa_ne w81 (x_wa_ne w76 (x_wa_ne w69 (x_wa_ne w61 (x_wa_ne w53 (x_wa_ne w46 (x_wa_ne w37 (x_wa_ne w33 (x_wa_ne w26 (x_wa_ne w22 (x_wa_ne w16 (x_wa_ne w12 b880 (x_nb rfl)) (x_nb rfl)) (x_nb rfl)) (x_nb rfl)) (x_nb rfl)) (x_nb rfl)) (x_nb rfl)) (x_nb rfl)) (x_nb rfl)) (x_nb rfl)) (x_nb rfl)) (x_nb rfl)) (x_nb rfl)) (x_nb rfl)) (x_nb rfl)) (x_nb rfl)) (x_nb rfl)) (x_nb rfl)) (x_nb rfl)) (x_nb rfl)) (x_nb rfl)) (x_nb rfl)) (x_nb rfl)) (x_nb rfl)) (x_nb rfl)) (x_nb rfl)) (x_nb rfl)) (x_nb rfl)) (x_nb rfl)) (x_nb rfl)) (x_nb rfl)) (x_nb rfl)) (x_nb rfl)) (x_nb rfl)) (x_nb rfl)) (x_nb rfl)) (x_nb rfl)) (x_nb rfl)) (x_nb rfl)) (x_nb rfl)) (x_nb rfl)) (x_nb rfl)) (x_nb rfl)) (x_nb rfl)) (x_nb rfl)) (x_nb rfl)) (x_nb rfl)) (x_nb rfl)) (x_nb rfl)) (x_nb rfl)) (x_nb rfl)) (x_nb rfl)) (x_nb rfl)
            refine g_isN rfl g881 (by decide) (fun S882 w883 => ?_)
            have s884 := x_wsA w883 g881 rfl s875
            have g885 := x_wa_at w883 g881
            refine g_n 1 (pc' := 15) (L' := [some (.ref 281), none]) (st' := [.ref 281]) rfl ?_
            have g886 := x_wo_ne w883 g877 (x_nb rfl)
            have v887 : x_MF[115]? = some (.ref 382) := rfl
            have v888 := x_wf_ne e863 (x_wf_ne e855 (x_wf_ne e847 (x_wf_ne e839 (x_wf_ne e830 v887 (x_nb rfl)) (x_nb rfl)) (x_nb rfl)) (x_nb rfl)) (x_nb rfl)
            refine g_get (i := 318) (kd := 1) (ci := 12) (k := 115) (tc := 3) (v := .ref 382) rfl rfl (Or.inl (by decide)) g886 v888 ?_
            refine g_n 2 (pc' := 20) (L' := [some (.ref 281), none]) (st' := [.int 0, .int 4, .ref 382]) rfl ?_
            have b889 : x_arr (x_W fi fl fr) 382 = some (0, 5, .inl fun _ => 0) := rfl
            have g890 := x_wa_ne w883 (x_wa_ne w874 (x_wa_ne w862 (x_wa_ne w854 (x_wa_ne w846 (x_wa_ne w838 (x_wa_ne w828 (x_wa_ne w787 (x_wa_ne w781 (x_wa_ne w280 (x_wa_ne w274 (x_wa_ne w269 (x_wa_ne w265 (x_wa_ne w257 (x_wa_ne w253 (x_wa_ne w245 (x_wa_ne w236 (x_wa_ne w232 (x_wa_ne w228 (x_wa_ne w224 (x_wa_ne w219 (x_wa_ne w209 (x_wa_ne w199 (x_wa_ne w189 (x_wa_ne w179 (x_wa_ne w169 (x_wa_ne w159 (x_wa_ne w155 (x_wa_ne w148 (x_wa_ne w144 (x_wa_ne w138 (x_wa_ne w134 (x_wa_ne w130 (x_wa_ne w126 (x_wa_ne w122 (x_wa_ne w116 (x_wa_ne w109 (x_wa_ne w104 (x_wa_ne w99 (x_wa_ne w95 (x_wa_ne w90 (x_wa_ne w86 (x_wa_ne w81 (x_wa_ne w76 (x_wa_ne w69 (x_wa_ne w61 (x_wa_ne w53 (x_wa_ne w46 (x_wa_ne w37 (x_wa_ne w33 (x_wa_ne w26 (x_wa_ne w22 (x_wa_ne w16 (x_wa_ne w12 b889 (x_nb rfl)) (x_nb rfl)) (x_nb rfl)) (x_nb rfl)) (x_nb rfl)) (x_nb rfl)) (x_nb rfl)) (x_nb rfl)) (x_nb rfl)) (x_nb rfl)) (x_nb rfl)) (x_nb rfl)) (x_nb rfl)) (x_nb rfl)) (x_nb rfl)) (x_nb rfl)) (x_nb rfl)) (x_nb rfl)) (x_nb rfl)) (x_nb rfl)) (x_nb rfl)) (x_nb rfl)) (x_nb rfl)) (x_nb rfl)) (x_nb rfl)) (x_nb rfl)) (x_nb rfl)) (x_nb rfl)) (x_nb rfl)) (x_nb rfl)) (x_nb rfl)) (x_nb rfl)) (x_nb rfl)) (x_nb rfl)) (x_nb rfl)) (x_nb rfl)) (x_nb rfl)) (x_nb rfl)) (x_nb rfl)) (x_nb rfl)) (x_nb rfl)) (x_nb rfl)) (x_nb rfl)) (x_nb rfl)) (x_nb rfl)) (x_nb rfl)) (x_nb rfl)) (x_nb rfl)) (x_nb rfl)) (x_nb rfl)) (x_nb rfl)) (x_nb rfl)) (x_nb rfl)) (x_nb rfl)
            refine g_isN rfl g890 (by decide) (fun S891 w892 => ?_)
            have s893 := x_wsA w892 g890 rfl s884
            have g894 := x_wa_at w892 g890
            refine g_n 2 (pc' := 23) (L' := [some (.ref 281), none]) (st' := [.int 0, .ref 281]) rfl ?_
            have g895 := x_wo_ne w892 g886 (x_nb rfl)
            refine g_putV (i := 818) (kd := 0) (ci := 12) (k := 110) (tc := 0) rfl rfl (Or.inl rfl) g895 (x_ltL l865 rfl) rfl (fun S896 y899 e898 w897 => ?_)
            have l900 := x_wf_len e898 l865
            have v901 := x_wf_at e898 (x_ltL l865 rfl)
            have s902 := x_wsO w897 g895 (l900.trans l865.symm) s893
            have g903 := x_wo_at w897 g895
            refine g_n 1 (pc' := 27) (L' := [some (.ref 281), none]) (st' := [.ref 281]) rfl ?_
            refine g_vcall (i := 805) (kd := 3) (j := 427) (np := 0) (ci := 12) (as := [.ref 281]) (rest := []) rfl rfl (Or.inl rfl) (Nat.le_of_ble_eq_true rfl) rfl rfl g903 rfl rfl ?_
            refine g_in (M := x_M427) (L := [some (.ref 281), none, none]) x_pl427 rfl ?_
            refine g_n 5 (pc' := 7) (L' := [some (.ref 281), some (.int 1), none]) (st' := [.ref 281]) rfl ?_
            have v904 := x_wf_ne e898 (x_wf_ne e863 (x_wf_ne e855 v850 (x_nb rfl)) (x_nb rfl)) (x_nb rfl)
            refine g_get (i := 684) (kd := 0) (ci := 12) (k := 7) (tc := 0) (v := .int 0) rfl rfl (Or.inl (by decide)) g903 v904 ?_
            refine g_n 1 (pc' := 11) (L' := [some (.ref 281), some (.int 1), none]) (st' := [.ref 281, .int 0]) rfl ?_
            have v905 := x_wf_ne e898 (x_wf_ne e863 (x_wf_ne e855 (x_wf_ne e847 (x_wf_ne e839 v833 (x_nb rfl)) (x_nb rfl)) (x_nb rfl)) (x_nb rfl)) (x_nb rfl)
            refine g_get (i := 681) (kd := 0) (ci := 12) (k := 6) (tc := 0) (v := .int 0) rfl rfl (Or.inl (by decide)) g903 v905 ?_
            refine g_n 2 (pc' := 87) (L' := [some (.ref 281), some (.int 1), none]) (st' := [.ref 281]) rfl ?_
            refine g_get (i := 684) (kd := 0) (ci := 12) (k := 7) (tc := 0) (v := .int 0) rfl rfl (Or.inl (by decide)) g903 v904 ?_
            refine g_n 1 (pc' := 91) (L' := [some (.ref 281), some (.int 1), none]) (st' := [.ref 281, .int 0]) rfl ?_
            refine g_get (i := 681) (kd := 0) (ci := 12) (k := 6) (tc := 0) (v := .int 0) rfl rfl (Or.inl (by decide)) g903 v905 ?_
            refine g_n 9 (pc' := 161) (L' := [some (.ref 281), some (.int 0), none]) (st' := [.ref 281, .ref 281]) rfl ?_
            refine g_get (i := 684) (kd := 0) (ci := 12) (k := 7) (tc := 0) (v := .int 0) rfl rfl (Or.inl (by decide)) g903 v904 ?_
            refine g_putV (i := 687) (kd := 0) (ci := 12) (k := 9) (tc := 0) rfl rfl (Or.inl rfl) g903 (x_ltL l900 rfl) rfl (fun S906 y909 e908 w907 => ?_)
            have l910 := x_wf_len e908 l900
            have v911 := x_wf_at e908 (x_ltL l900 rfl)
            have s912 := x_wsO w907 g903 (l910.trans l900.symm) s902
            have g913 := x_wo_at w907 g903
            refine g_n 2 (pc' := 169) (L' := [some (.ref 281), some (.int 0), none]) (st' := [.ref 281, .ref 281]) rfl ?_
            have v914 := x_wf_ne e908 v904 (x_nb rfl)
            refine g_get (i := 684) (kd := 0) (ci := 12) (k := 7) (tc := 0) (v := .int 0) rfl rfl (Or.inl (by decide)) g913 v914 ?_
            refine g_putV (i := 690) (kd := 0) (ci := 12) (k := 10) (tc := 0) rfl rfl (Or.inl rfl) g913 (x_ltL l910 rfl) rfl (fun S915 y918 e917 w916 => ?_)
            have l919 := x_wf_len e917 l910
            have v920 := x_wf_at e917 (x_ltL l910 rfl)
            have s921 := x_wsO w916 g913 (l919.trans l910.symm) s912
            have g922 := x_wo_at w916 g913
            refine g_n 1 (pc' := 176) (L' := [some (.ref 281), some (.int 0), none]) (st' := [.ref 281]) rfl ?_
            have v923 := x_wf_ne e917 v914 (x_nb rfl)
            refine g_get (i := 684) (kd := 0) (ci := 12) (k := 7) (tc := 0) (v := .int 0) rfl rfl (Or.inl (by decide)) g922 v923 ?_
            refine g_n 1 (pc' := 180) (L' := [some (.ref 281), some (.int 0), none]) (st' := [.ref 281, .int 0]) rfl ?_
            have v924 := x_wf_ne e917 (x_wf_ne e908 v905 (x_nb rfl)) (x_nb rfl)
            refine g_get (i := 681) (kd := 0) (ci := 12) (k := 6) (tc := 0) (v := .int 0) rfl rfl (Or.inl (by decide)) g922 v924 ?_
            refine g_n 3 (pc' := 188) (L' := [some (.ref 281), some (.int 0), none]) (st' := [.int 0, .ref 281]) rfl ?_
            refine g_putV (i := 693) (kd := 0) (ci := 12) (k := 8) (tc := 0) rfl rfl (Or.inl rfl) g922 (x_ltL l919 rfl) rfl (fun S925 y928 e927 w926 => ?_)
            have l929 := x_wf_len e927 l919
            have v930 := x_wf_at e927 (x_ltL l919 rfl)
            have s931 := x_wsO w926 g922 (l929.trans l919.symm) s921
            have g932 := x_wo_at w926 g922
            refine g_n 1 (pc' := 192) (L' := [some (.ref 281), some (.int 0), none]) (st' := [.int 1]) rfl ?_
            refine g_ret (ins := .ireturn) (len := 1) (r := (some (.int 1))) rfl rfl rfl ?_
            refine g_n 2 (pc' := 36) (L' := [some (.ref 281), none]) (st' := [.ref 281]) rfl ?_
            refine g_get (i := 693) (kd := 0) (ci := 12) (k := 8) (tc := 0) (v := .int 0) rfl rfl (Or.inl (by decide)) g932 v930 ?_
            refine g_n 2 (pc' := 105) (L' := [some (.ref 281), none]) (st' := [.int 1]) rfl ?_
            refine g_ret (ins := .ireturn) (len := 1) (r := (some (.int 1))) rfl rfl rfl ?_
            refine g_n 2 (pc' := 28) (L' := [some (.ref 281), some (.int 2), none]) (st' := [.ref 281]) rfl ?_
            refine g_vcall (i := 1024) (kd := 3) (j := 478) (np := 0) (ci := 12) (as := [.ref 281]) (rest := []) rfl rfl (Or.inl rfl) (Nat.le_of_ble_eq_true rfl) rfl rfl g932 rfl rfl ?_
            refine g_in (M := x_M478) (L := [some (.ref 281), none]) x_pl478 rfl ?_
            refine g_n 2 (pc' := 2) (L' := [some (.ref 281), none]) (st' := [.int 0, .ref 281]) rfl ?_
            refine g_putV (i := 909) (kd := 0) (ci := 12) (k := 127) (tc := 0) rfl rfl (Or.inl rfl) g932 (x_ltL l929 rfl) rfl (fun S933 y936 e935 w934 => ?_)
            have l937 := x_wf_len e935 l929
            have v938 := x_wf_at e935 (x_ltL l929 rfl)
            have s939 := x_wsO w934 g932 (l937.trans l929.symm) s931
            have g940 := x_wo_at w934 g932
            refine g_n 1 (pc' := 6) (L' := [some (.ref 281), none]) (st' := [.ref 281]) rfl ?_
            refine g_vcall (i := 976) (kd := 3) (j := 464) (np := 0) (ci := 12) (as := [.ref 281]) (rest := []) rfl rfl (Or.inl rfl) (Nat.le_of_ble_eq_true rfl) rfl rfl g940 rfl rfl ?_
            refine g_in (M := x_M464) (L := [some (.ref 281), none, none]) x_pl464 rfl ?_
            refine g_n 5 (pc' := 7) (L' := [some (.ref 281), some (.int 120), none]) (st' := [.ref 281, .int 120, .int 120]) rfl ?_
            have v941 := x_wf_ne e935 (x_wf_ne e927 (x_wf_ne e917 (x_wf_ne e908 (x_wf_ne e898 v870 (x_nb rfl)) (x_nb rfl)) (x_nb rfl)) (x_nb rfl)) (x_nb rfl)
            refine g_get (i := 33) (kd := 1) (ci := 12) (k := 20) (tc := 3) (v := .ref 288) rfl rfl (Or.inl (by decide)) g940 v941 ?_
            refine g_n 1 (pc' := 11) (L' := [some (.ref 281), some (.int 120), none]) (st' := [.int 4, .ref 288, .int 120, .int 120]) rfl ?_
            have g942 := x_wa_ne w934 (x_wa_ne w926 (x_wa_ne w916 (x_wa_ne w907 (x_wa_ne w897 (x_wa_ne w892 (x_wa_ne w883 g876 (x_nb rfl)) (x_nb rfl)) (x_nb rfl)) (x_nb rfl)) (x_nb rfl)) (x_nb rfl)) (x_nb rfl)
            refine g_ia (i := 4) (a := 288) (n := 5) (v := 0) rfl g942 (by decide) rfl ?_
            refine g_n 7 (pc' := 198) (L' := [some (.ref 281), some (.int 16), none]) (st' := [.ref 281, .int 16, .int 16]) rfl ?_
            have v943 := x_wf_ne e935 (x_wf_ne e927 (x_wf_ne e917 (x_wf_ne e908 (x_wf_ne e898 v879 (x_nb rfl)) (x_nb rfl)) (x_nb rfl)) (x_nb rfl)) (x_nb rfl)
            refine g_get (i := 36) (kd := 1) (ci := 12) (k := 21) (tc := 3) (v := .ref 289) rfl rfl (Or.inl (by decide)) g940 v943 ?_
            refine g_n 1 (pc' := 202) (L' := [some (.ref 281), some (.int 16), none]) (st' := [.int 4, .ref 289, .int 16, .int 16]) rfl ?_
            have g944 := x_wa_ne w934 (x_wa_ne w926 (x_wa_ne w916 (x_wa_ne w907 (x_wa_ne w897 (x_wa_ne w892 g885 (x_nb rfl)) (x_nb rfl)) (x_nb rfl)) (x_nb rfl)) (x_nb rfl)) (x_nb rfl)
            refine g_ia (i := 4) (a := 289) (n := 5) (v := 0) rfl g944 (by decide) rfl ?_
            refine g_n 2 (pc' := 270) (L' := [some (.ref 281), some (.int 16), none]) (st' := []) rfl ?_
            refine g_ret (ins := .return_) (len := 1) (r := none) rfl rfl rfl ?_
            refine g_n 5 (pc' := 16) (L' := [some (.ref 281), some (.int 120)]) (st' := [.ref 281, .int 120, .int 120]) rfl ?_
            refine g_get (i := 33) (kd := 1) (ci := 12) (k := 20) (tc := 3) (v := .ref 288) rfl rfl (Or.inl (by decide)) g940 v941 ?_
            refine g_n 1 (pc' := 20) (L' := [some (.ref 281), some (.int 120)]) (st' := [.int 4, .ref 288, .int 120, .int 120]) rfl ?_
            refine g_ia (i := 4) (a := 288) (n := 5) (v := 0) rfl g942 (by decide) rfl ?_
            refine g_n 7 (pc' := 60) (L' := [some (.ref 281), some (.int 16)]) (st' := [.ref 281, .int 16, .int 16]) rfl ?_
            refine g_get (i := 36) (kd := 1) (ci := 12) (k := 21) (tc := 3) (v := .ref 289) rfl rfl (Or.inl (by decide)) g940 v943 ?_
            refine g_n 1 (pc' := 64) (L' := [some (.ref 281), some (.int 16)]) (st' := [.int 4, .ref 289, .int 16, .int 16]) rfl ?_
            refine g_ia (i := 4) (a := 289) (n := 5) (v := 0) rfl g944 (by decide) rfl ?_
            refine g_n 3 (pc' := 81) (L' := [some (.ref 281), some (.int 16)]) (st' := [.ref 281]) rfl ?_
            refine g_get (i := 909) (kd := 0) (ci := 12) (k := 127) (tc := 0) (v := .int 0) rfl rfl (Or.inl (by decide)) g940 v938 ?_
            refine g_n 2 (pc' := 101) (L' := [some (.ref 281), some (.int 16)]) (st' := [.ref 281]) rfl ?_
            refine g_get (i := 909) (kd := 0) (ci := 12) (k := 127) (tc := 0) (v := .int 0) rfl rfl (Or.inl (by decide)) g940 v938 ?_
            refine g_n 3 (pc' := 112) (L' := [some (.ref 281), some (.int 16)]) (st' := [.int 1]) rfl ?_
            refine g_ret (ins := .ireturn) (len := 1) (r := (some (.int 1))) rfl rfl rfl ?_
            refine g_n 6 (pc' := 57) (L' := [some (.ref 281), some (.int 2), some (.int 120)]) (st' := [.ref 281, .int 120, .int 120]) rfl ?_
            refine g_get (i := 33) (kd := 1) (ci := 12) (k := 20) (tc := 3) (v := .ref 288) rfl rfl (Or.inl (by decide)) g940 v941 ?_
            refine g_n 1 (pc' := 61) (L' := [some (.ref 281), some (.int 2), some (.int 120)]) (st' := [.int 4, .ref 288, .int 120, .int 120]) rfl ?_
            refine g_ia (i := 4) (a := 288) (n := 5) (v := 0) rfl g942 (by decide) rfl ?_
            refine g_n 4 (pc' := 88) (L' := [some (.ref 281), some (.int 2), some (.int 120)]) (st' := [.int 2, .ref 281]) rfl ?_
            refine g_vcall (i := 1030) (kd := 3) (j := 485) (np := 1) (ci := 12) (as := [.ref 281, .int 2]) (rest := []) rfl rfl (Or.inl rfl) (Nat.le_of_ble_eq_true rfl) rfl rfl g940 rfl rfl ?_
            refine g_in (M := x_M485) (L := [some (.ref 281), some (.int 2), none, none, none, none]) x_pl485 rfl ?_
            refine g_n 1 (pc' := 1) (L' := [some (.ref 281), some (.int 2), none, none, none, none]) (st' := [.ref 281]) rfl ?_
            have v945 : x_MF[19]? = some (.ref 287) := rfl
            have v946 := x_wf_ne e935 (x_wf_ne e927 (x_wf_ne e917 (x_wf_ne e908 (x_wf_ne e898 (x_wf_ne e863 (x_wf_ne e855 (x_wf_ne e847 (x_wf_ne e839 (x_wf_ne e830 v945 (x_nb rfl)) (x_nb rfl)) (x_nb rfl)) (x_nb rfl)) (x_nb rfl)) (x_nb rfl)) (x_nb rfl)) (x_nb rfl)) (x_nb rfl)) (x_nb rfl)
            refine g_get (i := 29) (kd := 1) (ci := 12) (k := 19) (tc := 3) (v := .ref 287) rfl rfl (Or.inl (by decide)) g940 v946 ?_
            refine g_n 2 (pc' := 6) (L' := [some (.ref 281), some (.int 2), none, none, none, none]) (st' := [.int 1, .int 2, .ref 287]) rfl ?_
            have b947 : x_arr (x_W fi fl fr) 287 = some (3, 5, .inl fun _ => 0) := rfl
            have g948 := x_wa_ne w934 (x_wa_ne w926 (x_wa_ne w916 (x_wa_ne w907 (x_wa_ne w897 (x_wa_ne w892 (x_wa_ne w883 (x_wa_ne w874 (x_wa_ne w862 (x_wa_ne w854 (x_wa_ne w846 (x_wa_ne w838 (x_wa_ne w828 (x_wa_ne w787 (x_wa_ne w781 (x_wa_ne w280 (x_wa_ne w274 (x_wa_ne w269 (x_wa_ne w265 (x_wa_ne w257 (x_wa_ne w253 (x_wa_ne w245 (x_wa_ne w236 (x_wa_ne w232 (x_wa_ne w228 (x_wa_ne w224 (x_wa_ne w219 (x_wa_ne w209 (x_wa_ne w199 (x_wa_ne w189 (x_wa_ne w179 (x_wa_ne w169 (x_wa_ne w159 (x_wa_ne w155 (x_wa_ne w148 (x_wa_ne w144 (x_wa_ne w138 (x_wa_ne w134 (x_wa_ne w130 (x_wa_ne w126 (x_wa_ne w122 (x_wa_ne w116 (x_wa_ne w109 (x_wa_ne w104 (x_wa_ne w99 (x_wa_ne w95 (x_wa_ne w90 (x_wa_ne w86 (x_wa_ne w81 (x_wa_ne w76 (x_wa_ne w69 (x_wa_ne w61 (x_wa_ne w53 (x_wa_ne w46 (x_wa_ne w37 (x_wa_ne w33 (x_wa_ne w26 (x_wa_ne w22 (x_wa_ne w16 (x_wa_ne w12 b947 (x_nb rfl)) (x_nb rfl)) (x_nb rfl)) (x_nb rfl)) (x_nb rfl)) (x_nb rfl)) (x_nb rfl)) (x_nb rfl)) (x_nb rfl)) (x_nb rfl)) (x_nb rfl)) (x_nb rfl)) (x_nb rfl)) (x_nb rfl)) (x_nb rfl)) (x_nb rfl)) (x_nb rfl)) (x_nb rfl)) (x_nb rfl)) (x_nb rfl)) (x_nb rfl)) (x_nb rfl)) (x_nb rfl)) (x_nb rfl)) (x_nb rfl)) (x_nb rfl)) (x_nb rfl)) (x_nb rfl)) (x_nb rfl)) (x_nb rfl)) (x_nb rfl)) (x_nb rfl)) (x_nb rfl)) (x_nb rfl)) (x_nb rfl)) (x_nb rfl)) (x_nb rfl)) (x_nb rfl)) (x_nb rfl)) (x_nb rfl)) (x_nb rfl)) (x_nb rfl)) (x_nb rfl)) (x_nb rfl)) (x_nb rfl)) (x_nb rfl)) (x_nb rfl)) (x_nb rfl)) (x_nb rfl)) (x_nb rfl)) (x_nb rfl)) (x_nb rfl)) (x_nb rfl)) (x_nb rfl)) (x_nb rfl)) (x_nb rfl)) (x_nb rfl)) (x_nb rfl)) (x_nb rfl)) (x_nb rfl)
            refine g_bs3N rfl g948 (by decide) (fun S949 w950 => ?_)
            have s951 := x_wsA w950 g948 rfl s939
            have g952 := x_wa_at w950 g948
            refine g_n 1 (pc' := 8) (L' := [some (.ref 281), some (.int 2), none, none, none, none]) (st' := [.ref 281]) rfl ?_
            have g953 := x_wo_ne w950 g940 (x_nb rfl)
            refine g_get (i := 33) (kd := 1) (ci := 12) (k := 20) (tc := 3) (v := .ref 288) rfl rfl (Or.inl (by decide)) g953 v941 ?_
            refine g_n 2 (pc' := 13) (L' := [some (.ref 281), some (.int 2), none, none, none, none]) (st' := [.ref 281, .int 2, .ref 288]) rfl ?_
            refine g_get (i := 33) (kd := 1) (ci := 12) (k := 20) (tc := 3) (v := .ref 288) rfl rfl (Or.inl (by decide)) g953 v941 ?_
            refine g_n 1 (pc' := 17) (L' := [some (.ref 281), some (.int 2), none, none, none, none]) (st' := [.int 4, .ref 288, .int 2, .ref 288]) rfl ?_
            have g954 := x_wa_ne w950 g942 (x_nb rfl)
            refine g_ia (i := 4) (a := 288) (n := 5) (v := 0) rfl g954 (by decide) rfl ?_
            refine g_isN rfl g954 (by decide) (fun S955 w956 => ?_)
            have s957 := x_wsA w956 g954 rfl s951
            have g958 := x_wa_at w956 g954
            refine g_n 1 (pc' := 20) (L' := [some (.ref 281), some (.int 2), none, none, none, none]) (st' := [.ref 281]) rfl ?_
            have g959 := x_wo_ne w956 g953 (x_nb rfl)
            refine g_get (i := 36) (kd := 1) (ci := 12) (k := 21) (tc := 3) (v := .ref 289) rfl rfl (Or.inl (by decide)) g959 v943 ?_
            refine g_n 2 (pc' := 25) (L' := [some (.ref 281), some (.int 2), none, none, none, none]) (st' := [.ref 281, .int 2, .ref 289]) rfl ?_
            refine g_get (i := 36) (kd := 1) (ci := 12) (k := 21) (tc := 3) (v := .ref 289) rfl rfl (Or.inl (by decide)) g959 v943 ?_
            refine g_n 1 (pc' := 29) (L' := [some (.ref 281), some (.int 2), none, none, none, none]) (st' := [.int 4, .ref 289, .int 2, .ref 289]) rfl ?_
            have g960 := x_wa_ne w956 (x_wa_ne w950 g944 (x_nb rfl)) (x_nb rfl)
            refine g_ia (i := 4) (a := 289) (n := 5) (v := 0) rfl g960 (by decide) rfl ?_
            refine g_isN rfl g960 (by decide) (fun S961 w962 => ?_)
            have s963 := x_wsA w962 g960 rfl s957
            have g964 := x_wa_at w962 g960
            refine g_n 1 (pc' := 32) (L' := [some (.ref 281), some (.int 2), none, none, none, none]) (st' := [.ref 281]) rfl ?_
            have g965 := x_wo_ne w962 g959 (x_nb rfl)
            have v966 := x_wf_ne e935 (x_wf_ne e927 (x_wf_ne e917 (x_wf_ne e908 (x_wf_ne e898 v888 (x_nb rfl)) (x_nb rfl)) (x_nb rfl)) (x_nb rfl)) (x_nb rfl)
            refine g_get (i := 318) (kd := 1) (ci := 12) (k := 115) (tc := 3) (v := .ref 382) rfl rfl (Or.inl (by decide)) g965 v966 ?_
            refine g_n 2 (pc' := 37) (L' := [some (.ref 281), some (.int 2), none, none, none, none]) (st' := [.ref 281, .int 2, .ref 382]) rfl ?_
            refine g_get (i := 318) (kd := 1) (ci := 12) (k := 115) (tc := 3) (v := .ref 382) rfl rfl (Or.inl (by decide)) g965 v966 ?_
            refine g_n 1 (pc' := 41) (L' := [some (.ref 281), some (.int 2), none, none, none, none]) (st' := [.int 4, .ref 382, .int 2, .ref 382]) rfl ?_
            have g967 := x_wa_ne w962 (x_wa_ne w956 (x_wa_ne w950 (x_wa_ne w934 (x_wa_ne w926 (x_wa_ne w916 (x_wa_ne w907 (x_wa_ne w897 g894 (x_nb rfl)) (x_nb rfl)) (x_nb rfl)) (x_nb rfl)) (x_nb rfl)) (x_nb rfl)) (x_nb rfl)) (x_nb rfl)
            refine g_ia (i := 4) (a := 382) (n := 5) (v := 0) rfl g967 (by decide) rfl ?_
            refine g_isN rfl g967 (by decide) (fun S968 w969 => ?_)
            have s970 := x_wsA w969 g967 rfl s963
            have g971 := x_wa_at w969 g967
            refine g_n 4 (pc' := 47) (L' := [some (.ref 281), some (.int 2), some (.int 0), none, none, none]) (st' := [.ref 281, .int 0]) rfl ?_
            have g972 := x_wo_ne w969 g965 (x_nb rfl)
            refine g_get (i := 318) (kd := 1) (ci := 12) (k := 115) (tc := 3) (v := .ref 382) rfl rfl (Or.inl (by decide)) g972 v966 ?_
            refine g_n 1 (pc' := 51) (L' := [some (.ref 281), some (.int 2), some (.int 0), none, none, none]) (st' := [.int 2, .ref 382, .int 0]) rfl ?_
            refine g_ia (i := 2) (a := 382) (n := 5) (v := 0) rfl g971 (by decide) rfl ?_
            refine g_n 5 (pc' := 87) (L' := [some (.ref 281), some (.int 2), some (.int 0), none, none, none]) (st' := [.ref 281, .int 0]) rfl ?_
            refine g_get (i := 33) (kd := 1) (ci := 12) (k := 20) (tc := 3) (v := .ref 288) rfl rfl (Or.inl (by decide)) g972 v941 ?_
            refine g_n 1 (pc' := 91) (L' := [some (.ref 281), some (.int 2), some (.int 0), none, none, none]) (st' := [.int 2, .ref 288, .int 0]) rfl ?_
            have g973 := x_wa_ne w969 (x_wa_ne w962 g958 (x_nb rfl)) (x_nb rfl)
            refine g_ia (i := 2) (a := 288) (n := 5) (v := 0) rfl g973 (by decide) rfl ?_
            refine g_n 5 (pc' := 502) (L' := [some (.ref 281), some (.int 2), some (.int 0), none, none, none]) (st' := [.ref 281, .int 0]) rfl ?_
            refine g_get (i := 36) (kd := 1) (ci := 12) (k := 21) (tc := 3) (v := .ref 289) rfl rfl (Or.inl (by decide)) g972 v943 ?_
            refine g_n 1 (pc' := 506) (L' := [some (.ref 281), some (.int 2), some (.int 0), none, none, none]) (st' := [.int 2, .ref 289, .int 0]) rfl ?_
            have g974 := x_wa_ne w969 g964 (x_nb rfl)
            refine g_ia (i := 2) (a := 289) (n := 5) (v := 0) rfl g974 (by decide) rfl ?_
            refine g_n 1 (pc' := 529) (L' := [some (.ref 281), some (.int 2), some (.int 0), none, none, none]) (st' := []) rfl ?_
            refine g_ret (ins := .return_) (len := 1) (r := none) rfl rfl rfl ?_
            refine g_n 2 (pc' := 93) (L' := [some (.ref 281), some (.int 2), some (.int 120)]) (st' := [.int 2, .ref 281]) rfl ?_
            refine g_vcall (i := 1033) (kd := 3) (j := 712) (np := 1) (ci := 12) (as := [.ref 281, .int 2]) (rest := []) rfl rfl (Or.inl rfl) (Nat.le_of_ble_eq_true rfl) rfl rfl g972 rfl rfl ?_
            refine g_in (M := x_M712) (L := [some (.ref 281), some (.int 2), none]) x_pl712 rfl ?_
            refine g_n 6 (pc' := 9) (L' := [some (.ref 281), some (.int 2), some (.int 0)]) (st' := [.ref 281]) rfl ?_
            have v975 : x_MF[135]? = some (.ref 387) := rfl
            have v976 := x_wf_ne e935 (x_wf_ne e927 (x_wf_ne e917 (x_wf_ne e908 (x_wf_ne e898 (x_wf_ne e863 (x_wf_ne e855 (x_wf_ne e847 (x_wf_ne e839 (x_wf_ne e830 v975 (x_nb rfl)) (x_nb rfl)) (x_nb rfl)) (x_nb rfl)) (x_nb rfl)) (x_nb rfl)) (x_nb rfl)) (x_nb rfl)) (x_nb rfl)) (x_nb rfl)
            refine g_get (i := 333) (kd := 1) (ci := 12) (k := 135) (tc := 3) (v := .ref 387) rfl rfl (Or.inl (by decide)) g972 v976 ?_
            refine g_n 1 (pc' := 13) (L' := [some (.ref 281), some (.int 2), some (.int 0)]) (st' := [.int 0, .ref 387]) rfl ?_
            have b977 : x_arr (x_W fi fl fr) 387 = some (3, 16, .inl fun _ => 0) := rfl
            have g978 := x_wa_ne w969 (x_wa_ne w962 (x_wa_ne w956 (x_wa_ne w950 (x_wa_ne w934 (x_wa_ne w926 (x_wa_ne w916 (x_wa_ne w907 (x_wa_ne w897 (x_wa_ne w892 (x_wa_ne w883 (x_wa_ne w874 (x_wa_ne w862 (x_wa_ne w854 (x_wa_ne w846 (x_wa_ne w838 (x_wa_ne w828 (x_wa_ne w787 (x_wa_ne w781 (x_wa_ne w280 (x_wa_ne w274 (x_wa_ne w269 (x_wa_ne w265 (x_wa_ne w257 (x_wa_ne w253 (x_wa_ne w245 (x_wa_ne w236 (x_wa_ne w232 (x_wa_ne w228 (x_wa_ne w224 (x_wa_ne w219 (x_wa_ne w209 (x_wa_ne w199 (x_wa_ne w189 (x_wa_ne w179 (x_wa_ne w169 (x_wa_ne w159 (x_wa_ne w155 (x_wa_ne w148 (x_wa_ne w144 (x_wa_ne w138 (x_wa_ne w134 (x_wa_ne w130 (x_wa_ne w126 (x_wa_ne w122 (x_wa_ne w116 (x_wa_ne w109 (x_wa_ne w104 (x_wa_ne w99 (x_wa_ne w95 (x_wa_ne w90 (x_wa_ne w86 (x_wa_ne w81 (x_wa_ne w76 (x_wa_ne w69 (x_wa_ne w61 (x_wa_ne w53 (x_wa_ne w46 (x_wa_ne w37 (x_wa_ne w33 (x_wa_ne w26 (x_wa_ne w22 (x_wa_ne w16 (x_wa_ne w12 b977 (x_nb rfl)) (x_nb rfl)) (x_nb rfl)) (x_nb rfl)) (x_nb rfl)) (x_nb rfl)) (x_nb rfl)) (x_nb rfl)) (x_nb rfl)) (x_nb rfl)) (x_nb rfl)) (x_nb rfl)) (x_nb rfl)) (x_nb rfl)) (x_nb rfl)) (x_nb rfl)) (x_nb rfl)) (x_nb rfl)) (x_nb rfl)) (x_nb rfl)) (x_nb rfl)) (x_nb rfl)) (x_nb rfl)) (x_nb rfl)) (x_nb rfl)) (x_nb rfl)) (x_nb rfl)) (x_nb rfl)) (x_nb rfl)) (x_nb rfl)) (x_nb rfl)) (x_nb rfl)) (x_nb rfl)) (x_nb rfl)) (x_nb rfl)) (x_nb rfl)) (x_nb rfl)) (x_nb rfl)) (x_nb rfl)) (x_nb rfl)) (x_nb rfl)) (x_nb rfl)) (x_nb rfl)) (x_nb rfl)) (x_nb rfl)) (x_nb rfl)) (x_nb rfl)) (x_nb rfl)) (x_nb rfl)) (x_nb rfl)) (x_nb rfl)) (x_nb rfl)) (x_nb rfl)) (x_nb rfl)) (x_nb rfl)) (x_nb rfl)) (x_nb rfl)) (x_nb rfl)) (x_nb rfl)) (x_nb rfl)) (x_nb rfl)) (x_nb rfl)) (x_nb rfl)) (x_nb rfl)
            refine g_ba3 (i := 0) (a := 387) (n := 16) (v := 0) rfl g978 (by decide) rfl ?_
            refine g_n 7 (pc' := 9) (L' := [some (.ref 281), some (.int 2), some (.int 1)]) (st' := [.ref 281]) rfl ?_
            refine g_get (i := 333) (kd := 1) (ci := 12) (k := 135) (tc := 3) (v := .ref 387) rfl rfl (Or.inl (by decide)) g972 v976 ?_
            refine g_n 1 (pc' := 13) (L' := [some (.ref 281), some (.int 2), some (.int 1)]) (st' := [.int 1, .ref 387]) rfl ?_
            refine g_ba3 (i := 1) (a := 387) (n := 16) (v := 0) rfl g978 (by decide) rfl ?_
            refine g_n 7 (pc' := 9) (L' := [some (.ref 281), some (.int 2), some (.int 2)]) (st' := [.ref 281]) rfl ?_
            refine g_get (i := 333) (kd := 1) (ci := 12) (k := 135) (tc := 3) (v := .ref 387) rfl rfl (Or.inl (by decide)) g972 v976 ?_
            refine g_n 1 (pc' := 13) (L' := [some (.ref 281), some (.int 2), some (.int 2)]) (st' := [.int 2, .ref 387]) rfl ?_
            refine g_ba3 (i := 2) (a := 387) (n := 16) (v := 0) rfl g978 (by decide) rfl ?_
            refine g_n 7 (pc' := 9) (L' := [some (.ref 281), some (.int 2), some (.int 3)]) (st' := [.ref 281]) rfl ?_
            refine g_get (i := 333) (kd := 1) (ci := 12) (k := 135) (tc := 3) (v := .ref 387) rfl rfl (Or.inl (by decide)) g972 v976 ?_
            refine g_n 1 (pc' := 13) (L' := [some (.ref 281), some (.int 2), some (.int 3)]) (st' := [.int 3, .ref 387]) rfl ?_
            refine g_ba3 (i := 3) (a := 387) (n := 16) (v := 0) rfl g978 (by decide) rfl ?_
            refine g_n 7 (pc' := 9) (L' := [some (.ref 281), some (.int 2), some (.int 4)]) (st' := [.ref 281]) rfl ?_
            refine g_get (i := 333) (kd := 1) (ci := 12) (k := 135) (tc := 3) (v := .ref 387) rfl rfl (Or.inl (by decide)) g972 v976 ?_
            refine g_n 1 (pc' := 13) (L' := [some (.ref 281), some (.int 2), some (.int 4)]) (st' := [.int 4, .ref 387]) rfl ?_
            refine g_ba3 (i := 4) (a := 387) (n := 16) (v := 0) rfl g978 (by decide) rfl ?_
            refine g_n 7 (pc' := 9) (L' := [some (.ref 281), some (.int 2), some (.int 5)]) (st' := [.ref 281]) rfl ?_
            refine g_get (i := 333) (kd := 1) (ci := 12) (k := 135) (tc := 3) (v := .ref 387) rfl rfl (Or.inl (by decide)) g972 v976 ?_
            refine g_n 1 (pc' := 13) (L' := [some (.ref 281), some (.int 2), some (.int 5)]) (st' := [.int 5, .ref 387]) rfl ?_
            refine g_ba3 (i := 5) (a := 387) (n := 16) (v := 0) rfl g978 (by decide) rfl ?_
            refine g_n 7 (pc' := 9) (L' := [some (.ref 281), some (.int 2), some (.int 6)]) (st' := [.ref 281]) rfl ?_
            refine g_get (i := 333) (kd := 1) (ci := 12) (k := 135) (tc := 3) (v := .ref 387) rfl rfl (Or.inl (by decide)) g972 v976 ?_
            refine g_n 1 (pc' := 13) (L' := [some (.ref 281), some (.int 2), some (.int 6)]) (st' := [.int 6, .ref 387]) rfl ?_
            refine g_ba3 (i := 6) (a := 387) (n := 16) (v := 0) rfl g978 (by decide) rfl ?_
            refine g_n 7 (pc' := 9) (L' := [some (.ref 281), some (.int 2), some (.int 7)]) (st' := [.ref 281]) rfl ?_
            refine g_get (i := 333) (kd := 1) (ci := 12) (k := 135) (tc := 3) (v := .ref 387) rfl rfl (Or.inl (by decide)) g972 v976 ?_
            refine g_n 1 (pc' := 13) (L' := [some (.ref 281), some (.int 2), some (.int 7)]) (st' := [.int 7, .ref 387]) rfl ?_
            refine g_ba3 (i := 7) (a := 387) (n := 16) (v := 0) rfl g978 (by decide) rfl ?_
            refine g_n 7 (pc' := 9) (L' := [some (.ref 281), some (.int 2), some (.int 8)]) (st' := [.ref 281]) rfl ?_
            refine g_get (i := 333) (kd := 1) (ci := 12) (k := 135) (tc := 3) (v := .ref 387) rfl rfl (Or.inl (by decide)) g972 v976 ?_
            refine g_n 1 (pc' := 13) (L' := [some (.ref 281), some (.int 2), some (.int 8)]) (st' := [.int 8, .ref 387]) rfl ?_
            refine g_ba3 (i := 8) (a := 387) (n := 16) (v := 0) rfl g978 (by decide) rfl ?_
            refine g_n 7 (pc' := 9) (L' := [some (.ref 281), some (.int 2), some (.int 9)]) (st' := [.ref 281]) rfl ?_
            refine g_get (i := 333) (kd := 1) (ci := 12) (k := 135) (tc := 3) (v := .ref 387) rfl rfl (Or.inl (by decide)) g972 v976 ?_
            refine g_n 1 (pc' := 13) (L' := [some (.ref 281), some (.int 2), some (.int 9)]) (st' := [.int 9, .ref 387]) rfl ?_
            refine g_ba3 (i := 9) (a := 387) (n := 16) (v := 0) rfl g978 (by decide) rfl ?_
            refine g_n 7 (pc' := 9) (L' := [some (.ref 281), some (.int 2), some (.int 10)]) (st' := [.ref 281]) rfl ?_
            refine g_get (i := 333) (kd := 1) (ci := 12) (k := 135) (tc := 3) (v := .ref 387) rfl rfl (Or.inl (by decide)) g972 v976 ?_
            refine g_n 1 (pc' := 13) (L' := [some (.ref 281), some (.int 2), some (.int 10)]) (st' := [.int 10, .ref 387]) rfl ?_
            refine g_ba3 (i := 10) (a := 387) (n := 16) (v := 0) rfl g978 (by decide) rfl ?_
            refine g_n 7 (pc' := 9) (L' := [some (.ref 281), some (.int 2), some (.int 11)]) (st' := [.ref 281]) rfl ?_
            refine g_get (i := 333) (kd := 1) (ci := 12) (k := 135) (tc := 3) (v := .ref 387) rfl rfl (Or.inl (by decide)) g972 v976 ?_
            refine g_n 1 (pc' := 13) (L' := [some (.ref 281), some (.int 2), some (.int 11)]) (st' := [.int 11, .ref 387]) rfl ?_
            refine g_ba3 (i := 11) (a := 387) (n := 16) (v := 0) rfl g978 (by decide) rfl ?_
            refine g_n 7 (pc' := 41) (L' := [some (.ref 281), some (.int 2), some (.int 12)]) (st' := [.ref 281]) rfl ?_
            have v979 : x_MF[260]? = some (.int 0) := rfl
            have v980 := x_wf_ne e935 (x_wf_ne e927 (x_wf_ne e917 (x_wf_ne e908 (x_wf_ne e898 (x_wf_ne e863 (x_wf_ne e855 (x_wf_ne e847 (x_wf_ne e839 (x_wf_ne e830 v979 (x_nb rfl)) (x_nb rfl)) (x_nb rfl)) (x_nb rfl)) (x_nb rfl)) (x_nb rfl)) (x_nb rfl)) (x_nb rfl)) (x_nb rfl)) (x_nb rfl)
            refine g_get (i := 1889) (kd := 0) (ci := 12) (k := 260) (tc := 2) (v := .int 0) rfl rfl (Or.inl (by decide)) g972 v980 ?_
            refine g_n 7 (pc' := 92) (L' := [some (.ref 281), some (.int 2), some (.int 0)]) (st' := [.ref 281]) rfl ?_
            have v981 : x_MF[280]? = some (.ref 470) := rfl
            have v982 := x_wf_ne e935 (x_wf_ne e927 (x_wf_ne e917 (x_wf_ne e908 (x_wf_ne e898 (x_wf_ne e863 (x_wf_ne e855 (x_wf_ne e847 (x_wf_ne e839 (x_wf_ne e830 v981 (x_nb rfl)) (x_nb rfl)) (x_nb rfl)) (x_nb rfl)) (x_nb rfl)) (x_nb rfl)) (x_nb rfl)) (x_nb rfl)) (x_nb rfl)) (x_nb rfl)
            refine g_get (i := 585) (kd := 1) (ci := 12) (k := 280) (tc := 3) (v := .ref 470) rfl rfl (Or.inl (by decide)) g972 v982 ?_
            refine g_n 1 (pc' := 96) (L' := [some (.ref 281), some (.int 2), some (.int 0)]) (st' := [.int 0, .ref 470]) rfl ?_
            have b983 : x_arr (x_W fi fl fr) 470 = some (3, 3, .inl fun _ => 0) := rfl
            have g984 := x_wa_ne w969 (x_wa_ne w962 (x_wa_ne w956 (x_wa_ne w950 (x_wa_ne w934 (x_wa_ne w926 (x_wa_ne w916 (x_wa_ne w907 (x_wa_ne w897 (x_wa_ne w892 (x_wa_ne w883 (x_wa_ne w874 (x_wa_ne w862 (x_wa_ne w854 (x_wa_ne w846 (x_wa_ne w838 (x_wa_ne w828 (x_wa_ne w787 (x_wa_ne w781 (x_wa_ne w280 (x_wa_ne w274 (x_wa_ne w269 (x_wa_ne w265 (x_wa_ne w257 (x_wa_ne w253 (x_wa_ne w245 (x_wa_ne w236 (x_wa_ne w232 (x_wa_ne w228 (x_wa_ne w224 (x_wa_ne w219 (x_wa_ne w209 (x_wa_ne w199 (x_wa_ne w189 (x_wa_ne w179 (x_wa_ne w169 (x_wa_ne w159 (x_wa_ne w155 (x_wa_ne w148 (x_wa_ne w144 (x_wa_ne w138 (x_wa_ne w134 (x_wa_ne w130 (x_wa_ne w126 (x_wa_ne w122 (x_wa_ne w116 (x_wa_ne w109 (x_wa_ne w104 (x_wa_ne w99 (x_wa_ne w95 (x_wa_ne w90 (x_wa_ne w86 (x_wa_ne w81 (x_wa_ne w76 (x_wa_ne w69 (x_wa_ne w61 (x_wa_ne w53 (x_wa_ne w46 (x_wa_ne w37 (x_wa_ne w33 (x_wa_ne w26 (x_wa_ne w22 (x_wa_ne w16 (x_wa_ne w12 b983 (x_nb rfl)) (x_nb rfl)) (x_nb rfl)) (x_nb rfl)) (x_nb rfl)) (x_nb rfl)) (x_nb rfl)) (x_nb rfl)) (x_nb rfl)) (x_nb rfl)) (x_nb rfl)) (x_nb rfl)) (x_nb rfl)) (x_nb rfl)) (x_nb rfl)) (x_nb rfl)) (x_nb rfl)) (x_nb rfl)) (x_nb rfl)) (x_nb rfl)) (x_nb rfl)) (x_nb rfl)) (x_nb rfl)) (x_nb rfl)) (x_nb rfl)) (x_nb rfl)) (x_nb rfl)) (x_nb rfl)) (x_nb rfl)) (x_nb rfl)) (x_nb rfl)) (x_nb rfl)) (x_nb rfl)) (x_nb rfl)) (x_nb rfl)) (x_nb rfl)) (x_nb rfl)) (x_nb rfl)) (x_nb rfl)) (x_nb rfl)) (x_nb rfl)) (x_nb rfl)) (x_nb rfl)) (x_nb rfl)) (x_nb rfl)) (x_nb rfl)) (x_nb rfl)) (x_nb rfl)) (x_nb rfl)) (x_nb rfl)) (x_nb rfl)) (x_nb rfl)) (x_nb rfl)) (x_nb rfl)) (x_nb rfl)) (x_nb rfl)) (x_nb rfl)) (x_nb rfl)) (x_nb rfl)) (x_nb rfl)) (x_nb rfl)) (x_nb rfl)) (x_nb rfl)) (x_nb rfl)
            refine g_ba3 (i := 0) (a := 470) (n := 3) (v := 0) rfl g984 (by decide) rfl ?_
            refine g_n 7 (pc' := 92) (L' := [some (.ref 281), some (.int 2), some (.int 1)]) (st' := [.ref 281]) rfl ?_
            refine g_get (i := 585) (kd := 1) (ci := 12) (k := 280) (tc := 3) (v := .ref 470) rfl rfl (Or.inl (by decide)) g972 v982 ?_
            refine g_n 1 (pc' := 96) (L' := [some (.ref 281), some (.int 2), some (.int 1)]) (st' := [.int 1, .ref 470]) rfl ?_
            refine g_ba3 (i := 1) (a := 470) (n := 3) (v := 0) rfl g984 (by decide) rfl ?_
            refine g_n 7 (pc' := 92) (L' := [some (.ref 281), some (.int 2), some (.int 2)]) (st' := [.ref 281]) rfl ?_
            refine g_get (i := 585) (kd := 1) (ci := 12) (k := 280) (tc := 3) (v := .ref 470) rfl rfl (Or.inl (by decide)) g972 v982 ?_
            refine g_n 1 (pc' := 96) (L' := [some (.ref 281), some (.int 2), some (.int 2)]) (st' := [.int 2, .ref 470]) rfl ?_
            refine g_ba3 (i := 2) (a := 470) (n := 3) (v := 0) rfl g984 (by decide) rfl ?_
            refine g_n 6 (pc' := 130) (L' := [some (.ref 281), some (.int 2), some (.int 3)]) (st' := []) rfl ?_
            refine g_ret (ins := .return_) (len := 1) (r := none) rfl rfl rfl ?_
            refine g_n 1 (pc' := 97) (L' := [some (.ref 281), some (.int 2), some (.int 120)]) (st' := [.ref 281]) rfl ?_
            refine g_get (i := 33) (kd := 1) (ci := 12) (k := 20) (tc := 3) (v := .ref 288) rfl rfl (Or.inl (by decide)) g972 v941 ?_
            refine g_n 1 (pc' := 101) (L' := [some (.ref 281), some (.int 2), some (.int 120)]) (st' := [.int 2, .ref 288]) rfl ?_
            refine g_ia (i := 2) (a := 288) (n := 5) (v := 0) rfl g973 (by decide) rfl ?_
            exact g_ret (ins := .ireturn) (len := 1) (r := (some (.int 0))) rfl rfl rfl ⟨_, rfl, rfl, s970⟩
          · have q985 : ¬ a = 2 := h776
            have p986 : 3 ≤ a.toInt := x_lo_ne q985 p775 (by decide)
            have e987 : a = 3 := x_sing p986 p8 (by decide)
            subst e987
            have b988 : x_arr (x_W fi fl fr) 2 = some (5, 4, .inr (.inr (.inr (.inr (fr 2))))) := rfl
            have g989 := x_wa_ne w280 (x_wa_ne w274 (x_wa_ne w269 (x_wa_ne w265 (x_wa_ne w257 (x_wa_ne w253 (x_wa_ne w245 (x_wa_ne w236 (x_wa_ne w232 (x_wa_ne w228 (x_wa_ne w224 (x_wa_ne w219 (x_wa_ne w209 (x_wa_ne w199 (x_wa_ne w189 (x_wa_ne w179 (x_wa_ne w169 (x_wa_ne w159 (x_wa_ne w155 (x_wa_ne w148 (x_wa_ne w144 (x_wa_ne w138 (x_wa_ne w134 (x_wa_ne w130 (x_wa_ne w126 (x_wa_ne w122 (x_wa_ne w116 (x_wa_ne w109 (x_wa_ne w104 (x_wa_ne w99 (x_wa_ne w95 (x_wa_ne w90 (x_wa_ne w86 (x_wa_ne w81 (x_wa_ne w76 (x_wa_ne w69 (x_wa_ne w61 (x_wa_ne w53 (x_wa_ne w46 (x_wa_ne w37 (x_wa_ne w33 (x_wa_ne w26 (x_wa_ne w22 (x_wa_ne w16 (x_wa_ne w12 b988 (x_nb rfl)) (x_nb rfl)) (x_nb rfl)) (x_nb rfl)) (x_nb rfl)) (x_nb rfl)) (x_nb rfl)) (x_nb rfl)) (x_nb rfl)) (x_nb rfl)) (x_nb rfl)) (x_nb rfl)) (x_nb rfl)) (x_nb rfl)) (x_nb rfl)) (x_nb rfl)) (x_nb rfl)) (x_nb rfl)) (x_nb rfl)) (x_nb rfl)) (x_nb rfl)) (x_nb rfl)) (x_nb rfl)) (x_nb rfl)) (x_nb rfl)) (x_nb rfl)) (x_nb rfl)) (x_nb rfl)) (x_nb rfl)) (x_nb rfl)) (x_nb rfl)) (x_nb rfl)) (x_nb rfl)) (x_nb rfl)) (x_nb rfl)) (x_nb rfl)) (x_nb rfl)) (x_nb rfl)) (x_nb rfl)) (x_nb rfl)) (x_nb rfl)) (x_nb rfl)) (x_nb rfl)) (x_nb rfl)) (x_nb rfl)
            refine g_aa (i := 3) (a := 2) (n := 4) (v := 96) rfl g989 (by decide) (x_at (x_f2 hF) (k := 3) rfl) ?_
            refine g_n 2 (pc' := 77) (L' := [some (.ref 0), some (.int 3), some (.ref 96), none]) (st' := [.ref 0]) rfl ?_
            refine g_get (i := 42) (kd := 1) (ci := 11) (k := 2) (tc := 3) (v := .ref 2) rfl rfl (Or.inl (by decide)) g282 rfl ?_
            refine g_n 2 (pc' := 82) (L' := [some (.ref 0), some (.int 3), some (.ref 96), none]) (st' := [.ref 0, .int 3, .ref 2]) rfl ?_
            refine g_get (i := 82) (kd := 0) (ci := 11) (k := 4) (tc := 3) (v := .ref 183) rfl rfl (Or.inl (by decide)) g282 rfl ?_
            have g992 := x_wo_ne w280 g276 (x_nb rfl)
            refine g_asN rfl g989 g992 (by decide) (fun S990 w991 => ?_)
            have s993 := x_wsA w991 g989 rfl s281
            have g994 := x_wa_at w991 g989
            refine g_n 2 (pc' := 88) (L' := [some (.ref 0), some (.int 3), some (.ref 96), none]) (st' := [.ref 96, .ref 0]) rfl ?_
            have g995 := x_wo_ne w991 g282 (x_nb rfl)
            refine g_putN (i := 82) (kd := 0) (ci := 11) (k := 4) (tc := 3) (fs' := [.ref 179, .ref 1, .ref 2, .ref 3, .ref 96, .ref 211, .ref 224, .ref 235, .ref 237, .ref 238, .ref 240, .ref 248, .ref 206, .ref 4, .ref 181, .ref 9, .int (-2), .int 0, .long 0]) rfl rfl (Or.inl rfl) g995 (x_ltL rfl rfl) rfl rfl (fun S996 w997 => ?_)
            have s998 := x_wsO w997 g995 rfl s993
            have g999 := x_wo_at w997 g995
            refine g_n 6 (pc' := 100) (L' := [some (.ref 0), some (.int 3), some (.ref 96), some (.int 0)]) (st' := [.ref 0]) rfl ?_
            refine g_get (i := 48) (kd := 1) (ci := 11) (k := 3) (tc := 3) (v := .ref 3) rfl rfl (Or.inl (by decide)) g999 rfl ?_
            refine g_n 1 (pc' := 104) (L' := [some (.ref 0), some (.int 3), some (.ref 96), some (.int 0)]) (st' := [.int 0, .ref 3]) rfl ?_
            have b1000 : x_arr (x_W fi fl fr) 3 = some (6, 12, .inr (.inr (.inr (.inr (fr 3))))) := rfl
            have g1001 := x_wa_ne w997 (x_wa_ne w991 (x_wa_ne w280 (x_wa_ne w274 (x_wa_ne w269 (x_wa_ne w265 (x_wa_ne w257 (x_wa_ne w253 (x_wa_ne w245 (x_wa_ne w236 (x_wa_ne w232 (x_wa_ne w228 (x_wa_ne w224 (x_wa_ne w219 (x_wa_ne w209 (x_wa_ne w199 (x_wa_ne w189 (x_wa_ne w179 (x_wa_ne w169 (x_wa_ne w159 (x_wa_ne w155 (x_wa_ne w148 (x_wa_ne w144 (x_wa_ne w138 (x_wa_ne w134 (x_wa_ne w130 (x_wa_ne w126 (x_wa_ne w122 (x_wa_ne w116 (x_wa_ne w109 (x_wa_ne w104 (x_wa_ne w99 (x_wa_ne w95 (x_wa_ne w90 (x_wa_ne w86 (x_wa_ne w81 (x_wa_ne w76 (x_wa_ne w69 (x_wa_ne w61 (x_wa_ne w53 (x_wa_ne w46 (x_wa_ne w37 (x_wa_ne w33 (x_wa_ne w26 (x_wa_ne w22 (x_wa_ne w16 (x_wa_ne w12 b1000 (x_nb rfl)) (x_nb rfl)) (x_nb rfl)) (x_nb rfl)) (x_nb rfl)) (x_nb rfl)) (x_nb rfl)) (x_nb rfl)) (x_nb rfl)) (x_nb rfl)) (x_nb rfl)) (x_nb rfl)) (x_nb rfl)) (x_nb rfl)) (x_nb rfl)) (x_nb rfl)) (x_nb rfl)) (x_nb rfl)) (x_nb rfl)) (x_nb rfl)) (x_nb rfl)) (x_nb rfl)) (x_nb rfl)) (x_nb rfl)) (x_nb rfl)) (x_nb rfl)) (x_nb rfl)) (x_nb rfl)) (x_nb rfl)) (x_nb rfl)) (x_nb rfl)) (x_nb rfl)) (x_nb rfl)) (x_nb rfl)) (x_nb rfl)) (x_nb rfl)) (x_nb rfl)) (x_nb rfl)) (x_nb rfl)) (x_nb rfl)) (x_nb rfl)) (x_nb rfl)) (x_nb rfl)) (x_nb rfl)) (x_nb rfl)) (x_nb rfl)) (x_nb rfl)
            refine g_aa (i := 0) (a := 3) (n := 12) (v := 119) rfl g1001 (by decide) (x_at (x_f3 hF) (k := 0) rfl) ?_
            have b1002 : x_obj (x_W fi fl fr) 119 = some (10, [.ref 120, .ref 122, .int 402, .int 0, .int 0, .int 0, .int 0, .int 0, .int 0, .int 0, .int 0, .int 0]) := rfl
            have g1003 := x_wo_ne w997 (x_wo_ne w991 (x_wo_ne w280 (x_wo_ne w274 (x_wo_ne w269 (x_wo_ne w265 (x_wo_ne w257 (x_wo_ne w253 (x_wo_ne w245 (x_wo_ne w236 (x_wo_ne w232 (x_wo_ne w228 (x_wo_ne w224 (x_wo_ne w219 (x_wo_ne w209 (x_wo_ne w199 (x_wo_ne w189 (x_wo_ne w179 (x_wo_ne w169 (x_wo_ne w159 (x_wo_ne w155 (x_wo_ne w148 (x_wo_ne w144 (x_wo_ne w138 (x_wo_ne w134 (x_wo_ne w130 (x_wo_ne w126 (x_wo_ne w122 (x_wo_ne w116 (x_wo_ne w109 (x_wo_ne w104 (x_wo_ne w99 (x_wo_ne w95 (x_wo_ne w90 (x_wo_ne w86 (x_wo_ne w81 (x_wo_ne w76 (x_wo_ne w69 (x_wo_ne w61 (x_wo_ne w53 (x_wo_ne w46 (x_wo_ne w37 (x_wo_ne w33 (x_wo_ne w26 (x_wo_ne w22 (x_wo_ne w16 (x_wo_ne w12 b1002 (x_nb rfl)) (x_nb rfl)) (x_nb rfl)) (x_nb rfl)) (x_nb rfl)) (x_nb rfl)) (x_nb rfl)) (x_nb rfl)) (x_nb rfl)) (x_nb rfl)) (x_nb rfl)) (x_nb rfl)) (x_nb rfl)) (x_nb rfl)) (x_nb rfl)) (x_nb rfl)) (x_nb rfl)) (x_nb rfl)) (x_nb rfl)) (x_nb rfl)) (x_nb rfl)) (x_nb rfl)) (x_nb rfl)) (x_nb rfl)) (x_nb rfl)) (x_nb rfl)) (x_nb rfl)) (x_nb rfl)) (x_nb rfl)) (x_nb rfl)) (x_nb rfl)) (x_nb rfl)) (x_nb rfl)) (x_nb rfl)) (x_nb rfl)) (x_nb rfl)) (x_nb rfl)) (x_nb rfl)) (x_nb rfl)) (x_nb rfl)) (x_nb rfl)) (x_nb rfl)) (x_nb rfl)) (x_nb rfl)) (x_nb rfl)) (x_nb rfl)) (x_nb rfl)
            refine g_get (i := 189) (kd := 0) (ci := 10) (k := 6) (tc := 0) (v := .int 0) rfl rfl (Or.inl (by decide)) g1003 rfl ?_
            refine g_n 8 (pc' := 100) (L' := [some (.ref 0), some (.int 3), some (.ref 96), some (.int 1)]) (st' := [.ref 0]) rfl ?_
            refine g_get (i := 48) (kd := 1) (ci := 11) (k := 3) (tc := 3) (v := .ref 3) rfl rfl (Or.inl (by decide)) g999 rfl ?_
            refine g_n 1 (pc' := 104) (L' := [some (.ref 0), some (.int 3), some (.ref 96), some (.int 1)]) (st' := [.int 1, .ref 3]) rfl ?_
            refine g_aa (i := 1) (a := 3) (n := 12) (v := 124) rfl g1001 (by decide) (x_at (x_f3 hF) (k := 1) rfl) ?_
            have b1004 : x_obj (x_W fi fl fr) 124 = some (10, [.ref 125, .ref 127, .int 402, .int 0, .int 0, .int 0, .int 0, .int 0, .int 0, .int 0, .int 0, .int 0]) := rfl
            have g1005 := x_wo_ne w997 (x_wo_ne w991 (x_wo_ne w280 (x_wo_ne w274 (x_wo_ne w269 (x_wo_ne w265 (x_wo_ne w257 (x_wo_ne w253 (x_wo_ne w245 (x_wo_ne w236 (x_wo_ne w232 (x_wo_ne w228 (x_wo_ne w224 (x_wo_ne w219 (x_wo_ne w209 (x_wo_ne w199 (x_wo_ne w189 (x_wo_ne w179 (x_wo_ne w169 (x_wo_ne w159 (x_wo_ne w155 (x_wo_ne w148 (x_wo_ne w144 (x_wo_ne w138 (x_wo_ne w134 (x_wo_ne w130 (x_wo_ne w126 (x_wo_ne w122 (x_wo_ne w116 (x_wo_ne w109 (x_wo_ne w104 (x_wo_ne w99 (x_wo_ne w95 (x_wo_ne w90 (x_wo_ne w86 (x_wo_ne w81 (x_wo_ne w76 (x_wo_ne w69 (x_wo_ne w61 (x_wo_ne w53 (x_wo_ne w46 (x_wo_ne w37 (x_wo_ne w33 (x_wo_ne w26 (x_wo_ne w22 (x_wo_ne w16 (x_wo_ne w12 b1004 (x_nb rfl)) (x_nb rfl)) (x_nb rfl)) (x_nb rfl)) (x_nb rfl)) (x_nb rfl)) (x_nb rfl)) (x_nb rfl)) (x_nb rfl)) (x_nb rfl)) (x_nb rfl)) (x_nb rfl)) (x_nb rfl)) (x_nb rfl)) (x_nb rfl)) (x_nb rfl)) (x_nb rfl)) (x_nb rfl)) (x_nb rfl)) (x_nb rfl)) (x_nb rfl)) (x_nb rfl)) (x_nb rfl)) (x_nb rfl)) (x_nb rfl)) (x_nb rfl)) (x_nb rfl)) (x_nb rfl)) (x_nb rfl)) (x_nb rfl)) (x_nb rfl)) (x_nb rfl)) (x_nb rfl)) (x_nb rfl)) (x_nb rfl)) (x_nb rfl)) (x_nb rfl)) (x_nb rfl)) (x_nb rfl)) (x_nb rfl)) (x_nb rfl)) (x_nb rfl)) (x_nb rfl)) (x_nb rfl)) (x_nb rfl)) (x_nb rfl)) (x_nb rfl)
            refine g_get (i := 189) (kd := 0) (ci := 10) (k := 6) (tc := 0) (v := .int 0) rfl rfl (Or.inl (by decide)) g1005 rfl ?_
            refine g_n 8 (pc' := 100) (L' := [some (.ref 0), some (.int 3), some (.ref 96), some (.int 2)]) (st' := [.ref 0]) rfl ?_
            refine g_get (i := 48) (kd := 1) (ci := 11) (k := 3) (tc := 3) (v := .ref 3) rfl rfl (Or.inl (by decide)) g999 rfl ?_
            refine g_n 1 (pc' := 104) (L' := [some (.ref 0), some (.int 3), some (.ref 96), some (.int 2)]) (st' := [.int 2, .ref 3]) rfl ?_
            refine g_aa (i := 2) (a := 3) (n := 12) (v := 129) rfl g1001 (by decide) (x_at (x_f3 hF) (k := 2) rfl) ?_
            have b1006 : x_obj (x_W fi fl fr) 129 = some (10, [.ref 130, .ref 132, .int 402, .int 0, .int 0, .int 0, .int 0, .int 0, .int 0, .int 0, .int 0, .int 0]) := rfl
            have g1007 := x_wo_ne w997 (x_wo_ne w991 (x_wo_ne w280 (x_wo_ne w274 (x_wo_ne w269 (x_wo_ne w265 (x_wo_ne w257 (x_wo_ne w253 (x_wo_ne w245 (x_wo_ne w236 (x_wo_ne w232 (x_wo_ne w228 (x_wo_ne w224 (x_wo_ne w219 (x_wo_ne w209 (x_wo_ne w199 (x_wo_ne w189 (x_wo_ne w179 (x_wo_ne w169 (x_wo_ne w159 (x_wo_ne w155 (x_wo_ne w148 (x_wo_ne w144 (x_wo_ne w138 (x_wo_ne w134 (x_wo_ne w130 (x_wo_ne w126 (x_wo_ne w122 (x_wo_ne w116 (x_wo_ne w109 (x_wo_ne w104 (x_wo_ne w99 (x_wo_ne w95 (x_wo_ne w90 (x_wo_ne w86 (x_wo_ne w81 (x_wo_ne w76 (x_wo_ne w69 (x_wo_ne w61 (x_wo_ne w53 (x_wo_ne w46 (x_wo_ne w37 (x_wo_ne w33 (x_wo_ne w26 (x_wo_ne w22 (x_wo_ne w16 (x_wo_ne w12 b1006 (x_nb rfl)) (x_nb rfl)) (x_nb rfl)) (x_nb rfl)) (x_nb rfl)) (x_nb rfl)) (x_nb rfl)) (x_nb rfl)) (x_nb rfl)) (x_nb rfl)) (x_nb rfl)) (x_nb rfl)) (x_nb rfl)) (x_nb rfl)) (x_nb rfl)) (x_nb rfl)) (x_nb rfl)) (x_nb rfl)) (x_nb rfl)) (x_nb rfl)) (x_nb rfl)) (x_nb rfl)) (x_nb rfl)) (x_nb rfl)) (x_nb rfl)) (x_nb rfl)) (x_nb rfl)) (x_nb rfl)) (x_nb rfl)) (x_nb rfl)) (x_nb rfl)) (x_nb rfl)) (x_nb rfl)) (x_nb rfl)) (x_nb rfl)) (x_nb rfl)) (x_nb rfl)) (x_nb rfl)) (x_nb rfl)) (x_nb rfl)) (x_nb rfl)) (x_nb rfl)) (x_nb rfl)) (x_nb rfl)) (x_nb rfl)) (x_nb rfl)) (x_nb rfl)
            refine g_get (i := 189) (kd := 0) (ci := 10) (k := 6) (tc := 0) (v := .int 0) rfl rfl (Or.inl (by decide)) g1007 rfl ?_
            refine g_n 8 (pc' := 100) (L' := [some (.ref 0), some (.int 3), some (.ref 96), some (.int 3)]) (st' := [.ref 0]) rfl ?_
            refine g_get (i := 48) (kd := 1) (ci := 11) (k := 3) (tc := 3) (v := .ref 3) rfl rfl (Or.inl (by decide)) g999 rfl ?_
            refine g_n 1 (pc' := 104) (L' := [some (.ref 0), some (.int 3), some (.ref 96), some (.int 3)]) (st' := [.int 3, .ref 3]) rfl ?_
            refine g_aa (i := 3) (a := 3) (n := 12) (v := 134) rfl g1001 (by decide) (x_at (x_f3 hF) (k := 3) rfl) ?_
            have b1008 : x_obj (x_W fi fl fr) 134 = some (10, [.ref 135, .ref 137, .int 402, .int 0, .int 0, .int 0, .int 0, .int 0, .int 0, .int 0, .int 0, .int 0]) := rfl
            have g1009 := x_wo_ne w997 (x_wo_ne w991 (x_wo_ne w280 (x_wo_ne w274 (x_wo_ne w269 (x_wo_ne w265 (x_wo_ne w257 (x_wo_ne w253 (x_wo_ne w245 (x_wo_ne w236 (x_wo_ne w232 (x_wo_ne w228 (x_wo_ne w224 (x_wo_ne w219 (x_wo_ne w209 (x_wo_ne w199 (x_wo_ne w189 (x_wo_ne w179 (x_wo_ne w169 (x_wo_ne w159 (x_wo_ne w155 (x_wo_ne w148 (x_wo_ne w144 (x_wo_ne w138 (x_wo_ne w134 (x_wo_ne w130 (x_wo_ne w126 (x_wo_ne w122 (x_wo_ne w116 (x_wo_ne w109 (x_wo_ne w104 (x_wo_ne w99 (x_wo_ne w95 (x_wo_ne w90 (x_wo_ne w86 (x_wo_ne w81 (x_wo_ne w76 (x_wo_ne w69 (x_wo_ne w61 (x_wo_ne w53 (x_wo_ne w46 (x_wo_ne w37 (x_wo_ne w33 (x_wo_ne w26 (x_wo_ne w22 (x_wo_ne w16 (x_wo_ne w12 b1008 (x_nb rfl)) (x_nb rfl)) (x_nb rfl)) (x_nb rfl)) (x_nb rfl)) (x_nb rfl)) (x_nb rfl)) (x_nb rfl)) (x_nb rfl)) (x_nb rfl)) (x_nb rfl)) (x_nb rfl)) (x_nb rfl)) (x_nb rfl)) (x_nb rfl)) (x_nb rfl)) (x_nb rfl)) (x_nb rfl)) (x_nb rfl)) (x_nb rfl)) (x_nb rfl)) (x_nb rfl)) (x_nb rfl)) (x_nb rfl)) (x_nb rfl)) (x_nb rfl)) (x_nb rfl)) (x_nb rfl)) (x_nb rfl)) (x_nb rfl)) (x_nb rfl)) (x_nb rfl)) (x_nb rfl)) (x_nb rfl)) (x_nb rfl)) (x_nb rfl)) (x_nb rfl)) (x_nb rfl)) (x_nb rfl)) (x_nb rfl)) (x_nb rfl)) (x_nb rfl)) (x_nb rfl)) (x_nb rfl)) (x_nb rfl)) (x_nb rfl)) (x_nb rfl)
            refine g_get (i := 189) (kd := 0) (ci := 10) (k := 6) (tc := 0) (v := .int 0) rfl rfl (Or.inl (by decide)) g1009 rfl ?_
            refine g_n 8 (pc' := 100) (L' := [some (.ref 0), some (.int 3), some (.ref 96), some (.int 4)]) (st' := [.ref 0]) rfl ?_
            refine g_get (i := 48) (kd := 1) (ci := 11) (k := 3) (tc := 3) (v := .ref 3) rfl rfl (Or.inl (by decide)) g999 rfl ?_
            refine g_n 1 (pc' := 104) (L' := [some (.ref 0), some (.int 3), some (.ref 96), some (.int 4)]) (st' := [.int 4, .ref 3]) rfl ?_
            refine g_aa (i := 4) (a := 3) (n := 12) (v := 139) rfl g1001 (by decide) (x_at (x_f3 hF) (k := 4) rfl) ?_
            have b1010 : x_obj (x_W fi fl fr) 139 = some (10, [.ref 140, .ref 142, .int 402, .int 0, .int 0, .int 0, .int 0, .int 0, .int 0, .int 0, .int 0, .int 0]) := rfl
            have g1011 := x_wo_ne w997 (x_wo_ne w991 (x_wo_ne w280 (x_wo_ne w274 (x_wo_ne w269 (x_wo_ne w265 (x_wo_ne w257 (x_wo_ne w253 (x_wo_ne w245 (x_wo_ne w236 (x_wo_ne w232 (x_wo_ne w228 (x_wo_ne w224 (x_wo_ne w219 (x_wo_ne w209 (x_wo_ne w199 (x_wo_ne w189 (x_wo_ne w179 (x_wo_ne w169 (x_wo_ne w159 (x_wo_ne w155 (x_wo_ne w148 (x_wo_ne w144 (x_wo_ne w138 (x_wo_ne w134 (x_wo_ne w130 (x_wo_ne w126 (x_wo_ne w122 (x_wo_ne w116 (x_wo_ne w109 (x_wo_ne w104 (x_wo_ne w99 (x_wo_ne w95 (x_wo_ne w90 (x_wo_ne w86 (x_wo_ne w81 (x_wo_ne w76 (x_wo_ne w69 (x_wo_ne w61 (x_wo_ne w53 (x_wo_ne w46 (x_wo_ne w37 (x_wo_ne w33 (x_wo_ne w26 (x_wo_ne w22 (x_wo_ne w16 (x_wo_ne w12 b1010 (x_nb rfl)) (x_nb rfl)) (x_nb rfl)) (x_nb rfl)) (x_nb rfl)) (x_nb rfl)) (x_nb rfl)) (x_nb rfl)) (x_nb rfl)) (x_nb rfl)) (x_nb rfl)) (x_nb rfl)) (x_nb rfl)) (x_nb rfl)) (x_nb rfl)) (x_nb rfl)) (x_nb rfl)) (x_nb rfl)) (x_nb rfl)) (x_nb rfl)) (x_nb rfl)) (x_nb rfl)) (x_nb rfl)) (x_nb rfl)) (x_nb rfl)) (x_nb rfl)) (x_nb rfl)) (x_nb rfl)) (x_nb rfl)) (x_nb rfl)) (x_nb rfl)) (x_nb rfl)) (x_nb rfl)) (x_nb rfl)) (x_nb rfl)) (x_nb rfl)) (x_nb rfl)) (x_nb rfl)) (x_nb rfl)) (x_nb rfl)) (x_nb rfl)) (x_nb rfl)) (x_nb rfl)) (x_nb rfl)) (x_nb rfl)) (x_nb rfl)) (x_nb rfl)
            refine g_get (i := 189) (kd := 0) (ci := 10) (k := 6) (tc := 0) (v := .int 0) rfl rfl (Or.inl (by decide)) g1011 rfl ?_
            refine g_n 8 (pc' := 100) (L' := [some (.ref 0), some (.int 3), some (.ref 96), some (.int 5)]) (st' := [.ref 0]) rfl ?_
            refine g_get (i := 48) (kd := 1) (ci := 11) (k := 3) (tc := 3) (v := .ref 3) rfl rfl (Or.inl (by decide)) g999 rfl ?_
            refine g_n 1 (pc' := 104) (L' := [some (.ref 0), some (.int 3), some (.ref 96), some (.int 5)]) (st' := [.int 5, .ref 3]) rfl ?_
            refine g_aa (i := 5) (a := 3) (n := 12) (v := 144) rfl g1001 (by decide) (x_at (x_f3 hF) (k := 5) rfl) ?_
            have b1012 : x_obj (x_W fi fl fr) 144 = some (10, [.ref 145, .ref 147, .int 402, .int 0, .int 0, .int 0, .int 0, .int 0, .int 0, .int 0, .int 0, .int 0]) := rfl
            have g1013 := x_wo_ne w997 (x_wo_ne w991 (x_wo_ne w280 (x_wo_ne w274 (x_wo_ne w269 (x_wo_ne w265 (x_wo_ne w257 (x_wo_ne w253 (x_wo_ne w245 (x_wo_ne w236 (x_wo_ne w232 (x_wo_ne w228 (x_wo_ne w224 (x_wo_ne w219 (x_wo_ne w209 (x_wo_ne w199 (x_wo_ne w189 (x_wo_ne w179 (x_wo_ne w169 (x_wo_ne w159 (x_wo_ne w155 (x_wo_ne w148 (x_wo_ne w144 (x_wo_ne w138 (x_wo_ne w134 (x_wo_ne w130 (x_wo_ne w126 (x_wo_ne w122 (x_wo_ne w116 (x_wo_ne w109 (x_wo_ne w104 (x_wo_ne w99 (x_wo_ne w95 (x_wo_ne w90 (x_wo_ne w86 (x_wo_ne w81 (x_wo_ne w76 (x_wo_ne w69 (x_wo_ne w61 (x_wo_ne w53 (x_wo_ne w46 (x_wo_ne w37 (x_wo_ne w33 (x_wo_ne w26 (x_wo_ne w22 (x_wo_ne w16 (x_wo_ne w12 b1012 (x_nb rfl)) (x_nb rfl)) (x_nb rfl)) (x_nb rfl)) (x_nb rfl)) (x_nb rfl)) (x_nb rfl)) (x_nb rfl)) (x_nb rfl)) (x_nb rfl)) (x_nb rfl)) (x_nb rfl)) (x_nb rfl)) (x_nb rfl)) (x_nb rfl)) (x_nb rfl)) (x_nb rfl)) (x_nb rfl)) (x_nb rfl)) (x_nb rfl)) (x_nb rfl)) (x_nb rfl)) (x_nb rfl)) (x_nb rfl)) (x_nb rfl)) (x_nb rfl)) (x_nb rfl)) (x_nb rfl)) (x_nb rfl)) (x_nb rfl)) (x_nb rfl)) (x_nb rfl)) (x_nb rfl)) (x_nb rfl)) (x_nb rfl)) (x_nb rfl)) (x_nb rfl)) (x_nb rfl)) (x_nb rfl)) (x_nb rfl)) (x_nb rfl)) (x_nb rfl)) (x_nb rfl)) (x_nb rfl)) (x_nb rfl)) (x_nb rfl)) (x_nb rfl)
            refine g_get (i := 189) (kd := 0) (ci := 10) (k := 6) (tc := 0) (v := .int 0) rfl rfl (Or.inl (by decide)) g1013 rfl ?_
            refine g_n 8 (pc' := 100) (L' := [some (.ref 0), some (.int 3), some (.ref 96), some (.int 6)]) (st' := [.ref 0]) rfl ?_
            refine g_get (i := 48) (kd := 1) (ci := 11) (k := 3) (tc := 3) (v := .ref 3) rfl rfl (Or.inl (by decide)) g999 rfl ?_
            refine g_n 1 (pc' := 104) (L' := [some (.ref 0), some (.int 3), some (.ref 96), some (.int 6)]) (st' := [.int 6, .ref 3]) rfl ?_
            refine g_aa (i := 6) (a := 3) (n := 12) (v := 149) rfl g1001 (by decide) (x_at (x_f3 hF) (k := 6) rfl) ?_
            have b1014 : x_obj (x_W fi fl fr) 149 = some (10, [.ref 150, .ref 152, .int 402, .int 0, .int 0, .int 0, .int 0, .int 0, .int 0, .int 0, .int 0, .int 0]) := rfl
            have g1015 := x_wo_ne w997 (x_wo_ne w991 (x_wo_ne w280 (x_wo_ne w274 (x_wo_ne w269 (x_wo_ne w265 (x_wo_ne w257 (x_wo_ne w253 (x_wo_ne w245 (x_wo_ne w236 (x_wo_ne w232 (x_wo_ne w228 (x_wo_ne w224 (x_wo_ne w219 (x_wo_ne w209 (x_wo_ne w199 (x_wo_ne w189 (x_wo_ne w179 (x_wo_ne w169 (x_wo_ne w159 (x_wo_ne w155 (x_wo_ne w148 (x_wo_ne w144 (x_wo_ne w138 (x_wo_ne w134 (x_wo_ne w130 (x_wo_ne w126 (x_wo_ne w122 (x_wo_ne w116 (x_wo_ne w109 (x_wo_ne w104 (x_wo_ne w99 (x_wo_ne w95 (x_wo_ne w90 (x_wo_ne w86 (x_wo_ne w81 (x_wo_ne w76 (x_wo_ne w69 (x_wo_ne w61 (x_wo_ne w53 (x_wo_ne w46 (x_wo_ne w37 (x_wo_ne w33 (x_wo_ne w26 (x_wo_ne w22 (x_wo_ne w16 (x_wo_ne w12 b1014 (x_nb rfl)) (x_nb rfl)) (x_nb rfl)) (x_nb rfl)) (x_nb rfl)) (x_nb rfl)) (x_nb rfl)) (x_nb rfl)) (x_nb rfl)) (x_nb rfl)) (x_nb rfl)) (x_nb rfl)) (x_nb rfl)) (x_nb rfl)) (x_nb rfl)) (x_nb rfl)) (x_nb rfl)) (x_nb rfl)) (x_nb rfl)) (x_nb rfl)) (x_nb rfl)) (x_nb rfl)) (x_nb rfl)) (x_nb rfl)) (x_nb rfl)) (x_nb rfl)) (x_nb rfl)) (x_nb rfl)) (x_nb rfl)) (x_nb rfl)) (x_nb rfl)) (x_nb rfl)) (x_nb rfl)) (x_nb rfl)) (x_nb rfl)) (x_nb rfl)) (x_nb rfl)) (x_nb rfl)) (x_nb rfl)) (x_nb rfl)) (x_nb rfl)) (x_nb rfl)) (x_nb rfl)) (x_nb rfl)) (x_nb rfl)) (x_nb rfl)) (x_nb rfl)
            refine g_get (i := 189) (kd := 0) (ci := 10) (k := 6) (tc := 0) (v := .int 0) rfl rfl (Or.inl (by decide)) g1015 rfl ?_
            refine g_n 8 (pc' := 100) (L' := [some (.ref 0), some (.int 3), some (.ref 96), some (.int 7)]) (st' := [.ref 0]) rfl ?_
            refine g_get (i := 48) (kd := 1) (ci := 11) (k := 3) (tc := 3) (v := .ref 3) rfl rfl (Or.inl (by decide)) g999 rfl ?_
            refine g_n 1 (pc' := 104) (L' := [some (.ref 0), some (.int 3), some (.ref 96), some (.int 7)]) (st' := [.int 7, .ref 3]) rfl ?_
            refine g_aa (i := 7) (a := 3) (n := 12) (v := 154) rfl g1001 (by decide) (x_at (x_f3 hF) (k := 7) rfl) ?_
            have b1016 : x_obj (x_W fi fl fr) 154 = some (10, [.ref 155, .ref 157, .int 402, .int 0, .int 0, .int 0, .int 0, .int 0, .int 0, .int 0, .int 0, .int 0]) := rfl
            have g1017 := x_wo_ne w997 (x_wo_ne w991 (x_wo_ne w280 (x_wo_ne w274 (x_wo_ne w269 (x_wo_ne w265 (x_wo_ne w257 (x_wo_ne w253 (x_wo_ne w245 (x_wo_ne w236 (x_wo_ne w232 (x_wo_ne w228 (x_wo_ne w224 (x_wo_ne w219 (x_wo_ne w209 (x_wo_ne w199 (x_wo_ne w189 (x_wo_ne w179 (x_wo_ne w169 (x_wo_ne w159 (x_wo_ne w155 (x_wo_ne w148 (x_wo_ne w144 (x_wo_ne w138 (x_wo_ne w134 (x_wo_ne w130 (x_wo_ne w126 (x_wo_ne w122 (x_wo_ne w116 (x_wo_ne w109 (x_wo_ne w104 (x_wo_ne w99 (x_wo_ne w95 (x_wo_ne w90 (x_wo_ne w86 (x_wo_ne w81 (x_wo_ne w76 (x_wo_ne w69 (x_wo_ne w61 (x_wo_ne w53 (x_wo_ne w46 (x_wo_ne w37 (x_wo_ne w33 (x_wo_ne w26 (x_wo_ne w22 (x_wo_ne w16 (x_wo_ne w12 b1016 (x_nb rfl)) (x_nb rfl)) (x_nb rfl)) (x_nb rfl)) (x_nb rfl)) (x_nb rfl)) (x_nb rfl)) (x_nb rfl)) (x_nb rfl)) (x_nb rfl)) (x_nb rfl)) (x_nb rfl)) (x_nb rfl)) (x_nb rfl)) (x_nb rfl)) (x_nb rfl)) (x_nb rfl)) (x_nb rfl)) (x_nb rfl)) (x_nb rfl)) (x_nb rfl)) (x_nb rfl)) (x_nb rfl)) (x_nb rfl)) (x_nb rfl)) (x_nb rfl)) (x_nb rfl)) (x_nb rfl)) (x_nb rfl)) (x_nb rfl)) (x_nb rfl)) (x_nb rfl)) (x_nb rfl)) (x_nb rfl)) (x_nb rfl)) (x_nb rfl)) (x_nb rfl)) (x_nb rfl)) (x_nb rfl)) (x_nb rfl)) (x_nb rfl)) (x_nb rfl)) (x_nb rfl)) (x_nb rfl)) (x_nb rfl)) (x_nb rfl)) (x_nb rfl)
            refine g_get (i := 189) (kd := 0) (ci := 10) (k := 6) (tc := 0) (v := .int 0) rfl rfl (Or.inl (by decide)) g1017 rfl ?_
            refine g_n 8 (pc' := 100) (L' := [some (.ref 0), some (.int 3), some (.ref 96), some (.int 8)]) (st' := [.ref 0]) rfl ?_
            refine g_get (i := 48) (kd := 1) (ci := 11) (k := 3) (tc := 3) (v := .ref 3) rfl rfl (Or.inl (by decide)) g999 rfl ?_
            refine g_n 1 (pc' := 104) (L' := [some (.ref 0), some (.int 3), some (.ref 96), some (.int 8)]) (st' := [.int 8, .ref 3]) rfl ?_
            refine g_aa (i := 8) (a := 3) (n := 12) (v := 159) rfl g1001 (by decide) (x_at (x_f3 hF) (k := 8) rfl) ?_
            have b1018 : x_obj (x_W fi fl fr) 159 = some (10, [.ref 160, .ref 162, .int 402, .int 0, .int 0, .int 0, .int 0, .int 0, .int 0, .int 0, .int 0, .int 0]) := rfl
            have g1019 := x_wo_ne w997 (x_wo_ne w991 (x_wo_ne w280 (x_wo_ne w274 (x_wo_ne w269 (x_wo_ne w265 (x_wo_ne w257 (x_wo_ne w253 (x_wo_ne w245 (x_wo_ne w236 (x_wo_ne w232 (x_wo_ne w228 (x_wo_ne w224 (x_wo_ne w219 (x_wo_ne w209 (x_wo_ne w199 (x_wo_ne w189 (x_wo_ne w179 (x_wo_ne w169 (x_wo_ne w159 (x_wo_ne w155 (x_wo_ne w148 (x_wo_ne w144 (x_wo_ne w138 (x_wo_ne w134 (x_wo_ne w130 (x_wo_ne w126 (x_wo_ne w122 (x_wo_ne w116 (x_wo_ne w109 (x_wo_ne w104 (x_wo_ne w99 (x_wo_ne w95 (x_wo_ne w90 (x_wo_ne w86 (x_wo_ne w81 (x_wo_ne w76 (x_wo_ne w69 (x_wo_ne w61 (x_wo_ne w53 (x_wo_ne w46 (x_wo_ne w37 (x_wo_ne w33 (x_wo_ne w26 (x_wo_ne w22 (x_wo_ne w16 (x_wo_ne w12 b1018 (x_nb rfl)) (x_nb rfl)) (x_nb rfl)) (x_nb rfl)) (x_nb rfl)) (x_nb rfl)) (x_nb rfl)) (x_nb rfl)) (x_nb rfl)) (x_nb rfl)) (x_nb rfl)) (x_nb rfl)) (x_nb rfl)) (x_nb rfl)) (x_nb rfl)) (x_nb rfl)) (x_nb rfl)) (x_nb rfl)) (x_nb rfl)) (x_nb rfl)) (x_nb rfl)) (x_nb rfl)) (x_nb rfl)) (x_nb rfl)) (x_nb rfl)) (x_nb rfl)) (x_nb rfl)) (x_nb rfl)) (x_nb rfl)) (x_nb rfl)) (x_nb rfl)) (x_nb rfl)) (x_nb rfl)) (x_nb rfl)) (x_nb rfl)) (x_nb rfl)) (x_nb rfl)) (x_nb rfl)) (x_nb rfl)) (x_nb rfl)) (x_nb rfl)) (x_nb rfl)) (x_nb rfl)) (x_nb rfl)) (x_nb rfl)) (x_nb rfl)) (x_nb rfl)
            refine g_get (i := 189) (kd := 0) (ci := 10) (k := 6) (tc := 0) (v := .int 0) rfl rfl (Or.inl (by decide)) g1019 rfl ?_
            refine g_n 8 (pc' := 100) (L' := [some (.ref 0), some (.int 3), some (.ref 96), some (.int 9)]) (st' := [.ref 0]) rfl ?_
            refine g_get (i := 48) (kd := 1) (ci := 11) (k := 3) (tc := 3) (v := .ref 3) rfl rfl (Or.inl (by decide)) g999 rfl ?_
            refine g_n 1 (pc' := 104) (L' := [some (.ref 0), some (.int 3), some (.ref 96), some (.int 9)]) (st' := [.int 9, .ref 3]) rfl ?_
            refine g_aa (i := 9) (a := 3) (n := 12) (v := 164) rfl g1001 (by decide) (x_at (x_f3 hF) (k := 9) rfl) ?_
            have b1020 : x_obj (x_W fi fl fr) 164 = some (10, [.ref 165, .ref 167, .int 402, .int 0, .int 0, .int 0, .int 0, .int 0, .int 0, .int 0, .int 0, .int 0]) := rfl
            have g1021 := x_wo_ne w997 (x_wo_ne w991 (x_wo_ne w280 (x_wo_ne w274 (x_wo_ne w269 (x_wo_ne w265 (x_wo_ne w257 (x_wo_ne w253 (x_wo_ne w245 (x_wo_ne w236 (x_wo_ne w232 (x_wo_ne w228 (x_wo_ne w224 (x_wo_ne w219 (x_wo_ne w209 (x_wo_ne w199 (x_wo_ne w189 (x_wo_ne w179 (x_wo_ne w169 (x_wo_ne w159 (x_wo_ne w155 (x_wo_ne w148 (x_wo_ne w144 (x_wo_ne w138 (x_wo_ne w134 (x_wo_ne w130 (x_wo_ne w126 (x_wo_ne w122 (x_wo_ne w116 (x_wo_ne w109 (x_wo_ne w104 (x_wo_ne w99 (x_wo_ne w95 (x_wo_ne w90 (x_wo_ne w86 (x_wo_ne w81 (x_wo_ne w76 (x_wo_ne w69 (x_wo_ne w61 (x_wo_ne w53 (x_wo_ne w46 (x_wo_ne w37 (x_wo_ne w33 (x_wo_ne w26 (x_wo_ne w22 (x_wo_ne w16 (x_wo_ne w12 b1020 (x_nb rfl)) (x_nb rfl)) (x_nb rfl)) (x_nb rfl)) (x_nb rfl)) (x_nb rfl)) (x_nb rfl)) (x_nb rfl)) (x_nb rfl)) (x_nb rfl)) (x_nb rfl)) (x_nb rfl)) (x_nb rfl)) (x_nb rfl)) (x_nb rfl)) (x_nb rfl)) (x_nb rfl)) (x_nb rfl)) (x_nb rfl)) (x_nb rfl)) (x_nb rfl)) (x_nb rfl)) (x_nb rfl)) (x_nb rfl)) (x_nb rfl)) (x_nb rfl)) (x_nb rfl)) (x_nb rfl)) (x_nb rfl)) (x_nb rfl)) (x_nb rfl)) (x_nb rfl)) (x_nb rfl)) (x_nb rfl)) (x_nb rfl)) (x_nb rfl)) (x_nb rfl)) (x_nb rfl)) (x_nb rfl)) (x_nb rfl)) (x_nb rfl)) (x_nb rfl)) (x_nb rfl)) (x_nb rfl)) (x_nb rfl)) (x_nb rfl)) (x_nb rfl)
            refine g_get (i := 189) (kd := 0) (ci := 10) (k := 6) (tc := 0) (v := .int 0) rfl rfl (Or.inl (by decide)) g1021 rfl ?_
            refine g_n 8 (pc' := 100) (L' := [some (.ref 0), some (.int 3), some (.ref 96), some (.int 10)]) (st' := [.ref 0]) rfl ?_
            refine g_get (i := 48) (kd := 1) (ci := 11) (k := 3) (tc := 3) (v := .ref 3) rfl rfl (Or.inl (by decide)) g999 rfl ?_
            refine g_n 1 (pc' := 104) (L' := [some (.ref 0), some (.int 3), some (.ref 96), some (.int 10)]) (st' := [.int 10, .ref 3]) rfl ?_
            refine g_aa (i := 10) (a := 3) (n := 12) (v := 169) rfl g1001 (by decide) (x_at (x_f3 hF) (k := 10) rfl) ?_
            have b1022 : x_obj (x_W fi fl fr) 169 = some (10, [.ref 170, .ref 172, .int 402, .int 0, .int 0, .int 0, .int 0, .int 0, .int 0, .int 0, .int 0, .int 0]) := rfl
            have g1023 := x_wo_ne w997 (x_wo_ne w991 (x_wo_ne w280 (x_wo_ne w274 (x_wo_ne w269 (x_wo_ne w265 (x_wo_ne w257 (x_wo_ne w253 (x_wo_ne w245 (x_wo_ne w236 (x_wo_ne w232 (x_wo_ne w228 (x_wo_ne w224 (x_wo_ne w219 (x_wo_ne w209 (x_wo_ne w199 (x_wo_ne w189 (x_wo_ne w179 (x_wo_ne w169 (x_wo_ne w159 (x_wo_ne w155 (x_wo_ne w148 (x_wo_ne w144 (x_wo_ne w138 (x_wo_ne w134 (x_wo_ne w130 (x_wo_ne w126 (x_wo_ne w122 (x_wo_ne w116 (x_wo_ne w109 (x_wo_ne w104 (x_wo_ne w99 (x_wo_ne w95 (x_wo_ne w90 (x_wo_ne w86 (x_wo_ne w81 (x_wo_ne w76 (x_wo_ne w69 (x_wo_ne w61 (x_wo_ne w53 (x_wo_ne w46 (x_wo_ne w37 (x_wo_ne w33 (x_wo_ne w26 (x_wo_ne w22 (x_wo_ne w16 (x_wo_ne w12 b1022 (x_nb rfl)) (x_nb rfl)) (x_nb rfl)) (x_nb rfl)) (x_nb rfl)) (x_nb rfl)) (x_nb rfl)) (x_nb rfl)) (x_nb rfl)) (x_nb rfl)) (x_nb rfl)) (x_nb rfl)) (x_nb rfl)) (x_nb rfl)) (x_nb rfl)) (x_nb rfl)) (x_nb rfl)) (x_nb rfl)) (x_nb rfl)) (x_nb rfl)) (x_nb rfl)) (x_nb rfl)) (x_nb rfl)) (x_nb rfl)) (x_nb rfl)) (x_nb rfl)) (x_nb rfl)) (x_nb rfl)) (x_nb rfl)) (x_nb rfl)) (x_nb rfl)) (x_nb rfl)) (x_nb rfl)) (x_nb rfl)) (x_nb rfl)) (x_nb rfl)) (x_nb rfl)) (x_nb rfl)) (x_nb rfl)) (x_nb rfl)) (x_nb rfl)) (x_nb rfl)) (x_nb rfl)) (x_nb rfl)) (x_nb rfl)) (x_nb rfl)) (x_nb rfl)
            refine g_get (i := 189) (kd := 0) (ci := 10) (k := 6) (tc := 0) (v := .int 0) rfl rfl (Or.inl (by decide)) g1023 rfl ?_
            refine g_n 8 (pc' := 100) (L' := [some (.ref 0), some (.int 3), some (.ref 96), some (.int 11)]) (st' := [.ref 0]) rfl ?_
            refine g_get (i := 48) (kd := 1) (ci := 11) (k := 3) (tc := 3) (v := .ref 3) rfl rfl (Or.inl (by decide)) g999 rfl ?_
            refine g_n 1 (pc' := 104) (L' := [some (.ref 0), some (.int 3), some (.ref 96), some (.int 11)]) (st' := [.int 11, .ref 3]) rfl ?_
            refine g_aa (i := 11) (a := 3) (n := 12) (v := 174) rfl g1001 (by decide) (x_at (x_f3 hF) (k := 11) rfl) ?_
            have b1024 : x_obj (x_W fi fl fr) 174 = some (10, [.ref 175, .ref 177, .int 402, .int 0, .int 0, .int 0, .int 0, .int 0, .int 0, .int 0, .int 0, .int 0]) := rfl
            have g1025 := x_wo_ne w997 (x_wo_ne w991 (x_wo_ne w280 (x_wo_ne w274 (x_wo_ne w269 (x_wo_ne w265 (x_wo_ne w257 (x_wo_ne w253 (x_wo_ne w245 (x_wo_ne w236 (x_wo_ne w232 (x_wo_ne w228 (x_wo_ne w224 (x_wo_ne w219 (x_wo_ne w209 (x_wo_ne w199 (x_wo_ne w189 (x_wo_ne w179 (x_wo_ne w169 (x_wo_ne w159 (x_wo_ne w155 (x_wo_ne w148 (x_wo_ne w144 (x_wo_ne w138 (x_wo_ne w134 (x_wo_ne w130 (x_wo_ne w126 (x_wo_ne w122 (x_wo_ne w116 (x_wo_ne w109 (x_wo_ne w104 (x_wo_ne w99 (x_wo_ne w95 (x_wo_ne w90 (x_wo_ne w86 (x_wo_ne w81 (x_wo_ne w76 (x_wo_ne w69 (x_wo_ne w61 (x_wo_ne w53 (x_wo_ne w46 (x_wo_ne w37 (x_wo_ne w33 (x_wo_ne w26 (x_wo_ne w22 (x_wo_ne w16 (x_wo_ne w12 b1024 (x_nb rfl)) (x_nb rfl)) (x_nb rfl)) (x_nb rfl)) (x_nb rfl)) (x_nb rfl)) (x_nb rfl)) (x_nb rfl)) (x_nb rfl)) (x_nb rfl)) (x_nb rfl)) (x_nb rfl)) (x_nb rfl)) (x_nb rfl)) (x_nb rfl)) (x_nb rfl)) (x_nb rfl)) (x_nb rfl)) (x_nb rfl)) (x_nb rfl)) (x_nb rfl)) (x_nb rfl)) (x_nb rfl)) (x_nb rfl)) (x_nb rfl)) (x_nb rfl)) (x_nb rfl)) (x_nb rfl)) (x_nb rfl)) (x_nb rfl)) (x_nb rfl)) (x_nb rfl)) (x_nb rfl)) (x_nb rfl)) (x_nb rfl)) (x_nb rfl)) (x_nb rfl)) (x_nb rfl)) (x_nb rfl)) (x_nb rfl)) (x_nb rfl)) (x_nb rfl)) (x_nb rfl)) (x_nb rfl)) (x_nb rfl)) (x_nb rfl)) (x_nb rfl)
            refine g_get (i := 189) (kd := 0) (ci := 10) (k := 6) (tc := 0) (v := .int 0) rfl rfl (Or.inl (by decide)) g1025 rfl ?_
            refine g_n 8 (pc' := 129) (L' := [some (.ref 0), some (.int 3), some (.ref 96), some (.int 12)]) (st' := [.ref 0]) rfl ?_
            refine g_get (i := 139) (kd := 1) (ci := 11) (k := 11) (tc := 3) (v := .ref 248) rfl rfl (Or.inl (by decide)) g999 rfl ?_
            refine g_n 1 (pc' := 133) (L' := [some (.ref 0), some (.int 3), some (.ref 96), some (.int 12)]) (st' := [.int 3, .ref 248]) rfl ?_
            have b1026 : x_obj (x_W fi fl fr) 248 = some (3, [.ref 249, .ref 251, .int 0, .int 0, .int 0, .int 0, .int (-2), .int 0, .int 0, .ref 253, .ref 255, .ref 257, .ref 259, .ref 261, .ref 262, .ref 264, .ref 266, .ref 268, .int 0, .int 0]) := rfl
            have g1027 := x_wo_ne w997 (x_wo_ne w991 (x_wo_ne w280 (x_wo_ne w274 (x_wo_ne w269 (x_wo_ne w265 (x_wo_ne w257 (x_wo_ne w253 (x_wo_ne w245 (x_wo_ne w236 (x_wo_ne w232 (x_wo_ne w228 (x_wo_ne w224 (x_wo_ne w219 (x_wo_ne w209 (x_wo_ne w199 (x_wo_ne w189 (x_wo_ne w179 (x_wo_ne w169 (x_wo_ne w159 (x_wo_ne w155 (x_wo_ne w148 (x_wo_ne w144 (x_wo_ne w138 (x_wo_ne w134 (x_wo_ne w130 (x_wo_ne w126 (x_wo_ne w122 (x_wo_ne w116 (x_wo_ne w109 (x_wo_ne w104 (x_wo_ne w99 (x_wo_ne w95 (x_wo_ne w90 (x_wo_ne w86 (x_wo_ne w81 (x_wo_ne w76 (x_wo_ne w69 (x_wo_ne w61 (x_wo_ne w53 (x_wo_ne w46 (x_wo_ne w37 (x_wo_ne w33 (x_wo_ne w26 (x_wo_ne w22 (x_wo_ne w16 (x_wo_ne w12 b1026 (x_nb rfl)) (x_nb rfl)) (x_nb rfl)) (x_nb rfl)) (x_nb rfl)) (x_nb rfl)) (x_nb rfl)) (x_nb rfl)) (x_nb rfl)) (x_nb rfl)) (x_nb rfl)) (x_nb rfl)) (x_nb rfl)) (x_nb rfl)) (x_nb rfl)) (x_nb rfl)) (x_nb rfl)) (x_nb rfl)) (x_nb rfl)) (x_nb rfl)) (x_nb rfl)) (x_nb rfl)) (x_nb rfl)) (x_nb rfl)) (x_nb rfl)) (x_nb rfl)) (x_nb rfl)) (x_nb rfl)) (x_nb rfl)) (x_nb rfl)) (x_nb rfl)) (x_nb rfl)) (x_nb rfl)) (x_nb rfl)) (x_nb rfl)) (x_nb rfl)) (x_nb rfl)) (x_nb rfl)) (x_nb rfl)) (x_nb rfl)) (x_nb rfl)) (x_nb rfl)) (x_nb rfl)) (x_nb rfl)) (x_nb rfl)) (x_nb rfl)) (x_nb rfl)
            refine g_vcall (i := 196) (kd := 3) (j := 75) (np := 1) (ci := 3) (as := [.ref 248, .int 3]) (rest := []) rfl rfl (Or.inl rfl) (Nat.le_of_ble_eq_true rfl) rfl rfl g1027 rfl rfl ?_
            refine g_in (M := x_M75) (L := [some (.ref 248), some (.int 3), none]) x_pl75 rfl ?_
            refine g_n 1 (pc' := 1) (L' := [some (.ref 248), some (.int 3), none]) (st' := [.ref 248]) rfl ?_
            refine g_get (i := 29) (kd := 0) (ci := 3) (k := 6) (tc := 0) (v := .int (-2)) rfl rfl (Or.inl (by decide)) g1027 rfl ?_
            refine g_n 9 (pc' := 21) (L' := [some (.ref 248), some (.int 3), some (.int 0)]) (st' := [.int 0, .ref 248]) rfl ?_
            refine g_vcall (i := 99) (kd := 3) (j := 76) (np := 1) (ci := 3) (as := [.ref 248, .int 0]) (rest := []) rfl rfl (Or.inl rfl) (Nat.le_of_ble_eq_true rfl) rfl rfl g1027 rfl rfl ?_
            refine g_in (M := x_M76) (L := [some (.ref 248), some (.int 0)]) x_pl76 rfl ?_
            refine g_n 1 (pc' := 1) (L' := [some (.ref 248), some (.int 0)]) (st' := [.ref 248]) rfl ?_
            refine g_get (i := 38) (kd := 1) (ci := 3) (k := 10) (tc := 3) (v := .ref 255) rfl rfl (Or.inl (by decide)) g1027 rfl ?_
            refine g_n 2 (pc' := 6) (L' := [some (.ref 248), some (.int 0)]) (st' := [.int 4, .int 0, .ref 255]) rfl ?_
            have b1028 : x_obj (x_W fi fl fr) 255 = some (8, [.ref 256, .int 1, .int 3, .int 6]) := rfl
            have g1029 := x_wo_ne w997 (x_wo_ne w991 (x_wo_ne w280 (x_wo_ne w274 (x_wo_ne w269 (x_wo_ne w265 (x_wo_ne w257 (x_wo_ne w253 (x_wo_ne w245 (x_wo_ne w236 (x_wo_ne w232 (x_wo_ne w228 (x_wo_ne w224 (x_wo_ne w219 (x_wo_ne w209 (x_wo_ne w199 (x_wo_ne w189 (x_wo_ne w179 (x_wo_ne w169 (x_wo_ne w159 (x_wo_ne w155 (x_wo_ne w148 (x_wo_ne w144 (x_wo_ne w138 (x_wo_ne w134 (x_wo_ne w130 (x_wo_ne w126 (x_wo_ne w122 (x_wo_ne w116 (x_wo_ne w109 (x_wo_ne w104 (x_wo_ne w99 (x_wo_ne w95 (x_wo_ne w90 (x_wo_ne w86 (x_wo_ne w81 (x_wo_ne w76 (x_wo_ne w69 (x_wo_ne w61 (x_wo_ne w53 (x_wo_ne w46 (x_wo_ne w37 (x_wo_ne w33 (x_wo_ne w26 (x_wo_ne w22 (x_wo_ne w16 (x_wo_ne w12 b1028 (x_nb rfl)) (x_nb rfl)) (x_nb rfl)) (x_nb rfl)) (x_nb rfl)) (x_nb rfl)) (x_nb rfl)) (x_nb rfl)) (x_nb rfl)) (x_nb rfl)) (x_nb rfl)) (x_nb rfl)) (x_nb rfl)) (x_nb rfl)) (x_nb rfl)) (x_nb rfl)) (x_nb rfl)) (x_nb rfl)) (x_nb rfl)) (x_nb rfl)) (x_nb rfl)) (x_nb rfl)) (x_nb rfl)) (x_nb rfl)) (x_nb rfl)) (x_nb rfl)) (x_nb rfl)) (x_nb rfl)) (x_nb rfl)) (x_nb rfl)) (x_nb rfl)) (x_nb rfl)) (x_nb rfl)) (x_nb rfl)) (x_nb rfl)) (x_nb rfl)) (x_nb rfl)) (x_nb rfl)) (x_nb rfl)) (x_nb rfl)) (x_nb rfl)) (x_nb rfl)) (x_nb rfl)) (x_nb rfl)) (x_nb rfl)) (x_nb rfl)) (x_nb rfl)
            refine g_vcall (i := 95) (kd := 3) (j := 263) (np := 2) (ci := 8) (as := [.ref 255, .int 0, .int 4]) (rest := []) rfl rfl (Or.inl rfl) (Nat.le_of_ble_eq_true rfl) rfl rfl g1029 rfl rfl ?_
            refine g_in (M := x_M263) (L := [some (.ref 255), some (.int 0), some (.int 4), none]) x_pl263 rfl ?_
            refine g_n 4 (pc' := 6) (L' := [some (.ref 255), some (.int 0), some (.int 4), none]) (st' := [.ref 255, .int 0]) rfl ?_
            refine g_get (i := 13) (kd := 1) (ci := 8) (k := 2) (tc := 0) (v := .int 3) rfl rfl (Or.inl (by decide)) g1029 rfl ?_
            refine g_n 5 (pc' := 18) (L' := [some (.ref 255), some (.int 0), some (.int 4), none]) (st' := [.ref 255, .int 4]) rfl ?_
            refine g_get (i := 16) (kd := 1) (ci := 8) (k := 3) (tc := 0) (v := .int 6) rfl rfl (Or.inl (by decide)) g1029 rfl ?_
            refine g_n 3 (pc' := 26) (L' := [some (.ref 255), some (.int 0), some (.int 4), none]) (st' := [.ref 255, .int 0]) rfl ?_
            refine g_get (i := 16) (kd := 1) (ci := 8) (k := 3) (tc := 0) (v := .int 6) rfl rfl (Or.inl (by decide)) g1029 rfl ?_
            refine g_n 9 (pc' := 43) (L' := [some (.ref 255), some (.int 0), some (.int 4), some (.int 4)]) (st' := [.ref 255, .int 4]) rfl ?_
            refine g_get (i := 25) (kd := 1) (ci := 8) (k := 0) (tc := 3) (v := .ref 256) rfl rfl (Or.inl (by decide)) g1029 rfl ?_
            have b1030 : x_arr (x_W fi fl fr) 256 = some (1, 18, .inr (.inl (fl 256))) := rfl
            have g1031 := x_wa_ne w997 (x_wa_ne w991 (x_wa_ne w280 (x_wa_ne w274 (x_wa_ne w269 (x_wa_ne w265 (x_wa_ne w257 (x_wa_ne w253 (x_wa_ne w245 (x_wa_ne w236 (x_wa_ne w232 (x_wa_ne w228 (x_wa_ne w224 (x_wa_ne w219 (x_wa_ne w209 (x_wa_ne w199 (x_wa_ne w189 (x_wa_ne w179 (x_wa_ne w169 (x_wa_ne w159 (x_wa_ne w155 (x_wa_ne w148 (x_wa_ne w144 (x_wa_ne w138 (x_wa_ne w134 (x_wa_ne w130 (x_wa_ne w126 (x_wa_ne w122 (x_wa_ne w116 (x_wa_ne w109 (x_wa_ne w104 (x_wa_ne w99 (x_wa_ne w95 (x_wa_ne w90 (x_wa_ne w86 (x_wa_ne w81 (x_wa_ne w76 (x_wa_ne w69 (x_wa_ne w61 (x_wa_ne w53 (x_wa_ne w46 (x_wa_ne w37 (x_wa_ne w33 (x_wa_ne w26 (x_wa_ne w22 (x_wa_ne w16 (x_wa_ne w12 b1030 (x_nb rfl)) (x_nb rfl)) (x_nb rfl)) (x_nb rfl)) (x_nb rfl)) (x_nb rfl)) (x_nb rfl)) (x_nb rfl)) (x_nb rfl)) (x_nb rfl)) (x_nb rfl)) (x_nb rfl)) (x_nb rfl)) (x_nb rfl)) (x_nb rfl)) (x_nb rfl)) (x_nb rfl)) (x_nb rfl)) (x_nb rfl)) (x_nb rfl)) (x_nb rfl)) (x_nb rfl)) (x_nb rfl)) (x_nb rfl)) (x_nb rfl)) (x_nb rfl)) (x_nb rfl)) (x_nb rfl)) (x_nb rfl)) (x_nb rfl)) (x_nb rfl)) (x_nb rfl)) (x_nb rfl)) (x_nb rfl)) (x_nb rfl)) (x_nb rfl)) (x_nb rfl)) (x_nb rfl)) (x_nb rfl)) (x_nb rfl)) (x_nb rfl)) (x_nb rfl)) (x_nb rfl)) (x_nb rfl)) (x_nb rfl)) (x_nb rfl)) (x_nb rfl)
            refine g_len rfl g1031 (by decide) ?_
            refine g_n 2 (pc' := 51) (L' := [some (.ref 255), some (.int 0), some (.int 4), some (.int 4)]) (st' := [.ref 255]) rfl ?_
            refine g_get (i := 25) (kd := 1) (ci := 8) (k := 0) (tc := 3) (v := .ref 256) rfl rfl (Or.inl (by decide)) g1029 rfl ?_
            refine g_n 1 (pc' := 55) (L' := [some (.ref 255), some (.int 0), some (.int 4), some (.int 4)]) (st' := [.int 4, .ref 256]) rfl ?_
            refine g_la (i := 4) (a := 256) (n := 18) (v := 0) rfl g1031 (by decide) (x_at (x_f256 hF) (k := 4) rfl) ?_
            refine g_n 2 (pc' := 61) (L' := [some (.ref 255), some (.int 0), some (.int 4), some (.int 4)]) (st' := [.int 0]) rfl ?_
            refine g_ret (ins := .ireturn) (len := 1) (r := (some (.int 0))) rfl rfl rfl ?_
            refine g_n 3 (pc' := 18) (L' := [some (.ref 248), some (.int 0)]) (st' := [.int 0]) rfl ?_
            refine g_ret (ins := .ireturn) (len := 1) (r := (some (.int 0))) rfl rfl rfl ?_
            refine g_n 8 (pc' := 21) (L' := [some (.ref 248), some (.int 3), some (.int 1)]) (st' := [.int 1, .ref 248]) rfl ?_
            refine g_vcall (i := 99) (kd := 3) (j := 76) (np := 1) (ci := 3) (as := [.ref 248, .int 1]) (rest := []) rfl rfl (Or.inl rfl) (Nat.le_of_ble_eq_true rfl) rfl rfl g1027 rfl rfl ?_
            refine g_in (M := x_M76) (L := [some (.ref 248), some (.int 1)]) x_pl76 rfl ?_
            refine g_n 1 (pc' := 1) (L' := [some (.ref 248), some (.int 1)]) (st' := [.ref 248]) rfl ?_
            refine g_get (i := 38) (kd := 1) (ci := 3) (k := 10) (tc := 3) (v := .ref 255) rfl rfl (Or.inl (by decide)) g1027 rfl ?_
            refine g_n 2 (pc' := 6) (L' := [some (.ref 248), some (.int 1)]) (st' := [.int 4, .int 1, .ref 255]) rfl ?_
            refine g_vcall (i := 95) (kd := 3) (j := 263) (np := 2) (ci := 8) (as := [.ref 255, .int 1, .int 4]) (rest := []) rfl rfl (Or.inl rfl) (Nat.le_of_ble_eq_true rfl) rfl rfl g1029 rfl rfl ?_
            refine g_in (M := x_M263) (L := [some (.ref 255), some (.int 1), some (.int 4), none]) x_pl263 rfl ?_
            refine g_n 4 (pc' := 6) (L' := [some (.ref 255), some (.int 1), some (.int 4), none]) (st' := [.ref 255, .int 1]) rfl ?_
            refine g_get (i := 13) (kd := 1) (ci := 8) (k := 2) (tc := 0) (v := .int 3) rfl rfl (Or.inl (by decide)) g1029 rfl ?_
            refine g_n 5 (pc' := 18) (L' := [some (.ref 255), some (.int 1), some (.int 4), none]) (st' := [.ref 255, .int 4]) rfl ?_
            refine g_get (i := 16) (kd := 1) (ci := 8) (k := 3) (tc := 0) (v := .int 6) rfl rfl (Or.inl (by decide)) g1029 rfl ?_
            refine g_n 3 (pc' := 26) (L' := [some (.ref 255), some (.int 1), some (.int 4), none]) (st' := [.ref 255, .int 1]) rfl ?_
            refine g_get (i := 16) (kd := 1) (ci := 8) (k := 3) (tc := 0) (v := .int 6) rfl rfl (Or.inl (by decide)) g1029 rfl ?_
            refine g_n 9 (pc' := 43) (L' := [some (.ref 255), some (.int 1), some (.int 4), some (.int 10)]) (st' := [.ref 255, .int 10]) rfl ?_
            refine g_get (i := 25) (kd := 1) (ci := 8) (k := 0) (tc := 3) (v := .ref 256) rfl rfl (Or.inl (by decide)) g1029 rfl ?_
            refine g_len rfl g1031 (by decide) ?_
            refine g_n 2 (pc' := 51) (L' := [some (.ref 255), some (.int 1), some (.int 4), some (.int 10)]) (st' := [.ref 255]) rfl ?_
            refine g_get (i := 25) (kd := 1) (ci := 8) (k := 0) (tc := 3) (v := .ref 256) rfl rfl (Or.inl (by decide)) g1029 rfl ?_
            refine g_n 1 (pc' := 55) (L' := [some (.ref 255), some (.int 1), some (.int 4), some (.int 10)]) (st' := [.int 10, .ref 256]) rfl ?_
            refine g_la (i := 10) (a := 256) (n := 18) (v := 0) rfl g1031 (by decide) (x_at (x_f256 hF) (k := 10) rfl) ?_
            refine g_n 2 (pc' := 61) (L' := [some (.ref 255), some (.int 1), some (.int 4), some (.int 10)]) (st' := [.int 0]) rfl ?_
            refine g_ret (ins := .ireturn) (len := 1) (r := (some (.int 0))) rfl rfl rfl ?_
            refine g_n 3 (pc' := 18) (L' := [some (.ref 248), some (.int 1)]) (st' := [.int 0]) rfl ?_
            refine g_ret (ins := .ireturn) (len := 1) (r := (some (.int 0))) rfl rfl rfl ?_
            refine g_n 8 (pc' := 21) (L' := [some (.ref 248), some (.int 3), some (.int 2)]) (st' := [.int 2, .ref 248]) rfl ?_
            refine g_vcall (i := 99) (kd := 3) (j := 76) (np := 1) (ci := 3) (as := [.ref 248, .int 2]) (rest := []) rfl rfl (Or.inl rfl) (Nat.le_of_ble_eq_true rfl) rfl rfl g1027 rfl rfl ?_
            refine g_in (M := x_M76) (L := [some (.ref 248), some (.int 2)]) x_pl76 rfl ?_
            refine g_n 1 (pc' := 1) (L' := [some (.ref 248), some (.int 2)]) (st' := [.ref 248]) rfl ?_
            refine g_get (i := 38) (kd := 1) (ci := 3) (k := 10) (tc := 3) (v := .ref 255) rfl rfl (Or.inl (by decide)) g1027 rfl ?_
            refine g_n 2 (pc' := 6) (L' := [some (.ref 248), some (.int 2)]) (st' := [.int 4, .int 2, .ref 255]) rfl ?_
            refine g_vcall (i := 95) (kd := 3) (j := 263) (np := 2) (ci := 8) (as := [.ref 255, .int 2, .int 4]) (rest := []) rfl rfl (Or.inl rfl) (Nat.le_of_ble_eq_true rfl) rfl rfl g1029 rfl rfl ?_
            refine g_in (M := x_M263) (L := [some (.ref 255), some (.int 2), some (.int 4), none]) x_pl263 rfl ?_
            refine g_n 4 (pc' := 6) (L' := [some (.ref 255), some (.int 2), some (.int 4), none]) (st' := [.ref 255, .int 2]) rfl ?_
            refine g_get (i := 13) (kd := 1) (ci := 8) (k := 2) (tc := 0) (v := .int 3) rfl rfl (Or.inl (by decide)) g1029 rfl ?_
            refine g_n 5 (pc' := 18) (L' := [some (.ref 255), some (.int 2), some (.int 4), none]) (st' := [.ref 255, .int 4]) rfl ?_
            refine g_get (i := 16) (kd := 1) (ci := 8) (k := 3) (tc := 0) (v := .int 6) rfl rfl (Or.inl (by decide)) g1029 rfl ?_
            refine g_n 3 (pc' := 26) (L' := [some (.ref 255), some (.int 2), some (.int 4), none]) (st' := [.ref 255, .int 2]) rfl ?_
            refine g_get (i := 16) (kd := 1) (ci := 8) (k := 3) (tc := 0) (v := .int 6) rfl rfl (Or.inl (by decide)) g1029 rfl ?_
            refine g_n 9 (pc' := 43) (L' := [some (.ref 255), some (.int 2), some (.int 4), some (.int 16)]) (st' := [.ref 255, .int 16]) rfl ?_
            refine g_get (i := 25) (kd := 1) (ci := 8) (k := 0) (tc := 3) (v := .ref 256) rfl rfl (Or.inl (by decide)) g1029 rfl ?_
            refine g_len rfl g1031 (by decide) ?_
            refine g_n 2 (pc' := 51) (L' := [some (.ref 255), some (.int 2), some (.int 4), some (.int 16)]) (st' := [.ref 255]) rfl ?_
            refine g_get (i := 25) (kd := 1) (ci := 8) (k := 0) (tc := 3) (v := .ref 256) rfl rfl (Or.inl (by decide)) g1029 rfl ?_
            refine g_n 1 (pc' := 55) (L' := [some (.ref 255), some (.int 2), some (.int 4), some (.int 16)]) (st' := [.int 16, .ref 256]) rfl ?_
            refine g_la (i := 16) (a := 256) (n := 18) (v := 0) rfl g1031 (by decide) (x_at (x_f256 hF) (k := 16) rfl) ?_
            refine g_n 2 (pc' := 61) (L' := [some (.ref 255), some (.int 2), some (.int 4), some (.int 16)]) (st' := [.int 0]) rfl ?_
            refine g_ret (ins := .ireturn) (len := 1) (r := (some (.int 0))) rfl rfl rfl ?_
            refine g_n 3 (pc' := 18) (L' := [some (.ref 248), some (.int 2)]) (st' := [.int 0]) rfl ?_
            refine g_ret (ins := .ireturn) (len := 1) (r := (some (.int 0))) rfl rfl rfl ?_
            refine g_n 6 (pc' := 56) (L' := [some (.ref 248), some (.int 3), some (.int 3)]) (st' := []) rfl ?_
            refine g_ret (ins := .return_) (len := 1) (r := none) rfl rfl rfl ?_
            refine g_n 1 (pc' := 137) (L' := [some (.ref 0), some (.int 3), some (.ref 96), some (.int 12)]) (st' := [.ref 0]) rfl ?_
            refine g_get (i := 42) (kd := 1) (ci := 11) (k := 2) (tc := 3) (v := .ref 2) rfl rfl (Or.inl (by decide)) g999 rfl ?_
            refine g_n 1 (pc' := 141) (L' := [some (.ref 0), some (.int 3), some (.ref 96), some (.int 12)]) (st' := [.int 3, .ref 2]) rfl ?_
            have g1032 := x_wa_ne w997 g994 (x_nb rfl)
            refine g_aa (i := 3) (a := 2) (n := 4) (v := 183) rfl g1032 (by decide) rfl ?_
            have g1033 := x_wo_ne w997 (x_wo_ne w991 g992 (x_nb rfl)) (x_nb rfl)
            refine g_get (i := 199) (kd := 0) (ci := 4) (k := 12) (tc := 0) (v := .int 0) rfl rfl (Or.inl (by decide)) g1033 rfl ?_
            refine g_ret (ins := .ireturn) (len := 1) (r := (some (.int 0))) rfl rfl rfl ?_
            have b1034 : x_obj (x_W fi fl fr) 281 = some (12, x_MF) := rfl
            have g1035 := x_wo_ne w997 (x_wo_ne w991 (x_wo_ne w280 (x_wo_ne w274 (x_wo_ne w269 (x_wo_ne w265 (x_wo_ne w257 (x_wo_ne w253 (x_wo_ne w245 (x_wo_ne w236 (x_wo_ne w232 (x_wo_ne w228 (x_wo_ne w224 (x_wo_ne w219 (x_wo_ne w209 (x_wo_ne w199 (x_wo_ne w189 (x_wo_ne w179 (x_wo_ne w169 (x_wo_ne w159 (x_wo_ne w155 (x_wo_ne w148 (x_wo_ne w144 (x_wo_ne w138 (x_wo_ne w134 (x_wo_ne w130 (x_wo_ne w126 (x_wo_ne w122 (x_wo_ne w116 (x_wo_ne w109 (x_wo_ne w104 (x_wo_ne w99 (x_wo_ne w95 (x_wo_ne w90 (x_wo_ne w86 (x_wo_ne w81 (x_wo_ne w76 (x_wo_ne w69 (x_wo_ne w61 (x_wo_ne w53 (x_wo_ne w46 (x_wo_ne w37 (x_wo_ne w33 (x_wo_ne w26 (x_wo_ne w22 (x_wo_ne w16 (x_wo_ne w12 b1034 (x_nb rfl)) (x_nb rfl)) (x_nb rfl)) (x_nb rfl)) (x_nb rfl)) (x_nb rfl)) (x_nb rfl)) (x_nb rfl)) (x_nb rfl)) (x_nb rfl)) (x_nb rfl)) (x_nb rfl)) (x_nb rfl)) (x_nb rfl)) (x_nb rfl)) (x_nb rfl)) (x_nb rfl)) (x_nb rfl)) (x_nb rfl)) (x_nb rfl)) (x_nb rfl)) (x_nb rfl)) (x_nb rfl)) (x_nb rfl)) (x_nb rfl)) (x_nb rfl)) (x_nb rfl)) (x_nb rfl)) (x_nb rfl)) (x_nb rfl)) (x_nb rfl)) (x_nb rfl)) (x_nb rfl)) (x_nb rfl)) (x_nb rfl)) (x_nb rfl)) (x_nb rfl)) (x_nb rfl)) (x_nb rfl)) (x_nb rfl)) (x_nb rfl)) (x_nb rfl)) (x_nb rfl)) (x_nb rfl)) (x_nb rfl)) (x_nb rfl)) (x_nb rfl)
            refine ⟨⟨_, g1035⟩, ?_⟩
            refine g_in (M := x_M489) (L := [some (.ref 281), some (.int 3), none]) x_pl489 rfl ?_
            refine g_n 2 (pc' := 2) (L' := [some (.ref 281), some (.int 3), none]) (st' := [.int 3, .ref 281]) rfl ?_
            refine g_vcall (i := 1015) (kd := 3) (j := 488) (np := 1) (ci := 12) (as := [.ref 281, .int 3]) (rest := []) rfl rfl (Or.inl rfl) (Nat.le_of_ble_eq_true rfl) rfl rfl g1035 rfl rfl ?_
            refine g_in (M := x_M488) (L := [some (.ref 281), some (.int 3)]) x_pl488 rfl ?_
            refine g_n 7 (pc' := 14) (L' := [some (.ref 281), some (.int 3)]) (st' := [.int 1]) rfl ?_
            refine g_ret (ins := .ireturn) (len := 1) (r := (some (.int 1))) rfl rfl rfl ?_
            refine g_n 2 (pc' := 11) (L' := [some (.ref 281), some (.int 3), none]) (st' := [.ref 281]) rfl ?_
            refine g_vcall (i := 1018) (kd := 3) (j := 423) (np := 0) (ci := 12) (as := [.ref 281]) (rest := []) rfl rfl (Or.inl rfl) (Nat.le_of_ble_eq_true rfl) rfl rfl g1035 rfl rfl ?_
            refine g_in (M := x_M423) (L := [some (.ref 281), none]) x_pl423 rfl ?_
            refine g_n 2 (pc' := 2) (L' := [some (.ref 281), none]) (st' := [.ref 281, .ref 281]) rfl ?_
            have v1036 : x_MF[1]? = some (.int 0) := rfl
            refine g_get (i := 664) (kd := 0) (ci := 12) (k := 1) (tc := 0) (v := .int 0) rfl rfl (Or.inl (by decide)) g1035 v1036 ?_
            have l1039 : x_MF.length = 311 := rfl
            refine g_putV (i := 681) (kd := 0) (ci := 12) (k := 6) (tc := 0) rfl rfl (Or.inl rfl) g1035 (x_ltL l1039 rfl) rfl (fun S1037 y1041 e1040 w1038 => ?_)
            have l1042 := x_wf_len e1040 l1039
            have v1043 := x_wf_at e1040 (x_ltL l1039 rfl)
            have s1044 := x_wsO w1038 g1035 (l1042.trans l1039.symm) s998
            have g1045 := x_wo_at w1038 g1035
            refine g_n 4 (pc' := 12) (L' := [some (.ref 281), some (.int 0)]) (st' := [.ref 281, .int 0]) rfl ?_
            have v1046 := x_wf_ne e1040 v1036 (x_nb rfl)
            refine g_get (i := 664) (kd := 0) (ci := 12) (k := 1) (tc := 0) (v := .int 0) rfl rfl (Or.inl (by decide)) g1045 v1046 ?_
            refine g_n 3 (pc' := 38) (L' := [some (.ref 281), some (.int 0)]) (st' := [.int 0, .ref 281]) rfl ?_
            refine g_putV (i := 664) (kd := 0) (ci := 12) (k := 1) (tc := 0) rfl rfl (Or.inl rfl) g1045 (x_ltL l1042 rfl) rfl (fun S1047 y1050 e1049 w1048 => ?_)
            have l1051 := x_wf_len e1049 l1042
            have v1052 := x_wf_at e1049 (x_ltL l1042 rfl)
            have s1053 := x_wsO w1048 g1045 (l1051.trans l1042.symm) s1044
            have g1054 := x_wo_at w1048 g1045
            refine g_n 2 (pc' := 43) (L' := [some (.ref 281), some (.int 0)]) (st' := [.int 0, .ref 281]) rfl ?_
            refine g_putV (i := 684) (kd := 0) (ci := 12) (k := 7) (tc := 0) rfl rfl (Or.inl rfl) g1054 (x_ltL l1051 rfl) rfl (fun S1055 y1058 e1057 w1056 => ?_)
            have l1059 := x_wf_len e1057 l1051
            have v1060 := x_wf_at e1057 (x_ltL l1051 rfl)
            have s1061 := x_wsO w1056 g1054 (l1059.trans l1051.symm) s1053
            have g1062 := x_wo_at w1056 g1054
            refine g_n 2 (pc' := 48) (L' := [some (.ref 281), some (.int 0)]) (st' := [.int 0, .ref 281]) rfl ?_
            refine g_putV (i := 675) (kd := 0) (ci := 12) (k := 17) (tc := 0) rfl rfl (Or.inl rfl) g1062 (x_ltL l1059 rfl) rfl (fun S1063 y1066 e1065 w1064 => ?_)
            have l1067 := x_wf_len e1065 l1059
            have v1068 := x_wf_at e1065 (x_ltL l1059 rfl)
            have s1069 := x_wsO w1064 g1062 (l1067.trans l1059.symm) s1061
            have g1070 := x_wo_at w1064 g1062
            refine g_ret (ins := .return_) (len := 1) (r := none) rfl rfl rfl ?_
            refine g_n 2 (pc' := 17) (L' := [some (.ref 281), some (.int 3), none]) (st' := [.int (-2), .ref 281]) rfl ?_
            refine g_putV (i := 19) (kd := 0) (ci := 12) (k := 4) (tc := 0) rfl rfl (Or.inl rfl) g1070 (x_ltL l1067 rfl) rfl (fun S1071 y1074 e1073 w1072 => ?_)
            have l1075 := x_wf_len e1073 l1067
            have v1076 := x_wf_at e1073 (x_ltL l1067 rfl)
            have s1077 := x_wsO w1072 g1070 (l1075.trans l1067.symm) s1069
            have g1078 := x_wo_at w1072 g1070
            refine g_n 1 (pc' := 21) (L' := [some (.ref 281), some (.int 3), none]) (st' := [.ref 281]) rfl ?_
            refine g_vcall (i := 1021) (kd := 3) (j := 441) (np := 0) (ci := 12) (as := [.ref 281]) (rest := []) rfl rfl (Or.inl rfl) (Nat.le_of_ble_eq_true rfl) rfl rfl g1078 rfl rfl ?_
            refine g_in (M := x_M441) (L := [some (.ref 281), none]) x_pl441 rfl ?_
            refine g_n 1 (pc' := 1) (L' := [some (.ref 281), none]) (st' := [.ref 281]) rfl ?_
            have v1079 : x_MF[20]? = some (.ref 288) := rfl
            have v1080 := x_wf_ne e1073 (x_wf_ne e1065 (x_wf_ne e1057 (x_wf_ne e1049 (x_wf_ne e1040 v1079 (x_nb rfl)) (x_nb rfl)) (x_nb rfl)) (x_nb rfl)) (x_nb rfl)
            refine g_get (i := 33) (kd := 1) (ci := 12) (k := 20) (tc := 3) (v := .ref 288) rfl rfl (Or.inl (by decide)) g1078 v1080 ?_
            refine g_n 2 (pc' := 6) (L' := [some (.ref 281), none]) (st' := [.int 0, .int 4, .ref 288]) rfl ?_
            have b1081 : x_arr (x_W fi fl fr) 288 = some (0, 5, .inl fun _ => 0) := rfl
            have g1082 := x_wa_ne w1072 (x_wa_ne w1064 (x_wa_ne w1056 (x_wa_ne w1048 (x_wa_ne w1038 (x_wa_ne w997 (x_wa_ne w991 (x_wa_ne w280 (x_wa_ne w274 (x_wa_ne w269 (x_wa_ne w265 (x_wa_ne w257 (x_wa_ne w253 (x_wa_ne w245 (x_wa_ne w236 (x_wa_ne w232 (x_wa_ne w228 (x_wa_ne w224 (x_wa_ne w219 (x_wa_ne w209 (x_wa_ne w199 (x_wa_ne w189 (x_wa_ne w179 (x_wa_ne w169 (x_wa_ne w159 (x_wa_ne w155 (x_wa_ne w148 (x_wa_ne w144 (x_wa_ne w138 (x_wa_ne w134 (x_wa_ne w130 (x_wa_ne w126 (x_wa_ne w122 (x_wa_ne w116 (x_wa_ne w109 (x_wa_ne w104 (x_wa_ne w99 (x_wa_ne w95 (x_wa_ne w90 (x_wa_ne w86 (x_wa_ne w81 (x_wa_ne w76 (x_wa_ne w69 (x_wa_ne w61 (x_wa_ne w53 (x_wa_ne w46 (x_wa_ne w37 (x_wa_ne w33 (x_wa_ne w26 (x_wa_ne w22 (x_wa_ne w16 (x_wa_ne w12 b1081 (x_nb rfl)) (x_nb rfl)) (x_nb rfl)) (x_nb rfl)) (x_nb rfl)) (x_nb rfl)) (x_nb rfl)) (x_nb rfl)) (x_nb rfl)) (x_nb rfl)) (x_nb rfl)) (x_nb rfl)) (x_nb rfl)) (x_nb rfl)) (x_nb rfl)) (x_nb rfl)) (x_nb rfl)) (x_nb rfl)) (x_nb rfl)) (x_nb rfl)) (x_nb rfl)) (x_nb rfl)) (x_nb rfl)) (x_nb rfl)) (x_nb rfl)) (x_nb rfl)) (x_nb rfl)) (x_nb rfl)) (x_nb rfl)) (x_nb rfl)) (x_nb rfl)) (x_nb rfl)) (x_nb rfl)) (x_nb rfl)) (x_nb rfl)) (x_nb rfl)) (x_nb rfl)) (x_nb rfl)) (x_nb rfl)) (x_nb rfl)) (x_nb rfl)) (x_nb rfl)) (x_nb rfl)) (x_nb rfl)) (x_nb rfl)) (x_nb rfl)) (x_nb rfl)) (x_nb rfl)) (x_nb rfl)) (x_nb rfl)) (x_nb rfl)) (x_nb rfl)
            refine g_isN rfl g1082 (by decide) (fun S1083 w1084 => ?_)
            have s1085 := x_wsA w1084 g1082 rfl s1077
            have g1086 := x_wa_at w1084 g1082
            refine g_n 1 (pc' := 8) (L' := [some (.ref 281), none]) (st' := [.ref 281]) rfl ?_
            have g1087 := x_wo_ne w1084 g1078 (x_nb rfl)
            have v1088 : x_MF[21]? = some (.ref 289) := rfl
            have v1089 := x_wf_ne e1073 (x_wf_ne e1065 (x_wf_ne e1057 (x_wf_ne e1049 (x_wf_ne e1040 v1088 (x_nb rfl)) (x_nb rfl)) (x_nb rfl)) (x_nb rfl)) (x_nb rfl)
            refine g_get (i := 36) (kd := 1) (ci := 12) (k := 21) (tc := 3) (v := .ref 289) rfl rfl (Or.inl (by decide)) g1087 v1089 ?_
            refine g_n 2 (pc' := 13) (L' := [some (.ref 281), none]) (st' := [.int 0, .int 4, .ref 289]) rfl ?_
            have b1090 : x_arr (x_W fi fl fr) 289 = some (0, 5, .inl fun _ => 0) := rfl
            have g1091 := x_wa_ne w1084 (x_wa_ne w1072 (x_wa_ne w1064 (x_wa_ne w1056 (x_wa_ne w1048 (x_wa_ne w1038 (x_wa_ne w997 (x_wa_ne w991 (x_wa_ne w280 (x_wa_ne w274 (x_wa_ne w269 (x_wa_ne w265 (x_wa_ne w257 (x_wa_ne w253 (x_wa_ne w245 (x_wa_ne w236 (x_wa_ne w232 (x_wa_ne w228 (x_wa_ne w224 (x_wa_ne w219 (x_wa_ne w209 (x_wa_ne w199 (x_wa_ne w189 (x_wa_ne w179 (x_wa_ne w169 (x_wa_ne w159 (x_wa_ne w155 (x_wa_ne w148 (x_wa_ne w144 (x_wa_ne w138 (x_wa_ne w134 (x_wa_ne w130 (x_wa_ne w126 (x_wa_ne w122 (x_wa_ne w116 (x_wa_ne w109 (x_wa_ne w104 (x_wa_ne w99 (x_wa_ne w95 (x_wa_ne w90 (x_wa_ne w86 (x_wa_ne w81 (x_wa_ne w76 (x_wa_ne w69 (x_wa_ne w61 (x_wa_ne w53 (x_wa_ne w46 (x_wa_ne w37 (x_wa_ne w33 (x_wa_ne w26 (x_wa_ne w22 (x_wa_ne w16 (x_wa_ne w12 b1090 (x_nb rfl)) (x_nb rfl)) (x_nb rfl)) (x_nb rfl)) (x_nb rfl)) (x_nb rfl)) (x_nb rfl)) (x_nb rfl)) (x_nb rfl)) (x_nb rfl)) (x_nb rfl)) (x_nb rfl)) (x_nb rfl)) (x_nb rfl)) (x_nb rfl)) (x_nb rfl)) (x_nb rfl)) (x_nb rfl)) (x_nb rfl)) (x_nb rfl)) (x_nb rfl)) (x_nb rfl)) (x_nb rfl)) (x_nb rfl)) (x_nb rfl)) (x_nb rfl)) (x_nb rfl)) (x_nb rfl)) (x_nb rfl)) (x_nb rfl)) (x_nb rfl)) (x_nb rfl)) (x_nb rfl)) (x_nb rfl)) (x_nb rfl)) (x_nb rfl)) (x_nb rfl)) (x_nb rfl)) (x_nb rfl)) (x_nb rfl)) (x_nb rfl)) (x_nb rfl)) (x_nb rfl)) (x_nb rfl)) (x_nb rfl)) (x_nb rfl)) (x_nb rfl)) (x_nb rfl)) (x_nb rfl)) (x_nb rfl)) (x_nb rfl)) (x_nb rfl)) (x_nb rfl)
            refine g_isN rfl g1091 (by decide) (fun S1092 w1093 => ?_)
            have s1094 := x_wsA w1093 g1091 rfl s1085
            have g1095 := x_wa_at w1093 g1091
            refine g_n 1 (pc' := 15) (L' := [some (.ref 281), none]) (st' := [.ref 281]) rfl ?_
            have g1096 := x_wo_ne w1093 g1087 (x_nb rfl)
            have v1097 : x_MF[115]? = some (.ref 382) := rfl
            have v1098 := x_wf_ne e1073 (x_wf_ne e1065 (x_wf_ne e1057 (x_wf_ne e1049 (x_wf_ne e1040 v1097 (x_nb rfl)) (x_nb rfl)) (x_nb rfl)) (x_nb rfl)) (x_nb rfl)
            refine g_get (i := 318) (kd := 1) (ci := 12) (k := 115) (tc := 3) (v := .ref 382) rfl rfl (Or.inl (by decide)) g1096 v1098 ?_
            refine g_n 2 (pc' := 20) (L' := [some (.ref 281), none]) (st' := [.int 0, .int 4, .ref 382]) rfl ?_
            have b1099 : x_arr (x_W fi fl fr) 382 = some (0, 5, .inl fun _ => 0) := rfl
            have g1100 := x_wa_ne w1093 (x_wa_ne w1084 (x_wa_ne w1072 (x_wa_ne w1064 (x_wa_ne w1056 (x_wa_ne w1048 (x_wa_ne w1038 (x_wa_ne w997 (x_wa_ne w991 (x_wa_ne w280 (x_wa_ne w274 (x_wa_ne w269 (x_wa_ne w265 (x_wa_ne w257 (x_wa_ne w253 (x_wa_ne w245 (x_wa_ne w236 (x_wa_ne w232 (x_wa_ne w228 (x_wa_ne w224 (x_wa_ne w219 (x_wa_ne w209 (x_wa_ne w199 (x_wa_ne w189 (x_wa_ne w179 (x_wa_ne w169 (x_wa_ne w159 (x_wa_ne w155 (x_wa_ne w148 (x_wa_ne w144 (x_wa_ne w138 (x_wa_ne w134 (x_wa_ne w130 (x_wa_ne w126 (x_wa_ne w122 (x_wa_ne w116 (x_wa_ne w109 (x_wa_ne w104 (x_wa_ne w99 (x_wa_ne w95 (x_wa_ne w90 (x_wa_ne w86 (x_wa_ne w81 (x_wa_ne w76 (x_wa_ne w69 (x_wa_ne w61 (x_wa_ne w53 (x_wa_ne w46 (x_wa_ne w37 (x_wa_ne w33 (x_wa_ne w26 (x_wa_ne w22 (x_wa_ne w16 (x_wa_ne w12 b1099 (x_nb rfl)) (x_nb rfl)) (x_nb rfl)) (x_nb rfl)) (x_nb rfl)) (x_nb rfl)) (x_nb rfl)) (x_nb rfl)) (x_nb rfl)) (x_nb rfl)) (x_nb rfl)) (x_nb rfl)) (x_nb rfl)) (x_nb rfl)) (x_nb rfl)) (x_nb rfl)) (x_nb rfl)) (x_nb rfl)) (x_nb rfl)) (x_nb rfl)) (x_nb rfl)) (x_nb rfl)) (x_nb rfl)) (x_nb rfl)) (x_nb rfl)) (x_nb rfl)) (x_nb rfl)) (x_nb rfl)) (x_nb rfl)) (x_nb rfl)) (x_nb rfl)) (x_nb rfl)) (x_nb rfl)) (x_nb rfl)) (x_nb rfl)) (x_nb rfl)) (x_nb rfl)) (x_nb rfl)) (x_nb rfl)) (x_nb rfl)) (x_nb rfl)) (x_nb rfl)) (x_nb rfl)) (x_nb rfl)) (x_nb rfl)) (x_nb rfl)) (x_nb rfl)) (x_nb rfl)) (x_nb rfl)) (x_nb rfl)) (x_nb rfl)) (x_nb rfl)) (x_nb rfl)) (x_nb rfl)
            refine g_isN rfl g1100 (by decide) (fun S1101 w1102 => ?_)
            have s1103 := x_wsA w1102 g1100 rfl s1094
            have g1104 := x_wa_at w1102 g1100
            refine g_n 2 (pc' := 23) (L' := [some (.ref 281), none]) (st' := [.int 0, .ref 281]) rfl ?_
            have g1105 := x_wo_ne w1102 g1096 (x_nb rfl)
            refine g_putV (i := 818) (kd := 0) (ci := 12) (k := 110) (tc := 0) rfl rfl (Or.inl rfl) g1105 (x_ltL l1075 rfl) rfl (fun S1106 y1109 e1108 w1107 => ?_)
            have l1110 := x_wf_len e1108 l1075
            have v1111 := x_wf_at e1108 (x_ltL l1075 rfl)
            have s1112 := x_wsO w1107 g1105 (l1110.trans l1075.symm) s1103
            have g1113 := x_wo_at w1107 g1105
            refine g_n 1 (pc' := 27) (L' := [some (.ref 281), none]) (st' := [.ref 281]) rfl ?_
            refine g_vcall (i := 805) (kd := 3) (j := 427) (np := 0) (ci := 12) (as := [.ref 281]) (rest := []) rfl rfl (Or.inl rfl) (Nat.le_of_ble_eq_true rfl) rfl rfl g1113 rfl rfl ?_
            refine g_in (M := x_M427) (L := [some (.ref 281), none, none]) x_pl427 rfl ?_
            refine g_n 5 (pc' := 7) (L' := [some (.ref 281), some (.int 1), none]) (st' := [.ref 281]) rfl ?_
            have v1114 := x_wf_ne e1108 (x_wf_ne e1073 (x_wf_ne e1065 v1060 (x_nb rfl)) (x_nb rfl)) (x_nb rfl)
            refine g_get (i := 684) (kd := 0) (ci := 12) (k := 7) (tc := 0) (v := .int 0) rfl rfl (Or.inl (by decide)) g1113 v1114 ?_
            refine g_n 1 (pc' := 11) (L' := [some (.ref 281), some (.int 1), none]) (st' := [.ref 281, .int 0]) rfl ?_
            have v1115 := x_wf_ne e1108 (x_wf_ne e1073 (x_wf_ne e1065 (x_wf_ne e1057 (x_wf_ne e1049 v1043 (x_nb rfl)) (x_nb rfl)) (x_nb rfl)) (x_nb rfl)) (x_nb rfl)
            refine g_get (i := 681) (kd := 0) (ci := 12) (k := 6) (tc := 0) (v := .int 0) rfl rfl (Or.inl (by decide)) g1113 v1115 ?_
            refine g_n 2 (pc' := 87) (L' := [some (.ref 281), some (.int 1), none]) (st' := [.ref 281]) rfl ?_
            refine g_get (i := 684) (kd := 0) (ci := 12) (k := 7) (tc := 0) (v := .int 0) rfl rfl (Or.inl (by decide)) g1113 v1114 ?_
            refine g_n 1 (pc' := 91) (L' := [some (.ref 281), some (.int 1), none]) (st' := [.ref 281, .int 0]) rfl ?_
            refine g_get (i := 681) (kd := 0) (ci := 12) (k := 6) (tc := 0) (v := .int 0) rfl rfl (Or.inl (by decide)) g1113 v1115 ?_
            refine g_n 9 (pc' := 161) (L' := [some (.ref 281), some (.int 0), none]) (st' := [.ref 281, .ref 281]) rfl ?_
            refine g_get (i := 684) (kd := 0) (ci := 12) (k := 7) (tc := 0) (v := .int 0) rfl rfl (Or.inl (by decide)) g1113 v1114 ?_
            refine g_putV (i := 687) (kd := 0) (ci := 12) (k := 9) (tc := 0) rfl rfl (Or.inl rfl) g1113 (x_ltL l1110 rfl) rfl (fun S1116 y1119 e1118 w1117 => ?_)
            have l1120 := x_wf_len e1118 l1110
            have v1121 := x_wf_at e1118 (x_ltL l1110 rfl)
            have s1122 := x_wsO w1117 g1113 (l1120.trans l1110.symm) s1112
            have g1123 := x_wo_at w1117 g1113
            refine g_n 2 (pc' := 169) (L' := [some (.ref 281), some (.int 0), none]) (st' := [.ref 281, .ref 281]) rfl ?_
            have v1124 := x_wf_ne e1118 v1114 (x_nb rfl)
            refine g_get (i := 684) (kd := 0) (ci := 12) (k := 7) (tc := 0) (v := .int 0) rfl rfl (Or.inl (by decide)) g1123 v1124 ?_
            refine g_putV (i := 690) (kd := 0) (ci := 12) (k := 10) (tc := 0) rfl rfl (Or.inl rfl) g1123 (x_ltL l1120 rfl) rfl (fun S1125 y1128 e1127 w1126 => ?_)
            have l1129 := x_wf_len e1127 l1120
            have v1130 := x_wf_at e1127 (x_ltL l1120 rfl)
            have s1131 := x_wsO w1126 g1123 (l1129.trans l1120.symm) s1122
            have g1132 := x_wo_at w1126 g1123
            refine g_n 1 (pc' := 176) (L' := [some (.ref 281), some (.int 0), none]) (st' := [.ref 281]) rfl ?_
            have v1133 := x_wf_ne e1127 v1124 (x_nb rfl)
            refine g_get (i := 684) (kd := 0) (ci := 12) (k := 7) (tc := 0) (v := .int 0) rfl rfl (Or.inl (by decide)) g1132 v1133 ?_
            refine g_n 1 (pc' := 180) (L' := [some (.ref 281), some (.int 0), none]) (st' := [.ref 281, .int 0]) rfl ?_
            have v1134 := x_wf_ne e1127 (x_wf_ne e1118 v1115 (x_nb rfl)) (x_nb rfl)
            refine g_get (i := 681) (kd := 0) (ci := 12) (k := 6) (tc := 0) (v := .int 0) rfl rfl (Or.inl (by decide)) g1132 v1134 ?_
            refine g_n 3 (pc' := 188) (L' := [some (.ref 281), some (.int 0), none]) (st' := [.int 0, .ref 281]) rfl ?_
            refine g_putV (i := 693) (kd := 0) (ci := 12) (k := 8) (tc := 0) rfl rfl (Or.inl rfl) g1132 (x_ltL l1129 rfl) rfl (fun S1135 y1138 e1137 w1136 => ?_)
            have l1139 := x_wf_len e1137 l1129
            have v1140 := x_wf_at e1137 (x_ltL l1129 rfl)
            have s1141 := x_wsO w1136 g1132 (l1139.trans l1129.symm) s1131
            have g1142 := x_wo_at w1136 g1132
            refine g_n 1 (pc' := 192) (L' := [some (.ref 281), some (.int 0), none]) (st' := [.int 1]) rfl ?_
            refine g_ret (ins := .ireturn) (len := 1) (r := (some (.int 1))) rfl rfl rfl ?_
            refine g_n 2 (pc' := 36) (L' := [some (.ref 281), none]) (st' := [.ref 281]) rfl ?_
            refine g_get (i := 693) (kd := 0) (ci := 12) (k := 8) (tc := 0) (v := .int 0) rfl rfl (Or.inl (by decide)) g1142 v1140 ?_
            refine g_n 2 (pc' := 105) (L' := [some (.ref 281), none]) (st' := [.int 1]) rfl ?_
            refine g_ret (ins := .ireturn) (len := 1) (r := (some (.int 1))) rfl rfl rfl ?_
            refine g_n 2 (pc' := 28) (L' := [some (.ref 281), some (.int 3), none]) (st' := [.ref 281]) rfl ?_
            refine g_vcall (i := 1024) (kd := 3) (j := 478) (np := 0) (ci := 12) (as := [.ref 281]) (rest := []) rfl rfl (Or.inl rfl) (Nat.le_of_ble_eq_true rfl) rfl rfl g1142 rfl rfl ?_
            refine g_in (M := x_M478) (L := [some (.ref 281), none]) x_pl478 rfl ?_
            refine g_n 2 (pc' := 2) (L' := [some (.ref 281), none]) (st' := [.int 0, .ref 281]) rfl ?_
            refine g_putV (i := 909) (kd := 0) (ci := 12) (k := 127) (tc := 0) rfl rfl (Or.inl rfl) g1142 (x_ltL l1139 rfl) rfl (fun S1143 y1146 e1145 w1144 => ?_)
            have l1147 := x_wf_len e1145 l1139
            have v1148 := x_wf_at e1145 (x_ltL l1139 rfl)
            have s1149 := x_wsO w1144 g1142 (l1147.trans l1139.symm) s1141
            have g1150 := x_wo_at w1144 g1142
            refine g_n 1 (pc' := 6) (L' := [some (.ref 281), none]) (st' := [.ref 281]) rfl ?_
            refine g_vcall (i := 976) (kd := 3) (j := 464) (np := 0) (ci := 12) (as := [.ref 281]) (rest := []) rfl rfl (Or.inl rfl) (Nat.le_of_ble_eq_true rfl) rfl rfl g1150 rfl rfl ?_
            refine g_in (M := x_M464) (L := [some (.ref 281), none, none]) x_pl464 rfl ?_
            refine g_n 5 (pc' := 7) (L' := [some (.ref 281), some (.int 120), none]) (st' := [.ref 281, .int 120, .int 120]) rfl ?_
            have v1151 := x_wf_ne e1145 (x_wf_ne e1137 (x_wf_ne e1127 (x_wf_ne e1118 (x_wf_ne e1108 v1080 (x_nb rfl)) (x_nb rfl)) (x_nb rfl)) (x_nb rfl)) (x_nb rfl)
            refine g_get (i := 33) (kd := 1) (ci := 12) (k := 20) (tc := 3) (v := .ref 288) rfl rfl (Or.inl (by decide)) g1150 v1151 ?_
            refine g_n 1 (pc' := 11) (L' := [some (.ref 281), some (.int 120), none]) (st' := [.int 4, .ref 288, .int 120, .int 120]) rfl ?_
            have g1152 := x_wa_ne w1144 (x_wa_ne w1136 (x_wa_ne w1126 (x_wa_ne w1117 (x_wa_ne w1107 (x_wa_ne w1102 (x_wa_ne w1093 g1086 (x_nb rfl)) (x_nb rfl)) (x_nb rfl)) (x_nb rfl)) (x_nb rfl)) (x_nb rfl)) (x_nb rfl)
            refine g_ia (i := 4) (a := 288) (n := 5) (v := 0) rfl g1152 (by decide) rfl ?_
            refine g_n 7 (pc' := 198) (L' := [some (.ref 281), some (.int 16), none]) (st' := [.ref 281, .int 16, .int 16]) rfl ?_
            have v1153 := x_wf_ne e1145 (x_wf_ne e1137 (x_wf_ne e1127 (x_wf_ne e1118 (x_wf_ne e1108 v1089 (x_nb rfl)) (x_nb rfl)) (x_nb rfl)) (x_nb rfl)) (x_nb rfl)
            refine g_get (i := 36) (kd := 1) (ci := 12) (k := 21) (tc := 3) (v := .ref 289) rfl rfl (Or.inl (by decide)) g1150 v1153 ?_
            refine g_n 1 (pc' := 202) (L' := [some (.ref 281), some (.int 16), none]) (st' := [.int 4, .ref 289, .int 16, .int 16]) rfl ?_
            have g1154 := x_wa_ne w1144 (x_wa_ne w1136 (x_wa_ne w1126 (x_wa_ne w1117 (x_wa_ne w1107 (x_wa_ne w1102 g1095 (x_nb rfl)) (x_nb rfl)) (x_nb rfl)) (x_nb rfl)) (x_nb rfl)) (x_nb rfl)
            refine g_ia (i := 4) (a := 289) (n := 5) (v := 0) rfl g1154 (by decide) rfl ?_
            refine g_n 2 (pc' := 270) (L' := [some (.ref 281), some (.int 16), none]) (st' := []) rfl ?_
            refine g_ret (ins := .return_) (len := 1) (r := none) rfl rfl rfl ?_
            refine g_n 5 (pc' := 16) (L' := [some (.ref 281), some (.int 120)]) (st' := [.ref 281, .int 120, .int 120]) rfl ?_
            refine g_get (i := 33) (kd := 1) (ci := 12) (k := 20) (tc := 3) (v := .ref 288) rfl rfl (Or.inl (by decide)) g1150 v1151 ?_
            refine g_n 1 (pc' := 20) (L' := [some (.ref 281), some (.int 120)]) (st' := [.int 4, .ref 288, .int 120, .int 120]) rfl ?_
            refine g_ia (i := 4) (a := 288) (n := 5) (v := 0) rfl g1152 (by decide) rfl ?_
            refine g_n 7 (pc' := 60) (L' := [some (.ref 281), some (.int 16)]) (st' := [.ref 281, .int 16, .int 16]) rfl ?_
            refine g_get (i := 36) (kd := 1) (ci := 12) (k := 21) (tc := 3) (v := .ref 289) rfl rfl (Or.inl (by decide)) g1150 v1153 ?_
            refine g_n 1 (pc' := 64) (L' := [some (.ref 281), some (.int 16)]) (st' := [.int 4, .ref 289, .int 16, .int 16]) rfl ?_
            refine g_ia (i := 4) (a := 289) (n := 5) (v := 0) rfl g1154 (by decide) rfl ?_
            refine g_n 3 (pc' := 81) (L' := [some (.ref 281), some (.int 16)]) (st' := [.ref 281]) rfl ?_
            refine g_get (i := 909) (kd := 0) (ci := 12) (k := 127) (tc := 0) (v := .int 0) rfl rfl (Or.inl (by decide)) g1150 v1148 ?_
            refine g_n 2 (pc' := 101) (L' := [some (.ref 281), some (.int 16)]) (st' := [.ref 281]) rfl ?_
            refine g_get (i := 909) (kd := 0) (ci := 12) (k := 127) (tc := 0) (v := .int 0) rfl rfl (Or.inl (by decide)) g1150 v1148 ?_
            refine g_n 3 (pc' := 112) (L' := [some (.ref 281), some (.int 16)]) (st' := [.int 1]) rfl ?_
            refine g_ret (ins := .ireturn) (len := 1) (r := (some (.int 1))) rfl rfl rfl ?_
            refine g_n 6 (pc' := 57) (L' := [some (.ref 281), some (.int 3), some (.int 120)]) (st' := [.ref 281, .int 120, .int 120]) rfl ?_
            refine g_get (i := 33) (kd := 1) (ci := 12) (k := 20) (tc := 3) (v := .ref 288) rfl rfl (Or.inl (by decide)) g1150 v1151 ?_
            refine g_n 1 (pc' := 61) (L' := [some (.ref 281), some (.int 3), some (.int 120)]) (st' := [.int 4, .ref 288, .int 120, .int 120]) rfl ?_
            refine g_ia (i := 4) (a := 288) (n := 5) (v := 0) rfl g1152 (by decide) rfl ?_
            refine g_n 4 (pc' := 88) (L' := [some (.ref 281), some (.int 3), some (.int 120)]) (st' := [.int 3, .ref 281]) rfl ?_
            refine g_vcall (i := 1030) (kd := 3) (j := 485) (np := 1) (ci := 12) (as := [.ref 281, .int 3]) (rest := []) rfl rfl (Or.inl rfl) (Nat.le_of_ble_eq_true rfl) rfl rfl g1150 rfl rfl ?_
            refine g_in (M := x_M485) (L := [some (.ref 281), some (.int 3), none, none, none, none]) x_pl485 rfl ?_
            refine g_n 1 (pc' := 1) (L' := [some (.ref 281), some (.int 3), none, none, none, none]) (st' := [.ref 281]) rfl ?_
            have v1155 : x_MF[19]? = some (.ref 287) := rfl
            have v1156 := x_wf_ne e1145 (x_wf_ne e1137 (x_wf_ne e1127 (x_wf_ne e1118 (x_wf_ne e1108 (x_wf_ne e1073 (x_wf_ne e1065 (x_wf_ne e1057 (x_wf_ne e1049 (x_wf_ne e1040 v1155 (x_nb rfl)) (x_nb rfl)) (x_nb rfl)) (x_nb rfl)) (x_nb rfl)) (x_nb rfl)) (x_nb rfl)) (x_nb rfl)) (x_nb rfl)) (x_nb rfl)
            refine g_get (i := 29) (kd := 1) (ci := 12) (k := 19) (tc := 3) (v := .ref 287) rfl rfl (Or.inl (by decide)) g1150 v1156 ?_
            refine g_n 2 (pc' := 6) (L' := [some (.ref 281), some (.int 3), none, none, none, none]) (st' := [.int 1, .int 3, .ref 287]) rfl ?_
            have b1157 : x_arr (x_W fi fl fr) 287 = some (3, 5, .inl fun _ => 0) := rfl
            have g1158 := x_wa_ne w1144 (x_wa_ne w1136 (x_wa_ne w1126 (x_wa_ne w1117 (x_wa_ne w1107 (x_wa_ne w1102 (x_wa_ne w1093 (x_wa_ne w1084 (x_wa_ne w1072 (x_wa_ne w1064 (x_wa_ne w1056 (x_wa_ne w1048 (x_wa_ne w1038 (x_wa_ne w997 (x_wa_ne w991 (x_wa_ne w280 (x_wa_ne w274 (x_wa_ne w269 (x_wa_ne w265 (x_wa_ne w257 (x_wa_ne w253 (x_wa_ne w245 (x_wa_ne w236 (x_wa_ne w232 (x_wa_ne w228 (x_wa_ne w224 (x_wa_ne w219 (x_wa_ne w209 (x_wa_ne w199 (x_wa_ne w189 (x_wa_ne w179 (x_wa_ne w169 (x_wa_ne w159 (x_wa_ne w155 (x_wa_ne w148 (x_wa_ne w144 (x_wa_ne w138 (x_wa_ne w134 (x_wa_ne w130 (x_wa_ne w126 (x_wa_ne w122 (x_wa_ne w116 (x_wa_ne w109 (x_wa_ne w104 (x_wa_ne w99 (x_wa_ne w95 (x_wa_ne w90 (x_wa_ne w86 (x_wa_ne w81 (x_wa_ne w76 (x_wa_ne w69 (x_wa_ne w61 (x_wa_ne w53 (x_wa_ne w46 (x_wa_ne w37 (x_wa_ne w33 (x_wa_ne w26 (x_wa_ne w22 (x_wa_ne w16 (x_wa_ne w12 b1157 (x_nb rfl)) (x_nb rfl)) (x_nb rfl)) (x_nb rfl)) (x_nb rfl)) (x_nb rfl)) (x_nb rfl)) (x_nb rfl)) (x_nb rfl)) (x_nb rfl)) (x_nb rfl)) (x_nb rfl)) (x_nb rfl)) (x_nb rfl)) (x_nb rfl)) (x_nb rfl)) (x_nb rfl)) (x_nb rfl)) (x_nb rfl)) (x_nb rfl)) (x_nb rfl)) (x_nb rfl)) (x_nb rfl)) (x_nb rfl)) (x_nb rfl)) (x_nb rfl)) (x_nb rfl)) (x_nb rfl)) (x_nb rfl)) (x_nb rfl)) (x_nb rfl)) (x_nb rfl)) (x_nb rfl)) (x_nb rfl)) (x_nb rfl)) (x_nb rfl)) (x_nb rfl)) (x_nb rfl)) (x_nb rfl)) (x_nb rfl)) (x_nb rfl)) (x_nb rfl)) (x_nb rfl)) (x_nb rfl)) (x_nb rfl)) (x_nb rfl)) (x_nb rfl)) (x_nb rfl)) (x_nb rfl)) (x_nb rfl)) (x_nb rfl)) (x_nb rfl)) (x_nb rfl)) (x_nb rfl)) (x_nb rfl)) (x_nb rfl)) (x_nb rfl)) (x_nb rfl)) (x_nb rfl)) (x_nb rfl)
            refine g_bs3N rfl g1158 (by decide) (fun S1159 w1160 => ?_)
            have s1161 := x_wsA w1160 g1158 rfl s1149
            have g1162 := x_wa_at w1160 g1158
            refine g_n 1 (pc' := 8) (L' := [some (.ref 281), some (.int 3), none, none, none, none]) (st' := [.ref 281]) rfl ?_
            have g1163 := x_wo_ne w1160 g1150 (x_nb rfl)
            refine g_get (i := 33) (kd := 1) (ci := 12) (k := 20) (tc := 3) (v := .ref 288) rfl rfl (Or.inl (by decide)) g1163 v1151 ?_
            refine g_n 2 (pc' := 13) (L' := [some (.ref 281), some (.int 3), none, none, none, none]) (st' := [.ref 281, .int 3, .ref 288]) rfl ?_
            refine g_get (i := 33) (kd := 1) (ci := 12) (k := 20) (tc := 3) (v := .ref 288) rfl rfl (Or.inl (by decide)) g1163 v1151 ?_
            refine g_n 1 (pc' := 17) (L' := [some (.ref 281), some (.int 3), none, none, none, none]) (st' := [.int 4, .ref 288, .int 3, .ref 288]) rfl ?_
            have g1164 := x_wa_ne w1160 g1152 (x_nb rfl)
            refine g_ia (i := 4) (a := 288) (n := 5) (v := 0) rfl g1164 (by decide) rfl ?_
            refine g_isN rfl g1164 (by decide) (fun S1165 w1166 => ?_)
            have s1167 := x_wsA w1166 g1164 rfl s1161
            have g1168 := x_wa_at w1166 g1164
            refine g_n 1 (pc' := 20) (L' := [some (.ref 281), some (.int 3), none, none, none, none]) (st' := [.ref 281]) rfl ?_
            have g1169 := x_wo_ne w1166 g1163 (x_nb rfl)
            refine g_get (i := 36) (kd := 1) (ci := 12) (k := 21) (tc := 3) (v := .ref 289) rfl rfl (Or.inl (by decide)) g1169 v1153 ?_
            refine g_n 2 (pc' := 25) (L' := [some (.ref 281), some (.int 3), none, none, none, none]) (st' := [.ref 281, .int 3, .ref 289]) rfl ?_
            refine g_get (i := 36) (kd := 1) (ci := 12) (k := 21) (tc := 3) (v := .ref 289) rfl rfl (Or.inl (by decide)) g1169 v1153 ?_
            refine g_n 1 (pc' := 29) (L' := [some (.ref 281), some (.int 3), none, none, none, none]) (st' := [.int 4, .ref 289, .int 3, .ref 289]) rfl ?_
            have g1170 := x_wa_ne w1166 (x_wa_ne w1160 g1154 (x_nb rfl)) (x_nb rfl)
            refine g_ia (i := 4) (a := 289) (n := 5) (v := 0) rfl g1170 (by decide) rfl ?_
            refine g_isN rfl g1170 (by decide) (fun S1171 w1172 => ?_)
            have s1173 := x_wsA w1172 g1170 rfl s1167
            have g1174 := x_wa_at w1172 g1170
            refine g_n 1 (pc' := 32) (L' := [some (.ref 281), some (.int 3), none, none, none, none]) (st' := [.ref 281]) rfl ?_
            have g1175 := x_wo_ne w1172 g1169 (x_nb rfl)
            have v1176 := x_wf_ne e1145 (x_wf_ne e1137 (x_wf_ne e1127 (x_wf_ne e1118 (x_wf_ne e1108 v1098 (x_nb rfl)) (x_nb rfl)) (x_nb rfl)) (x_nb rfl)) (x_nb rfl)
            refine g_get (i := 318) (kd := 1) (ci := 12) (k := 115) (tc := 3) (v := .ref 382) rfl rfl (Or.inl (by decide)) g1175 v1176 ?_
            refine g_n 2 (pc' := 37) (L' := [some (.ref 281), some (.int 3), none, none, none, none]) (st' := [.ref 281, .int 3, .ref 382]) rfl ?_
            refine g_get (i := 318) (kd := 1) (ci := 12) (k := 115) (tc := 3) (v := .ref 382) rfl rfl (Or.inl (by decide)) g1175 v1176 ?_
            refine g_n 1 (pc' := 41) (L' := [some (.ref 281), some (.int 3), none, none, none, none]) (st' := [.int 4, .ref 382, .int 3, .ref 382]) rfl ?_
            have g1177 := x_wa_ne w1172 (x_wa_ne w1166 (x_wa_ne w1160 (x_wa_ne w1144 (x_wa_ne w1136 (x_wa_ne w1126 (x_wa_ne w1117 (x_wa_ne w1107 g1104 (x_nb rfl)) (x_nb rfl)) (x_nb rfl)) (x_nb rfl)) (x_nb rfl)) (x_nb rfl)) (x_nb rfl)) (x_nb rfl)
            refine g_ia (i := 4) (a := 382) (n := 5) (v := 0) rfl g1177 (by decide) rfl ?_
            refine g_isN rfl g1177 (by decide) (fun S1178 w1179 => ?_)
            have s1180 := x_wsA w1179 g1177 rfl s1173
            have g1181 := x_wa_at w1179 g1177
            refine g_n 4 (pc' := 47) (L' := [some (.ref 281), some (.int 3), some (.int 0), none, none, none]) (st' := [.ref 281, .int 0]) rfl ?_
            have g1182 := x_wo_ne w1179 g1175 (x_nb rfl)
            refine g_get (i := 318) (kd := 1) (ci := 12) (k := 115) (tc := 3) (v := .ref 382) rfl rfl (Or.inl (by decide)) g1182 v1176 ?_
            refine g_n 1 (pc' := 51) (L' := [some (.ref 281), some (.int 3), some (.int 0), none, none, none]) (st' := [.int 3, .ref 382, .int 0]) rfl ?_
            refine g_ia (i := 3) (a := 382) (n := 5) (v := 0) rfl g1181 (by decide) rfl ?_
            refine g_n 5 (pc' := 87) (L' := [some (.ref 281), some (.int 3), some (.int 0), none, none, none]) (st' := [.ref 281, .int 0]) rfl ?_
            refine g_get (i := 33) (kd := 1) (ci := 12) (k := 20) (tc := 3) (v := .ref 288) rfl rfl (Or.inl (by decide)) g1182 v1151 ?_
            refine g_n 1 (pc' := 91) (L' := [some (.ref 281), some (.int 3), some (.int 0), none, none, none]) (st' := [.int 3, .ref 288, .int 0]) rfl ?_
            have g1183 := x_wa_ne w1179 (x_wa_ne w1172 g1168 (x_nb rfl)) (x_nb rfl)
            refine g_ia (i := 3) (a := 288) (n := 5) (v := 0) rfl g1183 (by decide) rfl ?_
            refine g_n 5 (pc' := 502) (L' := [some (.ref 281), some (.int 3), some (.int 0), none, none, none]) (st' := [.ref 281, .int 0]) rfl ?_
            refine g_get (i := 36) (kd := 1) (ci := 12) (k := 21) (tc := 3) (v := .ref 289) rfl rfl (Or.inl (by decide)) g1182 v1153 ?_
            refine g_n 1 (pc' := 506) (L' := [some (.ref 281), some (.int 3), some (.int 0), none, none, none]) (st' := [.int 3, .ref 289, .int 0]) rfl ?_
            have g1184 := x_wa_ne w1179 g1174 (x_nb rfl)
            refine g_ia (i := 3) (a := 289) (n := 5) (v := 0) rfl g1184 (by decide) rfl ?_
            refine g_n 1 (pc' := 529) (L' := [some (.ref 281), some (.int 3), some (.int 0), none, none, none]) (st' := []) rfl ?_
            refine g_ret (ins := .return_) (len := 1) (r := none) rfl rfl rfl ?_
            refine g_n 2 (pc' := 93) (L' := [some (.ref 281), some (.int 3), some (.int 120)]) (st' := [.int 3, .ref 281]) rfl ?_
            refine g_vcall (i := 1033) (kd := 3) (j := 712) (np := 1) (ci := 12) (as := [.ref 281, .int 3]) (rest := []) rfl rfl (Or.inl rfl) (Nat.le_of_ble_eq_true rfl) rfl rfl g1182 rfl rfl ?_
            refine g_in (M := x_M712) (L := [some (.ref 281), some (.int 3), none]) x_pl712 rfl ?_
            refine g_n 6 (pc' := 9) (L' := [some (.ref 281), some (.int 3), some (.int 0)]) (st' := [.ref 281]) rfl ?_
            have v1185 : x_MF[135]? = some (.ref 387) := rfl
            have v1186 := x_wf_ne e1145 (x_wf_ne e1137 (x_wf_ne e1127 (x_wf_ne e1118 (x_wf_ne e1108 (x_wf_ne e1073 (x_wf_ne e1065 (x_wf_ne e1057 (x_wf_ne e1049 (x_wf_ne e1040 v1185 (x_nb rfl)) (x_nb rfl)) (x_nb rfl)) (x_nb rfl)) (x_nb rfl)) (x_nb rfl)) (x_nb rfl)) (x_nb rfl)) (x_nb rfl)) (x_nb rfl)
            refine g_get (i := 333) (kd := 1) (ci := 12) (k := 135) (tc := 3) (v := .ref 387) rfl rfl (Or.inl (by decide)) g1182 v1186 ?_
            refine g_n 1 (pc' := 13) (L' := [some (.ref 281), some (.int 3), some (.int 0)]) (st' := [.int 0, .ref 387]) rfl ?_
            have b1187 : x_arr (x_W fi fl fr) 387 = some (3, 16, .inl fun _ => 0) := rfl
            have g1188 := x_wa_ne w1179 (x_wa_ne w1172 (x_wa_ne w1166 (x_wa_ne w1160 (x_wa_ne w1144 (x_wa_ne w1136 (x_wa_ne w1126 (x_wa_ne w1117 (x_wa_ne w1107 (x_wa_ne w1102 (x_wa_ne w1093 (x_wa_ne w1084 (x_wa_ne w1072 (x_wa_ne w1064 (x_wa_ne w1056 (x_wa_ne w1048 (x_wa_ne w1038 (x_wa_ne w997 (x_wa_ne w991 (x_wa_ne w280 (x_wa_ne w274 (x_wa_ne w269 (x_wa_ne w265 (x_wa_ne w257 (x_wa_ne w253 (x_wa_ne w245 (x_wa_ne w236 (x_wa_ne w232 (x_wa_ne w228 (x_wa_ne w224 (x_wa_ne w219 (x_wa_ne w209 (x_wa_ne w199 (x_wa_ne w189 (x_wa_ne w179 (x_wa_ne w169 (x_wa_ne w159 (x_wa_ne w155 (x_wa_ne w148 (x_wa_ne w144 (x_wa_ne w138 (x_wa_ne w134 (x_wa_ne w130 (x_wa_ne w126 (x_wa_ne w122 (x_wa_ne w116 (x_wa_ne w109 (x_wa_ne w104 (x_wa_ne w99 (x_wa_ne w95 (x_wa_ne w90 (x_wa_ne w86 (x_wa_ne w81 (x_wa_ne w76 (x_wa_ne w69 (x_wa_ne w61 (x_wa_ne w53 (x_wa_ne w46 (x_wa_ne w37 (x_wa_ne w33 (x_wa_ne w26 (x_wa_ne w22 (x_wa_ne w16 (x_wa_ne w12 b1187 (x_nb rfl)) (x_nb rfl)) (x_nb rfl)) (x_nb rfl)) (x_nb rfl)) (x_nb rfl)) (x_nb rfl)) (x_nb rfl)) (x_nb rfl)) (x_nb rfl)) (x_nb rfl)) (x_nb rfl)) (x_nb rfl)) (x_nb rfl)) (x_nb rfl)) (x_nb rfl)) (x_nb rfl)) (x_nb rfl)) (x_nb rfl)) (x_nb rfl)) (x_nb rfl)) (x_nb rfl)) (x_nb rfl)) (x_nb rfl)) (x_nb rfl)) (x_nb rfl)) (x_nb rfl)) (x_nb rfl)) (x_nb rfl)) (x_nb rfl)) (x_nb rfl)) (x_nb rfl)) (x_nb rfl)) (x_nb rfl)) (x_nb rfl)) (x_nb rfl)) (x_nb rfl)) (x_nb rfl)) (x_nb rfl)) (x_nb rfl)) (x_nb rfl)) (x_nb rfl)) (x_nb rfl)) (x_nb rfl)) (x_nb rfl)) (x_nb rfl)) (x_nb rfl)) (x_nb rfl)) (x_nb rfl)) (x_nb rfl)) (x_nb rfl)) (x_nb rfl)) (x_nb rfl)) (x_nb rfl)) (x_nb rfl)) (x_nb rfl)) (x_nb rfl)) (x_nb rfl)) (x_nb rfl)) (x_nb rfl)) (x_nb rfl)) (x_nb rfl)) (x_nb rfl)) (x_nb rfl)
            refine g_ba3 (i := 0) (a := 387) (n := 16) (v := 0) rfl g1188 (by decide) rfl ?_
            refine g_n 7 (pc' := 9) (L' := [some (.ref 281), some (.int 3), some (.int 1)]) (st' := [.ref 281]) rfl ?_
            refine g_get (i := 333) (kd := 1) (ci := 12) (k := 135) (tc := 3) (v := .ref 387) rfl rfl (Or.inl (by decide)) g1182 v1186 ?_
            refine g_n 1 (pc' := 13) (L' := [some (.ref 281), some (.int 3), some (.int 1)]) (st' := [.int 1, .ref 387]) rfl ?_
            refine g_ba3 (i := 1) (a := 387) (n := 16) (v := 0) rfl g1188 (by decide) rfl ?_
            refine g_n 7 (pc' := 9) (L' := [some (.ref 281), some (.int 3), some (.int 2)]) (st' := [.ref 281]) rfl ?_
            refine g_get (i := 333) (kd := 1) (ci := 12) (k := 135) (tc := 3) (v := .ref 387) rfl rfl (Or.inl (by decide)) g1182 v1186 ?_
            refine g_n 1 (pc' := 13) (L' := [some (.ref 281), some (.int 3), some (.int 2)]) (st' := [.int 2, .ref 387]) rfl ?_
            refine g_ba3 (i := 2) (a := 387) (n := 16) (v := 0) rfl g1188 (by decide) rfl ?_
            refine g_n 7 (pc' := 9) (L' := [some (.ref 281), some (.int 3), some (.int 3)]) (st' := [.ref 281]) rfl ?_
            refine g_get (i := 333) (kd := 1) (ci := 12) (k := 135) (tc := 3) (v := .ref 387) rfl rfl (Or.inl (by decide)) g1182 v1186 ?_
            refine g_n 1 (pc' := 13) (L' := [some (.ref 281), some (.int 3), some (.int 3)]) (st' := [.int 3, .ref 387]) rfl ?_
            refine g_ba3 (i := 3) (a := 387) (n := 16) (v := 0) rfl g1188 (by decide) rfl ?_
            refine g_n 7 (pc' := 9) (L' := [some (.ref 281), some (.int 3), some (.int 4)]) (st' := [.ref 281]) rfl ?_
            refine g_get (i := 333) (kd := 1) (ci := 12) (k := 135) (tc := 3) (v := .ref 387) rfl rfl (Or.inl (by decide)) g1182 v1186 ?_
            refine g_n 1 (pc' := 13) (L' := [some (.ref 281), some (.int 3), some (.int 4)]) (st' := [.int 4, .ref 387]) rfl ?_
            refine g_ba3 (i := 4) (a := 387) (n := 16) (v := 0) rfl g1188 (by decide) rfl ?_
            refine g_n 7 (pc' := 9) (L' := [some (.ref 281), some (.int 3), some (.int 5)]) (st' := [.ref 281]) rfl ?_
            refine g_get (i := 333) (kd := 1) (ci := 12) (k := 135) (tc := 3) (v := .ref 387) rfl rfl (Or.inl (by decide)) g1182 v1186 ?_
            refine g_n 1 (pc' := 13) (L' := [some (.ref 281), some (.int 3), some (.int 5)]) (st' := [.int 5, .ref 387]) rfl ?_
            refine g_ba3 (i := 5) (a := 387) (n := 16) (v := 0) rfl g1188 (by decide) rfl ?_
            refine g_n 7 (pc' := 9) (L' := [some (.ref 281), some (.int 3), some (.int 6)]) (st' := [.ref 281]) rfl ?_
            refine g_get (i := 333) (kd := 1) (ci := 12) (k := 135) (tc := 3) (v := .ref 387) rfl rfl (Or.inl (by decide)) g1182 v1186 ?_
            refine g_n 1 (pc' := 13) (L' := [some (.ref 281), some (.int 3), some (.int 6)]) (st' := [.int 6, .ref 387]) rfl ?_
            refine g_ba3 (i := 6) (a := 387) (n := 16) (v := 0) rfl g1188 (by decide) rfl ?_
            refine g_n 7 (pc' := 9) (L' := [some (.ref 281), some (.int 3), some (.int 7)]) (st' := [.ref 281]) rfl ?_
            refine g_get (i := 333) (kd := 1) (ci := 12) (k := 135) (tc := 3) (v := .ref 387) rfl rfl (Or.inl (by decide)) g1182 v1186 ?_
            refine g_n 1 (pc' := 13) (L' := [some (.ref 281), some (.int 3), some (.int 7)]) (st' := [.int 7, .ref 387]) rfl ?_
            refine g_ba3 (i := 7) (a := 387) (n := 16) (v := 0) rfl g1188 (by decide) rfl ?_
            refine g_n 7 (pc' := 9) (L' := [some (.ref 281), some (.int 3), some (.int 8)]) (st' := [.ref 281]) rfl ?_
            refine g_get (i := 333) (kd := 1) (ci := 12) (k := 135) (tc := 3) (v := .ref 387) rfl rfl (Or.inl (by decide)) g1182 v1186 ?_
            refine g_n 1 (pc' := 13) (L' := [some (.ref 281), some (.int 3), some (.int 8)]) (st' := [.int 8, .ref 387]) rfl ?_
            refine g_ba3 (i := 8) (a := 387) (n := 16) (v := 0) rfl g1188 (by decide) rfl ?_
            refine g_n 7 (pc' := 9) (L' := [some (.ref 281), some (.int 3), some (.int 9)]) (st' := [.ref 281]) rfl ?_
            refine g_get (i := 333) (kd := 1) (ci := 12) (k := 135) (tc := 3) (v := .ref 387) rfl rfl (Or.inl (by decide)) g1182 v1186 ?_
            refine g_n 1 (pc' := 13) (L' := [some (.ref 281), some (.int 3), some (.int 9)]) (st' := [.int 9, .ref 387]) rfl ?_
            refine g_ba3 (i := 9) (a := 387) (n := 16) (v := 0) rfl g1188 (by decide) rfl ?_
            refine g_n 7 (pc' := 9) (L' := [some (.ref 281), some (.int 3), some (.int 10)]) (st' := [.ref 281]) rfl ?_
            refine g_get (i := 333) (kd := 1) (ci := 12) (k := 135) (tc := 3) (v := .ref 387) rfl rfl (Or.inl (by decide)) g1182 v1186 ?_
            refine g_n 1 (pc' := 13) (L' := [some (.ref 281), some (.int 3), some (.int 10)]) (st' := [.int 10, .ref 387]) rfl ?_
            refine g_ba3 (i := 10) (a := 387) (n := 16) (v := 0) rfl g1188 (by decide) rfl ?_
            refine g_n 7 (pc' := 9) (L' := [some (.ref 281), some (.int 3), some (.int 11)]) (st' := [.ref 281]) rfl ?_
            refine g_get (i := 333) (kd := 1) (ci := 12) (k := 135) (tc := 3) (v := .ref 387) rfl rfl (Or.inl (by decide)) g1182 v1186 ?_
            refine g_n 1 (pc' := 13) (L' := [some (.ref 281), some (.int 3), some (.int 11)]) (st' := [.int 11, .ref 387]) rfl ?_
            refine g_ba3 (i := 11) (a := 387) (n := 16) (v := 0) rfl g1188 (by decide) rfl ?_
            refine g_n 7 (pc' := 41) (L' := [some (.ref 281), some (.int 3), some (.int 12)]) (st' := [.ref 281]) rfl ?_
            have v1189 : x_MF[260]? = some (.int 0) := rfl
            have v1190 := x_wf_ne e1145 (x_wf_ne e1137 (x_wf_ne e1127 (x_wf_ne e1118 (x_wf_ne e1108 (x_wf_ne e1073 (x_wf_ne e1065 (x_wf_ne e1057 (x_wf_ne e1049 (x_wf_ne e1040 v1189 (x_nb rfl)) (x_nb rfl)) (x_nb rfl)) (x_nb rfl)) (x_nb rfl)) (x_nb rfl)) (x_nb rfl)) (x_nb rfl)) (x_nb rfl)) (x_nb rfl)
            refine g_get (i := 1889) (kd := 0) (ci := 12) (k := 260) (tc := 2) (v := .int 0) rfl rfl (Or.inl (by decide)) g1182 v1190 ?_
            refine g_n 7 (pc' := 92) (L' := [some (.ref 281), some (.int 3), some (.int 0)]) (st' := [.ref 281]) rfl ?_
            have v1191 : x_MF[280]? = some (.ref 470) := rfl
            have v1192 := x_wf_ne e1145 (x_wf_ne e1137 (x_wf_ne e1127 (x_wf_ne e1118 (x_wf_ne e1108 (x_wf_ne e1073 (x_wf_ne e1065 (x_wf_ne e1057 (x_wf_ne e1049 (x_wf_ne e1040 v1191 (x_nb rfl)) (x_nb rfl)) (x_nb rfl)) (x_nb rfl)) (x_nb rfl)) (x_nb rfl)) (x_nb rfl)) (x_nb rfl)) (x_nb rfl)) (x_nb rfl)
            refine g_get (i := 585) (kd := 1) (ci := 12) (k := 280) (tc := 3) (v := .ref 470) rfl rfl (Or.inl (by decide)) g1182 v1192 ?_
            refine g_n 1 (pc' := 96) (L' := [some (.ref 281), some (.int 3), some (.int 0)]) (st' := [.int 0, .ref 470]) rfl ?_
            have b1193 : x_arr (x_W fi fl fr) 470 = some (3, 3, .inl fun _ => 0) := rfl
            have g1194 := x_wa_ne w1179 (x_wa_ne w1172 (x_wa_ne w1166 (x_wa_ne w1160 (x_wa_ne w1144 (x_wa_ne w1136 (x_wa_ne w1126 (x_wa_ne w1117 (x_wa_ne w1107 (x_wa_ne w1102 (x_wa_ne w1093 (x_wa_ne w1084 (x_wa_ne w1072 (x_wa_ne w1064 (x_wa_ne w1056 (x_wa_ne w1048 (x_wa_ne w1038 (x_wa_ne w997 (x_wa_ne w991 (x_wa_ne w280 (x_wa_ne w274 (x_wa_ne w269 (x_wa_ne w265 (x_wa_ne w257 (x_wa_ne w253 (x_wa_ne w245 (x_wa_ne w236 (x_wa_ne w232 (x_wa_ne w228 (x_wa_ne w224 (x_wa_ne w219 (x_wa_ne w209 (x_wa_ne w199 (x_wa_ne w189 (x_wa_ne w179 (x_wa_ne w169 (x_wa_ne w159 (x_wa_ne w155 (x_wa_ne w148 (x_wa_ne w144 (x_wa_ne w138 (x_wa_ne w134 (x_wa_ne w130 (x_wa_ne w126 (x_wa_ne w122 (x_wa_ne w116 (x_wa_ne w109 (x_wa_ne w104 (x_wa_ne w99 (x_wa_ne w95 (x_wa_ne w90 (x_wa_ne w86 (x_wa_ne w81 (x_wa_ne w76 (x_wa_ne w69 (x_wa_ne w61 (x_wa_ne w53 (x_wa_ne w46 (x_wa_ne w37 (x_wa_ne w33 (x_wa_ne w26 (x_wa_ne w22 (x_wa_ne w16 (x_wa_ne w12 b1193 (x_nb rfl)) (x_nb rfl)) (x_nb rfl)) (x_nb rfl)) (x_nb rfl)) (x_nb rfl)) (x_nb rfl)) (x_nb rfl)) (x_nb rfl)) (x_nb rfl)) (x_nb rfl)) (x_nb rfl)) (x_nb rfl)) (x_nb rfl)) (x_nb rfl)) (x_nb rfl)) (x_nb rfl)) (x_nb rfl)) (x_nb rfl)) (x_nb rfl)) (x_nb rfl)) (x_nb rfl)) (x_nb rfl)) (x_nb rfl)) (x_nb rfl)) (x_nb rfl)) (x_nb rfl)) (x_nb rfl)) (x_nb rfl)) (x_nb rfl)) (x_nb rfl)) (x_nb rfl)) (x_nb rfl)) (x_nb rfl)) (x_nb rfl)) (x_nb rfl)) (x_nb rfl)) (x_nb rfl)) (x_nb rfl)) (x_nb rfl)) (x_nb rfl)) (x_nb rfl)) (x_nb rfl)) (x_nb rfl)) (x_nb rfl)) (x_nb rfl)) (x_nb rfl)) (x_nb rfl)) (x_nb rfl)) (x_nb rfl)) (x_nb rfl)) (x_nb rfl)) (x_nb rfl)) (x_nb rfl)) (x_nb rfl)) (x_nb rfl)) (x_nb rfl)) (x_nb rfl)) (x_nb rfl)) (x_nb rfl)) (x_nb rfl)) (x_nb rfl)) (x_nb rfl)) (x_nb rfl)
            refine g_ba3 (i := 0) (a := 470) (n := 3) (v := 0) rfl g1194 (by decide) rfl ?_
            refine g_n 7 (pc' := 92) (L' := [some (.ref 281), some (.int 3), some (.int 1)]) (st' := [.ref 281]) rfl ?_
            refine g_get (i := 585) (kd := 1) (ci := 12) (k := 280) (tc := 3) (v := .ref 470) rfl rfl (Or.inl (by decide)) g1182 v1192 ?_
            refine g_n 1 (pc' := 96) (L' := [some (.ref 281), some (.int 3), some (.int 1)]) (st' := [.int 1, .ref 470]) rfl ?_
            refine g_ba3 (i := 1) (a := 470) (n := 3) (v := 0) rfl g1194 (by decide) rfl ?_
            refine g_n 7 (pc' := 92) (L' := [some (.ref 281), some (.int 3), some (.int 2)]) (st' := [.ref 281]) rfl ?_
            refine g_get (i := 585) (kd := 1) (ci := 12) (k := 280) (tc := 3) (v := .ref 470) rfl rfl (Or.inl (by decide)) g1182 v1192 ?_
            refine g_n 1 (pc' := 96) (L' := [some (.ref 281), some (.int 3), some (.int 2)]) (st' := [.int 2, .ref 470]) rfl ?_
            refine g_ba3 (i := 2) (a := 470) (n := 3) (v := 0) rfl g1194 (by decide) rfl ?_
            refine g_n 6 (pc' := 130) (L' := [some (.ref 281), some (.int 3), some (.int 3)]) (st' := []) rfl ?_
            refine g_ret (ins := .return_) (len := 1) (r := none) rfl rfl rfl ?_
            refine g_n 1 (pc' := 97) (L' := [some (.ref 281), some (.int 3), some (.int 120)]) (st' := [.ref 281]) rfl ?_
            refine g_get (i := 33) (kd := 1) (ci := 12) (k := 20) (tc := 3) (v := .ref 288) rfl rfl (Or.inl (by decide)) g1182 v1151 ?_
            refine g_n 1 (pc' := 101) (L' := [some (.ref 281), some (.int 3), some (.int 120)]) (st' := [.int 3, .ref 288]) rfl ?_
            refine g_ia (i := 3) (a := 288) (n := 5) (v := 0) rfl g1183 (by decide) rfl ?_
            exact g_ret (ins := .ireturn) (len := 1) (r := (some (.int 0))) rfl rfl rfl ⟨_, rfl, rfl, s1180⟩
