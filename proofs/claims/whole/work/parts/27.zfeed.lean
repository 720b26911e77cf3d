/-! Numbers laid on the tape, byte by byte: what they leave is said but for the bytes. -/
theorem x_set_swap {S : xS} {a c : Nat} {e e' o' : xE} (h : a ≠ c) : ((S.set a e).set c e').set a o' = (S.set a o').set c e' := by
  rw [List.set_comm _ _ (fun q => h q.symm), List.set_set]
section XFE
variable {d : Nat} {scr : Option (Nat × (Nat → Int32))} {M : xM} {pc pc' : Nat} {L L' : xLs} {st st' : List Value} {S S' : xS} {Q : Option Value → xS → Prop} {a c n : Nat}
theorem g_is {a n : Nat} {i x : Int32} {f : Nat → Int32} (hr : x_row M pc = some (.iastore, 1)) (ha : x_arr S a = some (0, n, .inl f)) (hi : x_in i n) (kk : x_go d scr M (pc + 1) L st (S.set a (.inr (0, n, .inl (upd f i.toNatClampNeg x)))) Q) : x_go d scr M pc L (.int x :: .int i :: .ref a :: st) S Q := by
  refine g_s0 (pc' := pc + 1) (L' := L) (st' := st) (S' := S.set a (.inr (0, n, .inl (upd f i.toNatClampNeg x)))) ?_ kk
  rw [x_st0_heap hr rfl rfl]
  show x_iast pc L (.int x :: .int i :: .ref a :: st) S = _
  unfold x_iast
  simp only [ha]
  rw [if_pos hi]
theorem x_nneg {n : Nat} (h : n < 2147483648) : ¬ Int32.ofNat n < 0 := fun q => by
  have := Int32.lt_iff_toInt_lt.mp q
  rw [x_i32 h] at this
  have h0 : (0 : Int32).toInt = 0 := by decide
  omega
theorem x_addBig_lp {w : Value} {f0 : Nat → Int32} {q0 : Nat × List Value} {v : Int64} {cnt : Int32} (ha : x_obj S a = some q0) (hc : x_arr S c = some (2, n, .inl f0)) (hn : n < 2147483648) : ∀ r m, m + r ≤ n → (∀ f, Q none ((S.set a (.inl (0, [.ref c, .int (Int32.ofNat (m + r)), w]))).set c (.inr (2, n, .inl f)))) → ∀ f, x_go d none x_M9 5 [some (.ref a), some (.long v), none, some (.int cnt), some (.int (Int32.ofNat r - 1))] [] ((S.set a (.inl (0, [.ref c, .int (Int32.ofNat m), w]))).set c (.inr (2, n, .inl f))) Q := by
  have hne := x_oa_ne ha hc
  have ho : ∀ m f, x_obj ((S.set a (.inl (0, [.ref c, .int (Int32.ofNat m), w]))).set c (.inr (2, n, .inl f))) a = some (0, [.ref c, .int (Int32.ofNat m), w]) := fun m f => by rw [x_obj_ne hne]; exact x_obj_at ha
  have hA : ∀ m f, x_arr ((S.set a (.inl (0, [.ref c, .int (Int32.ofNat m), w]))).set c (.inr (2, n, .inl f))) c = some (2, n, .inl f) := fun m f => x_arr_at (q := (2, n, .inl f0)) (by rw [x_arr_ne (fun q => hne q.symm)]; exact hc)
  intro r
  induction r with
  | zero =>
    intro m hm k f
    refine g_n 1 (pc' := 7) (L' := [some (.ref a), some (.long v), none, some (.int cnt), some (.int (Int32.ofNat 0 - 1))]) (st' := [.int (Int32.ofNat 0 - 1)]) rfl ?_
    refine g_brT (c := Int32.ofNat 0 - 1 < 0) (t := 76) (f := 10) (L' := [some (.ref a), some (.long v), none, some (.int cnt), some (.int (Int32.ofNat 0 - 1))]) (st' := []) rfl (by decide) ?_
    exact g_ret (ins := .return_) (len := 1) (r := none) rfl rfl rfl (k f)
  | succ r ih =>
    intro m hm k f
    have e1 : Int32.ofNat (r + 1) - 1 = Int32.ofNat r := by
      rw [← x_addN r 1]
      exact Int32.add_sub_cancel _ _
    rw [e1]
    refine g_n 1 (pc' := 7) (L' := [some (.ref a), some (.long v), none, some (.int cnt), some (.int (Int32.ofNat r))]) (st' := [.int (Int32.ofNat r)]) rfl ?_
    refine g_brF (c := Int32.ofNat r < 0) (t := 76) (f := 10) (L' := [some (.ref a), some (.long v), none, some (.int cnt), some (.int (Int32.ofNat r))]) (st' := []) rfl (x_nneg (by omega)) ?_
    refine g_n 1 (pc' := 11) (L' := [some (.ref a), some (.long v), none, some (.int cnt), some (.int (Int32.ofNat r))]) (st' := [.ref a]) rfl ?_
    refine g_get (i := 19) (kd := 0) (ci := 0) (k := 1) (tc := 0) rfl rfl (Or.inl (by decide)) (ho m f) rfl ?_
    refine g_brF (c := Int32.ofNat m < 0) (t := 60) (f := 17) (L' := [some (.ref a), some (.long v), none, some (.int cnt), some (.int (Int32.ofNat r))]) (st' := []) rfl (x_nneg (by omega)) ?_
    refine g_n 1 (pc' := 18) (L' := [some (.ref a), some (.long v), none, some (.int cnt), some (.int (Int32.ofNat r))]) (st' := [.ref a]) rfl ?_
    refine g_get (i := 19) (kd := 0) (ci := 0) (k := 1) (tc := 0) rfl rfl (Or.inl (by decide)) (ho m f) rfl ?_
    refine g_n 1 (pc' := 22) (L' := [some (.ref a), some (.long v), none, some (.int cnt), some (.int (Int32.ofNat r))]) (st' := [.ref a, .int (Int32.ofNat m)]) rfl ?_
    refine g_get (i := 13) (kd := 1) (ci := 0) (k := 0) (tc := 3) rfl rfl (Or.inl (by decide)) (ho m f) rfl ?_
    refine g_len rfl (hA m f) (by decide) ?_
    refine g_brF (c := Int32.ofNat n ≤ Int32.ofNat m) (t := 60) (f := 29) (L' := [some (.ref a), some (.long v), none, some (.int cnt), some (.int (Int32.ofNat r))]) (st' := []) rfl (fun q => by have := (x_leN hn (by omega)).mp q; omega) ?_
    refine g_n 1 (pc' := 30) (L' := [some (.ref a), some (.long v), none, some (.int cnt), some (.int (Int32.ofNat r))]) (st' := [.ref a]) rfl ?_
    refine g_get (i := 13) (kd := 1) (ci := 0) (k := 0) (tc := 3) rfl rfl (Or.inl (by decide)) (ho m f) rfl ?_
    refine g_n 1 (pc' := 34) (L' := [some (.ref a), some (.long v), none, some (.int cnt), some (.int (Int32.ofNat r))]) (st' := [.ref a, .ref c]) rfl ?_
    refine g_get (i := 19) (kd := 0) (ci := 0) (k := 1) (tc := 0) rfl rfl (Or.inl (by decide)) (ho m f) rfl ?_
    refine g_n 7 (pc' := 46) (L' := [some (.ref a), some (.long v), none, some (.int cnt), some (.int (Int32.ofNat r))]) (st' := [.int _, .int (Int32.ofNat m), .ref c]) rfl ?_
    refine g_bs rfl (hA m f) (x_inN hn (by omega)) ?_
    rw [List.set_set]
    refine g_n 2 (pc' := 49) (L' := [some (.ref a), some (.long v), none, some (.int cnt), some (.int (Int32.ofNat r))]) (st' := [.ref a, .ref a]) rfl ?_
    refine g_get (i := 19) (kd := 0) (ci := 0) (k := 1) (tc := 0) rfl rfl (Or.inl (by decide)) (ho m _) rfl ?_
    refine g_n 2 (pc' := 54) (L' := [some (.ref a), some (.long v), none, some (.int cnt), some (.int (Int32.ofNat r))]) (st' := [.int (Int32.ofNat m + Int32.ofInt 1), .ref a]) rfl ?_
    rw [show Int32.ofNat m + Int32.ofInt 1 = Int32.ofNat (m + 1) from x_addN m 1]
    refine g_put (i := 19) (kd := 0) (ci := 0) (k := 1) (tc := 0) rfl rfl (Or.inl rfl) (ho m _) (by simp) rfl ?_
    rw [x_set_swap hne]
    refine g_n 3 (pc' := 5) (L' := [some (.ref a), some (.long v), none, some (.int cnt), some (.int (Int32.ofNat r + Int32.ofInt (-1)))]) (st' := []) rfl ?_
    have e2 : Int32.ofNat r + Int32.ofInt (-1) = Int32.ofNat r - 1 := by
      rw [show Int32.ofInt (-1) = -1 from by decide, Int32.sub_eq_add_neg]
    rw [e2]
    exact ih (m + 1) (by omega) (fun f => by have := k f; rwa [show m + (r + 1) = m + 1 + r by omega] at this) _
theorem x_addBig {w : Value} {f0 : Nat → Int32} {v : Int64} {r m : Nat} (ha : x_obj S a = some (0, [.ref c, .int (Int32.ofNat m), w])) (hc : x_arr S c = some (2, n, .inl f0)) (hn : n < 2147483648) (hm : m + r ≤ n) (k : ∀ f, Q none ((S.set a (.inl (0, [.ref c, .int (Int32.ofNat (m + r)), w]))).set c (.inr (2, n, .inl f)))) : x_ev (d + 1) 9 [.ref a, .long v, .int (Int32.ofNat r)] S Q := by
  refine g_in (M := x_M9) (L := [some (.ref a), some (.long v), none, some (.int (Int32.ofNat r)), none]) x_pl9 rfl ?_
  refine g_n 4 (pc' := 5) (L' := [some (.ref a), some (.long v), none, some (.int (Int32.ofNat r)), some (.int (Int32.ofNat r - 1))]) (st' := []) (S' := S) rfl ?_
  have e : S = (S.set a (.inl (0, [.ref c, .int (Int32.ofNat m), w]))).set c (.inr (2, n, .inl f0)) := by
    rw [x_set_self (x_obj_inv ha), x_set_self (x_arr_inv hc)]
  have := x_addBig_lp (d := d) (Q := Q) (v := v) (cnt := Int32.ofNat r) (w := w) ha hc hn r m hm k f0
  rw [← e] at this
  exact this
/-- the reference's way, a byte at a time -/
theorem x_mlay1 {fs : List Value} {f0 f : Nat → Int32} {v kk : Int32} {m : Nat} {q0 : Nat × List Value} (ha : x_obj S a = some q0) (hc : x_arr S c = some (0, n, .inl f0)) (h0 : fs[0]? = some (.ref c)) (hl : fs.length = 311) (hn : n < 2147483648) (hm : m < n) (hk : ¬ kk < 0)
    (k : ∀ f, x_go d none x_M413 3 [some (.ref a), some (.int v), some (.int (kk + Int32.ofInt (-8)))] [] ((S.set a (.inl (12, fs.set 1 (.int (Int32.ofNat (m + 1)))))).set c (.inr (0, n, .inl f))) Q) : x_go d none x_M413 3 [some (.ref a), some (.int v), some (.int kk)] [] ((S.set a (.inl (12, fs.set 1 (.int (Int32.ofNat m))))).set c (.inr (0, n, .inl f))) Q := by
  have hne := x_oa_ne ha hc
  have ho : ∀ m f, x_obj ((S.set a (.inl (12, fs.set 1 (.int (Int32.ofNat m))))).set c (.inr (0, n, .inl f))) a = some (12, fs.set 1 (.int (Int32.ofNat m))) := fun m f => by rw [x_obj_ne hne]; exact x_obj_at ha
  have hA : ∀ m f, x_arr ((S.set a (.inl (12, fs.set 1 (.int (Int32.ofNat m))))).set c (.inr (0, n, .inl f))) c = some (0, n, .inl f) := fun m f => x_arr_at (q := (0, n, .inl f0)) (by rw [x_arr_ne (fun q => hne q.symm)]; exact hc)
  have g0 : ∀ m, (fs.set 1 (.int (Int32.ofNat m)))[0]? = some (.ref c) := fun m => by rw [List.getElem?_set_ne (by decide)]; exact h0
  have g1 : ∀ m, (fs.set 1 (.int (Int32.ofNat m)))[1]? = some (.int (Int32.ofNat m)) := fun m => List.getElem?_set_self (by omega)
  refine g_n 1 (pc' := 4) (L' := [some (.ref a), some (.int v), some (.int kk)]) (st' := [.int kk]) rfl ?_
  refine g_brF (c := kk < 0) (t := 39) (f := 7) (L' := [some (.ref a), some (.int v), some (.int kk)]) (st' := []) rfl hk ?_
  refine g_n 1 (pc' := 8) (L' := [some (.ref a), some (.int v), some (.int kk)]) (st' := [.ref a]) rfl ?_
  refine g_get (i := 7) (kd := 1) (ci := 12) (k := 0) (tc := 3) rfl rfl (Or.inl (by decide)) (ho m f) (g0 m) ?_
  refine g_n 1 (pc' := 12) (L' := [some (.ref a), some (.int v), some (.int kk)]) (st' := [.ref a, .ref c]) rfl ?_
  refine g_get (i := 664) (kd := 0) (ci := 12) (k := 1) (tc := 0) rfl rfl (Or.inl (by decide)) (ho m f) (g1 m) ?_
  refine g_n 5 (pc' := 22) (L' := [some (.ref a), some (.int v), some (.int kk)]) (st' := [.int _, .int (Int32.ofNat m), .ref c]) rfl ?_
  refine g_is rfl (hA m f) (x_inN hn hm) ?_
  rw [List.set_set]
  refine g_n 2 (pc' := 25) (L' := [some (.ref a), some (.int v), some (.int kk)]) (st' := [.ref a, .ref a]) rfl ?_
  refine g_get (i := 664) (kd := 0) (ci := 12) (k := 1) (tc := 0) rfl rfl (Or.inl (by decide)) (ho m _) (g1 m) ?_
  refine g_n 2 (pc' := 30) (L' := [some (.ref a), some (.int v), some (.int kk)]) (st' := [.int (Int32.ofNat m + Int32.ofInt 1), .ref a]) rfl ?_
  rw [show Int32.ofNat m + Int32.ofInt 1 = Int32.ofNat (m + 1) from x_addN m 1]
  refine g_put (i := 664) (kd := 0) (ci := 12) (k := 1) (tc := 0) rfl rfl (Or.inl rfl) (ho m _) (by rw [List.length_set, hl]; decide) rfl ?_
  rw [x_set_swap hne, List.set_set]
  refine g_n 2 (pc' := 3) (L' := [some (.ref a), some (.int v), some (.int (kk + Int32.ofInt (-8)))]) (st' := []) rfl ?_
  exact k _
theorem x_mlay {fs : List Value} {f0 : Nat → Int32} {v : Int32} {m : Nat} (ha : x_obj S a = some (12, fs)) (hc : x_arr S c = some (0, n, .inl f0)) (h0 : fs[0]? = some (.ref c)) (h1 : fs[1]? = some (.int (Int32.ofNat m))) (hl : fs.length = 311) (hn : n < 2147483648) (hm : m + 4 ≤ n) (k : ∀ f, Q none ((S.set a (.inl (12, fs.set 1 (.int (Int32.ofNat (m + 4)))))).set c (.inr (0, n, .inl f)))) : x_ev (d + 1) 413 [.ref a, .int v] S Q := by
  have hne := x_oa_ne ha hc
  refine g_in (M := x_M413) (L := [some (.ref a), some (.int v), none]) x_pl413 rfl ?_
  refine g_n 2 (pc' := 3) (L' := [some (.ref a), some (.int v), some (.int 24)]) (st' := []) (S' := S) rfl ?_
  have e : S = (S.set a (.inl (12, fs.set 1 (.int (Int32.ofNat m))))).set c (.inr (0, n, .inl f0)) := by
    have e0 : fs.set 1 (.int (Int32.ofNat m)) = fs := by
      apply List.ext_getElem?
      intro i
      by_cases hi : 1 = i
      · subst hi
        rw [List.getElem?_set_self (by omega), h1]
      · rw [List.getElem?_set_ne hi]
    rw [e0, x_set_self (x_obj_inv ha), x_set_self (x_arr_inv hc)]
  have go : x_go d none x_M413 3 [some (.ref a), some (.int v), some (.int 24)] [] ((S.set a (.inl (12, fs.set 1 (.int (Int32.ofNat m))))).set c (.inr (0, n, .inl f0))) Q := by
    refine x_mlay1 ha hc h0 hl hn (by omega) (by decide) (fun f1 => ?_)
    refine x_mlay1 ha hc h0 hl hn (by omega) (by decide) (fun f2 => ?_)
    refine x_mlay1 ha hc h0 hl hn (by omega) (by decide) (fun f3 => ?_)
    refine x_mlay1 ha hc h0 hl hn (by omega) (by decide) (fun f4 => ?_)
    refine g_n 1 (pc' := 4) (L' := [some (.ref a), some (.int v), some (.int (24 + Int32.ofInt (-8) + Int32.ofInt (-8) + Int32.ofInt (-8) + Int32.ofInt (-8)))]) (st' := [.int (24 + Int32.ofInt (-8) + Int32.ofInt (-8) + Int32.ofInt (-8) + Int32.ofInt (-8))]) rfl ?_
    refine g_brT (c := (24 : Int32) + Int32.ofInt (-8) + Int32.ofInt (-8) + Int32.ofInt (-8) + Int32.ofInt (-8) < 0) (t := 39) (f := 7) (L' := [some (.ref a), some (.int v), some (.int (24 + Int32.ofInt (-8) + Int32.ofInt (-8) + Int32.ofInt (-8) + Int32.ofInt (-8)))]) (st' := []) rfl (by decide) ?_
    exact g_ret (ins := .return_) (len := 1) (r := none) rfl rfl rfl (k f4)
  rw [← e] at go
  exact go
end XFE
