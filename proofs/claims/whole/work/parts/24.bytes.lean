/-! Bytes: at, change, lay over the whole; Table: wipeAll. -/
section XBY
variable {d : Nat} {S : xS} {Q : Option Value → xS → Prop} {a c n : Nat}
theorem x_Bat {i m : Int32} {v : Value} {f : Nat → Int32} (ho : x_obj S a = some (0, [.ref c, .int m, v])) (hc : x_arr S c = some (2, n, .inl f)) (h0 : ¬ i < 0) (h1 : ¬ m ≤ i) (h2 : ¬ Int32.ofNat n ≤ i) (h3 : x_in i n) (k : Q (some (.int (f i.toNatClampNeg &&& 255))) S) : x_ev (d + 1) 1 [.ref a, .int i] S Q := by
  refine g_in (M := x_M1) (L := [some (.ref a), some (.int i)]) x_pl1 rfl ?_
  refine g_n 1 (pc' := 1) (L' := [some (.ref a), some (.int i)]) (st' := [.int i]) rfl ?_
  refine g_brF (c := i < 0) (t := 34) (f := 4) (L' := [some (.ref a), some (.int i)]) (st' := []) rfl h0 ?_
  refine g_n 2 (pc' := 6) (L' := [some (.ref a), some (.int i)]) (st' := [.ref a, .int i]) rfl ?_
  refine g_get (i := 19) (kd := 0) (ci := 0) (k := 1) (tc := 0) rfl rfl (Or.inl (by decide)) ho rfl ?_
  refine g_brF (c := m ≤ i) (t := 34) (f := 12) (L' := [some (.ref a), some (.int i)]) (st' := []) rfl h1 ?_
  refine g_n 2 (pc' := 14) (L' := [some (.ref a), some (.int i)]) (st' := [.ref a, .int i]) rfl ?_
  refine g_get (i := 13) (kd := 1) (ci := 0) (k := 0) (tc := 3) rfl rfl (Or.inl (by decide)) ho rfl ?_
  refine g_len rfl hc (by decide) ?_
  refine g_brF (c := Int32.ofNat n ≤ i) (t := 34) (f := 21) (L' := [some (.ref a), some (.int i)]) (st' := []) rfl h2 ?_
  refine g_n 1 (pc' := 22) (L' := [some (.ref a), some (.int i)]) (st' := [.ref a]) rfl ?_
  refine g_get (i := 13) (kd := 1) (ci := 0) (k := 0) (tc := 3) rfl rfl (Or.inl (by decide)) ho rfl ?_
  refine g_n 1 (pc' := 26) (L' := [some (.ref a), some (.int i)]) (st' := [.int i, .ref c]) rfl ?_
  refine g_ba rfl hc h3 rfl ?_
  refine g_n 3 (pc' := 35) (L' := [some (.ref a), some (.int i)]) (st' := [.int (f i.toNatClampNeg &&& 255)]) rfl ?_
  exact g_ret (ins := .ireturn) (len := 1) (r := some (.int (f i.toNatClampNeg &&& 255))) rfl rfl rfl k
theorem x_Bchange {i b m : Int32} {v : Value} {f : Nat → Int32} (ho : x_obj S a = some (0, [.ref c, .int m, v])) (hc : x_arr S c = some (2, n, .inl f)) (h0 : ¬ i < 0) (h1 : ¬ m ≤ i) (h2 : ¬ Int32.ofNat n ≤ i) (h3 : x_in i n) (k : Q none (S.set c (.inr (2, n, .inl (upd f i.toNatClampNeg (vp_nar .byte b.toInt8.toInt32)))))) : x_ev (d + 1) 4 [.ref a, .int i, .int b] S Q := by
  refine g_in (M := x_M4) (L := [some (.ref a), some (.int i), some (.int b)]) x_pl4 rfl ?_
  refine g_n 1 (pc' := 1) (L' := [some (.ref a), some (.int i), some (.int b)]) (st' := [.int i]) rfl ?_
  refine g_brF (c := i < 0) (t := 29) (f := 4) (L' := [some (.ref a), some (.int i), some (.int b)]) (st' := []) rfl h0 ?_
  refine g_n 2 (pc' := 6) (L' := [some (.ref a), some (.int i), some (.int b)]) (st' := [.ref a, .int i]) rfl ?_
  refine g_get (i := 19) (kd := 0) (ci := 0) (k := 1) (tc := 0) rfl rfl (Or.inl (by decide)) ho rfl ?_
  refine g_brF (c := m ≤ i) (t := 29) (f := 12) (L' := [some (.ref a), some (.int i), some (.int b)]) (st' := []) rfl h1 ?_
  refine g_n 2 (pc' := 14) (L' := [some (.ref a), some (.int i), some (.int b)]) (st' := [.ref a, .int i]) rfl ?_
  refine g_get (i := 13) (kd := 1) (ci := 0) (k := 0) (tc := 3) rfl rfl (Or.inl (by decide)) ho rfl ?_
  refine g_len rfl hc (by decide) ?_
  refine g_brF (c := Int32.ofNat n ≤ i) (t := 29) (f := 21) (L' := [some (.ref a), some (.int i), some (.int b)]) (st' := []) rfl h2 ?_
  refine g_n 1 (pc' := 22) (L' := [some (.ref a), some (.int i), some (.int b)]) (st' := [.ref a]) rfl ?_
  refine g_get (i := 13) (kd := 1) (ci := 0) (k := 0) (tc := 3) rfl rfl (Or.inl (by decide)) ho rfl ?_
  refine g_n 3 (pc' := 28) (L' := [some (.ref a), some (.int i), some (.int b)]) (st' := [.int b.toInt8.toInt32, .int i, .ref c]) rfl ?_
  refine g_bs rfl hc h3 ?_
  exact g_ret (ins := .return_) (len := 1) (r := none) rfl rfl rfl k
/-- a row laid over itself from its first place to its last -/
theorem x_lay_lp {v : Value} {f0 : Nat → Int32} {q0 : Nat × List Value} (ha : x_obj S a = some q0) (hc : x_arr S c = some (2, n, .inl f0)) (hn : n < 2147483648) (k : ∀ f, Q none ((S.set a (.inl (0, [.ref c, .int (Int32.ofNat n), v]))).set c (.inr (2, n, .inl f)))) : ∀ m i, i + m = n → ∀ f, x_go (d + 1) none x_M8 35 [some (.ref a), some (.int 0), some (.ref a), some (.int 0), some (.int (Int32.ofNat n)), some (.int (Int32.ofNat i))] [] ((S.set a (.inl (0, [.ref c, .int (Int32.ofNat n), v]))).set c (.inr (2, n, .inl f))) Q := by
  have hne := x_oa_ne ha hc
  have ho : ∀ f, x_obj ((S.set a (.inl (0, [.ref c, .int (Int32.ofNat n), v]))).set c (.inr (2, n, .inl f))) a = some (0, [.ref c, .int (Int32.ofNat n), v]) := fun f => by rw [x_obj_ne hne]; exact x_obj_at ha
  have hA : ∀ f, x_arr ((S.set a (.inl (0, [.ref c, .int (Int32.ofNat n), v]))).set c (.inr (2, n, .inl f))) c = some (2, n, .inl f) := fun f => x_arr_at (q := (2, n, .inl f0)) (by rw [x_arr_ne (fun q => hne q.symm)]; exact hc)
  intro m
  induction m with
  | zero =>
    intro i hi f
    obtain rfl : i = n := by omega
    refine g_n 2 (pc' := 39) (L' := [some (.ref a), some (.int 0), some (.ref a), some (.int 0), some (.int (Int32.ofNat i)), some (.int (Int32.ofNat i))]) (st' := [.int (Int32.ofNat i), .int (Int32.ofNat i)]) rfl ?_
    refine g_brT (c := Int32.ofNat i ≤ Int32.ofNat i) (t := 64) (f := 42) (L' := [some (.ref a), some (.int 0), some (.ref a), some (.int 0), some (.int (Int32.ofNat i)), some (.int (Int32.ofNat i))]) (st' := []) rfl ((x_leN hn hn).mpr (Nat.le_refl _)) ?_
    exact g_ret (ins := .return_) (len := 1) (r := none) rfl rfl rfl (k f)
  | succ m ih =>
    intro i hi f
    have hin : i < n := by omega
    have hz : ¬ Int32.ofNat i < 0 := fun q => by
      have := Int32.lt_iff_toInt_lt.mp q
      rw [x_i32 (by omega)] at this
      have h0 : (0 : Int32).toInt = 0 := by decide
      omega
    have hg : ¬ Int32.ofNat n ≤ Int32.ofNat i := fun q => by have := (x_leN hn (by omega)).mp q; omega
    have e0 : (0 : Int32) + Int32.ofNat i = Int32.ofNat i := Int32.zero_add _
    refine g_n 2 (pc' := 39) (L' := [some (.ref a), some (.int 0), some (.ref a), some (.int 0), some (.int (Int32.ofNat n)), some (.int (Int32.ofNat i))]) (st' := [.int (Int32.ofNat n), .int (Int32.ofNat i)]) rfl ?_
    refine g_brF (c := Int32.ofNat n ≤ Int32.ofNat i) (t := 64) (f := 42) (L' := [some (.ref a), some (.int 0), some (.ref a), some (.int 0), some (.int (Int32.ofNat n)), some (.int (Int32.ofNat i))]) (st' := []) rfl hg ?_
    refine g_n 8 (pc' := 52) (L' := [some (.ref a), some (.int 0), some (.ref a), some (.int 0), some (.int (Int32.ofNat n)), some (.int (Int32.ofNat i))]) (st' := [.int ((0 : Int32) + Int32.ofNat i), .ref a, .int ((0 : Int32) + Int32.ofNat i), .ref a]) rfl ?_
    rw [e0]
    refine g_vcall (i := 33) (kd := 3) (j := 1) (np := 1) (ci := 0) (rest := [.int (Int32.ofNat i), .ref a]) rfl rfl (Or.inl rfl) (by simp) rfl rfl (ho f) rfl rfl ?_
    refine x_Bat (ho f) (hA f) hz hg hg (x_inN hn hin) ?_
    refine g_vcall (i := 37) (kd := 3) (j := 4) (np := 2) (ci := 0) (rest := []) rfl rfl (Or.inl rfl) (by simp) rfl rfl (ho f) rfl rfl ?_
    refine x_Bchange (ho f) (hA f) hz hg hg (x_inN hn hin) ?_
    rw [List.set_set]
    refine g_n 2 (pc' := 35) (L' := [some (.ref a), some (.int 0), some (.ref a), some (.int 0), some (.int (Int32.ofNat n)), some (.int (Int32.ofNat i + Int32.ofInt 1))]) (st' := []) rfl ?_
    rw [show Int32.ofNat i + Int32.ofInt 1 = Int32.ofNat (i + 1) from x_addN i 1]
    exact ih (i + 1) (by omega) _
theorem x_lay {v : Value} {f : Nat → Int32} (ha : x_obj S a = some (0, [.ref c, .int 0, v])) (hc : x_arr S c = some (2, n, .inl f)) (hn : n < 2147483648) (k : ∀ f, Q none ((S.set a (.inl (0, [.ref c, .int (Int32.ofNat n), v]))).set c (.inr (2, n, .inl f)))) : x_ev (d + 2) 8 [.ref a, .int 0, .ref a, .int 0, .int (Int32.ofNat n)] S Q := by
  have hne := x_oa_ne ha hc
  have h0 : (0 : Int32).toInt = 0 := by decide
  refine g_in (M := x_M8) (L := [some (.ref a), some (.int 0), some (.ref a), some (.int 0), some (.int (Int32.ofNat n)), none]) x_pl8 rfl ?_
  refine g_n 4 (pc' := 6) (L' := [some (.ref a), some (.int 0), some (.ref a), some (.int 0), some (.int (Int32.ofNat n)), none]) (st' := [.ref a, .int 0]) rfl ?_
  refine g_get (i := 13) (kd := 1) (ci := 0) (k := 0) (tc := 3) rfl rfl (Or.inl (by decide)) ha rfl ?_
  refine g_len rfl hc (by decide) ?_
  refine g_n 2 (pc' := 13) (L' := [some (.ref a), some (.int 0), some (.ref a), some (.int 0), some (.int (Int32.ofNat n)), none]) (st' := [.int (Int32.ofNat n - Int32.ofNat n), .int 0]) rfl ?_
  rw [Int32.sub_self]
  refine g_n 3 (pc' := 19) (L' := [some (.ref a), some (.int 0), some (.ref a), some (.int 0), some (.int (Int32.ofNat n)), none]) (st' := [.ref a, .ref a]) rfl ?_
  refine g_get (i := 19) (kd := 0) (ci := 0) (k := 1) (tc := 0) rfl rfl (Or.inl (by decide)) ha rfl ?_
  refine g_n 3 (pc' := 26) (L' := [some (.ref a), some (.int 0), some (.ref a), some (.int 0), some (.int (Int32.ofNat n)), none]) (st' := [.int ((0 : Int32) + Int32.ofNat n), .int 0, .ref a]) rfl ?_
  rw [Int32.zero_add]
  have hmax : (if (0 : Int32) < Int32.ofNat n then Int32.ofNat n else 0) = Int32.ofNat n := by
    by_cases h : (0 : Int32) < Int32.ofNat n
    · rw [if_pos h]
    · rw [if_neg h]
      have := Int32.le_iff_toInt_le.mp (x_nlt h)
      rw [x_i32 hn] at this
      exact Int32.toInt_inj.mp (by rw [x_i32 hn]; omega)
  refine g_prim (ins := .invokestatic 7) (len := 3) (pc' := 29) (L' := [some (.ref a), some (.int 0), some (.ref a), some (.int 0), some (.int (Int32.ofNat n)), none]) (st' := [.int (if (0 : Int32) < Int32.ofNat n then Int32.ofNat n else 0), .ref a]) rfl rfl rfl rfl (fun _ => rfl) ?_
  rw [hmax]
  refine g_put (i := 19) (kd := 0) (ci := 0) (k := 1) (tc := 0) rfl rfl (Or.inl rfl) ha (by simp) rfl ?_
  refine g_n 2 (pc' := 35) (L' := [some (.ref a), some (.int 0), some (.ref a), some (.int 0), some (.int (Int32.ofNat n)), some (.int (Int32.ofNat 0))]) (st' := []) rfl ?_
  have hA : x_arr (S.set a (.inl (0, [.ref c, .int (Int32.ofNat n), v]))) c = some (2, n, .inl f) := by rw [x_arr_ne (fun q => hne q.symm)]; exact hc
  have e : S.set a (.inl (0, [.ref c, .int (Int32.ofNat n), v])) = (S.set a (.inl (0, [.ref c, .int (Int32.ofNat n), v]))).set c (.inr (2, n, .inl f)) := (x_set_self (x_arr_inv hA)).symm
  show x_go (d + 1) none x_M8 35 _ [] (S.set a (.inl (0, [.ref c, .int (Int32.ofNat n), v]))) Q
  rw [e]
  exact x_lay_lp (q0 := (0, [.ref c, .int 0, v])) ha hc hn k n 0 (by omega) f
/-- a table wiped -/
theorem x_wipe_lp {fs : List Value} {f0 : Nat → Int64} (ha : x_obj S a = some (8, .ref c :: fs)) (hc : x_arr S c = some (1, n, .inr (.inl f0))) (hn : n < 2147483648) (k : ∀ f, Q none (S.set c (.inr (1, n, .inr (.inl f))))) : ∀ m i, i + m = n → ∀ f, x_go d none x_M266 2 [some (.ref a), some (.int (Int32.ofNat i))] [] (S.set c (.inr (1, n, .inr (.inl f)))) Q := by
  have hne := x_oa_ne ha hc
  have ho : ∀ f, x_obj (S.set c (.inr (1, n, .inr (.inl f)))) a = some (8, .ref c :: fs) := fun f => by rw [x_obj_ne hne]; exact ha
  have hA : ∀ f, x_arr (S.set c (.inr (1, n, .inr (.inl f)))) c = some (1, n, .inr (.inl f)) := fun f => x_arr_at hc
  intro m
  induction m with
  | zero =>
    intro i hi f
    obtain rfl : i = n := by omega
    refine g_n 2 (pc' := 4) (L' := [some (.ref a), some (.int (Int32.ofNat i))]) (st' := [.ref a, .int (Int32.ofNat i)]) rfl ?_
    refine g_get (i := 25) (kd := 1) (ci := 8) (k := 0) (tc := 3) rfl rfl (Or.inl (by decide)) (ho f) rfl ?_
    refine g_len rfl (hA f) (by decide) ?_
    refine g_brT (c := Int32.ofNat i ≤ Int32.ofNat i) (t := 24) (f := 11) (L' := [some (.ref a), some (.int (Int32.ofNat i))]) (st' := []) rfl ((x_leN hn hn).mpr (Nat.le_refl _)) ?_
    exact g_ret (ins := .return_) (len := 1) (r := none) rfl rfl rfl (k f)
  | succ m ih =>
    intro i hi f
    have hin : i < n := by omega
    have hg : ¬ Int32.ofNat n ≤ Int32.ofNat i := fun q => by have := (x_leN hn (by omega)).mp q; omega
    refine g_n 2 (pc' := 4) (L' := [some (.ref a), some (.int (Int32.ofNat i))]) (st' := [.ref a, .int (Int32.ofNat i)]) rfl ?_
    refine g_get (i := 25) (kd := 1) (ci := 8) (k := 0) (tc := 3) rfl rfl (Or.inl (by decide)) (ho f) rfl ?_
    refine g_len rfl (hA f) (by decide) ?_
    refine g_brF (c := Int32.ofNat n ≤ Int32.ofNat i) (t := 24) (f := 11) (L' := [some (.ref a), some (.int (Int32.ofNat i))]) (st' := []) rfl hg ?_
    refine g_n 1 (pc' := 12) (L' := [some (.ref a), some (.int (Int32.ofNat i))]) (st' := [.ref a]) rfl ?_
    refine g_get (i := 25) (kd := 1) (ci := 8) (k := 0) (tc := 3) rfl rfl (Or.inl (by decide)) (ho f) rfl ?_
    refine g_n 2 (pc' := 17) (L' := [some (.ref a), some (.int (Int32.ofNat i))]) (st' := [.long 0, .int (Int32.ofNat i), .ref c]) rfl ?_
    refine g_ls rfl (hA f) (x_inN hn hin) ?_
    rw [List.set_set]
    refine g_n 2 (pc' := 2) (L' := [some (.ref a), some (.int (Int32.ofNat i + Int32.ofInt 1))]) (st' := []) rfl ?_
    rw [show Int32.ofNat i + Int32.ofInt 1 = Int32.ofNat (i + 1) from x_addN i 1]
    exact ih (i + 1) (by omega) _
theorem x_wipe {fs : List Value} {f0 : Nat → Int64} (ha : x_obj S a = some (8, .ref c :: fs)) (hc : x_arr S c = some (1, n, .inr (.inl f0))) (hn : n < 2147483648) (k : ∀ f, Q none (S.set c (.inr (1, n, .inr (.inl f))))) : x_ev (d + 1) 266 [.ref a] S Q := by
  refine g_in (M := x_M266) (L := [some (.ref a), none]) x_pl266 rfl ?_
  refine g_n 2 (pc' := 2) (L' := [some (.ref a), some (.int (Int32.ofNat 0))]) (st' := []) rfl ?_
  have e : S = S.set c (.inr (1, n, .inr (.inl f0))) := (x_set_self (x_arr_inv hc)).symm
  rw [e]
  have := x_wipe_lp (d := d) (Q := Q) ha hc hn k n 0 (by omega) f0
  exact this
end XBY
