/-! feed: numbers laid on both tapes. -/
section XFD
variable {d : Nat} {S : xS} {Q : Option Value → xS → Prop} {t k n o : Nat}
theorem x_addBigT {w : Value} {f0 f : Nat → Int32} {q0 : Nat × List Value} {v : Int64} {m : Nat} (ht : x_obj S t = some q0) (hk : x_arr S k = some (2, n, .inl f0)) (hn : n < 2147483648) (hm : m + 4 ≤ n) (kk : ∀ f, Q none ((S.set t (.inl (0, [.ref k, .int (Int32.ofNat (m + 4)), w]))).set k (.inr (2, n, .inl f)))) : x_ev (d + 1) 9 [.ref t, .long v, .int (Int32.ofNat 4)] ((S.set t (.inl (0, [.ref k, .int (Int32.ofNat m), w]))).set k (.inr (2, n, .inl f))) Q := by
  have hne := x_oa_ne ht hk
  refine x_addBig (a := t) (c := k) (n := n) (m := m) (r := 4) (f0 := f) (w := w) (by rw [x_obj_ne hne]; exact x_obj_at ht) (x_arr_at (q := (2, n, .inl f0)) (by rw [x_arr_ne (fun q => hne q.symm)]; exact hk)) hn hm (fun f1 => ?_)
  rw [x_set_swap hne, List.set_set]
  exact kk f1
theorem x_mlayT {fs : List Value} {f0 f : Nat → Int32} {q0 : Nat × List Value} {v : Int32} {m : Nat} (ho : x_obj S o = some q0) (hk : x_arr S k = some (0, n, .inl f0)) (h0 : fs[0]? = some (.ref k)) (hl : fs.length = 311) (hn : n < 2147483648) (hm : m + 4 ≤ n) (kk : ∀ f, Q none ((S.set o (.inl (12, fs.set 1 (.int (Int32.ofNat (m + 4)))))).set k (.inr (0, n, .inl f)))) : x_ev (d + 1) 413 [.ref o, .int v] ((S.set o (.inl (12, fs.set 1 (.int (Int32.ofNat m))))).set k (.inr (0, n, .inl f))) Q := by
  have hne := x_oa_ne ho hk
  refine x_mlay (a := o) (c := k) (n := n) (m := m) (f0 := f) (fs := fs.set 1 (.int (Int32.ofNat m))) (by rw [x_obj_ne hne]; exact x_obj_at ho) (x_arr_at (q := (0, n, .inl f0)) (by rw [x_arr_ne (fun q => hne q.symm)]; exact hk)) (by rw [List.getElem?_set_ne (by decide)]; exact h0) (List.getElem?_set_self (by omega)) (by rw [List.length_set, hl]) hn hm (fun f1 => ?_)
  rw [x_set_swap hne, List.set_set, List.set_set]
  exact kk f1
theorem x_cfeed {w : Value} {fs : List Value} {f0 : Nat → Int32} {m : Nat} {x1 x2 x3 x4 x5 : Int32} (h0 : x_obj S 0 = some (11, fs)) (hs : fs[0]? = some (.ref t)) (ht : x_obj S t = some (0, [.ref k, .int (Int32.ofNat m), w])) (hk : x_arr S k = some (2, n, .inl f0)) (hn : n < 2147483648) (hm : m + 20 ≤ n) (h4 : m + 20 ≤ 4000) (hz : 0 ≠ t) (kk : ∀ f, Q (some (.int (Int32.ofNat (m + 20)))) ((S.set t (.inl (0, [.ref k, .int (Int32.ofNat (m + 20)), w]))).set k (.inr (2, n, .inl f)))) : x_ev (d + 2) 352 [.ref 0, .int x1, .int x2, .int x3, .int x4, .int x5] S Q := by
  have hne := x_oa_ne ht hk
  have hzk := x_oa_ne h0 hk
  have o0 : ∀ m f, x_obj ((S.set t (.inl (0, [.ref k, .int (Int32.ofNat m), w]))).set k (.inr (2, n, .inl f))) 0 = some (11, fs) := fun m f => by rw [x_obj_ne hzk, x_obj_ne hz]; exact h0
  have oT : ∀ m f, x_obj ((S.set t (.inl (0, [.ref k, .int (Int32.ofNat m), w]))).set k (.inr (2, n, .inl f))) t = some (0, [.ref k, .int (Int32.ofNat m), w]) := fun m f => by rw [x_obj_ne hne]; exact x_obj_at ht
  have e : S = ((S.set t (.inl (0, [.ref k, .int (Int32.ofNat m), w]))).set k (.inr (2, n, .inl f0))) := by rw [x_set_self (x_obj_inv ht), x_set_self (x_arr_inv hk)]
  refine g_in (M := x_M352) (L := [some (.ref 0), some (.int x1), some (.int x2), some (.int x3), some (.int x4), some (.int x5)]) x_pl352 rfl ?_
  refine g_n 1 (pc' := 1) (L' := [some (.ref 0), some (.int x1), some (.int x2), some (.int x3), some (.int x4), some (.int x5)]) (st' := [.ref 0]) rfl ?_
  refine g_get (i := 76) (kd := 1) (ci := 11) (k := 0) (tc := 3) rfl rfl (Or.inl (by decide)) h0 hs ?_
  refine g_get (i := 143) (kd := 0) (ci := 0) (k := 1) (tc := 0) rfl rfl (Or.inl (by decide)) ht rfl ?_
  refine g_n 3 (pc' := 13) (L' := [some (.ref 0), some (.int x1), some (.int x2), some (.int x3), some (.int x4), some (.int x5)]) (st' := [.int (Int32.ofInt 4000), .int (Int32.ofNat m + Int32.ofInt 20)]) rfl ?_
  refine g_brT (c := Int32.ofNat m + Int32.ofInt 20 ≤ Int32.ofInt 4000) (t := 19) (f := 16) (L' := [some (.ref 0), some (.int x1), some (.int x2), some (.int x3), some (.int x4), some (.int x5)]) (st' := []) rfl ?_ ?_
  · rw [show Int32.ofNat m + Int32.ofInt 20 = Int32.ofNat (m + 20) from x_addN m 20]
    exact (x_leN (n := 4000) (by omega) (by decide)).mpr h4
  rw [e]
  refine g_n 1 (pc' := 20) (L' := [some (.ref 0), some (.int x1), some (.int x2), some (.int x3), some (.int x4), some (.int x5)]) (st' := [.ref 0]) rfl ?_
  refine g_get (i := 76) (kd := 1) (ci := 11) (k := 0) (tc := 3) rfl rfl (Or.inl (by decide)) (o0 m _) hs ?_
  refine g_n 3 (pc' := 26) (L' := [some (.ref 0), some (.int x1), some (.int x2), some (.int x3), some (.int x4), some (.int x5)]) (st' := [.int (Int32.ofNat 4), .long x1.toInt64, .ref t]) rfl ?_
  refine g_vcall (i := 146) (kd := 3) (j := 9) (np := 2) (ci := 0) (as := [.ref t, .long x1.toInt64, .int (Int32.ofNat 4)]) (rest := []) rfl rfl (Or.inl rfl) (by simp) rfl rfl (oT m _) rfl rfl ?_
  refine x_addBigT (m := m) ht hk hn (by omega) (fun f1 => ?_)
  refine g_n 1 (pc' := 30) (L' := [some (.ref 0), some (.int x1), some (.int x2), some (.int x3), some (.int x4), some (.int x5)]) (st' := [.ref 0]) rfl ?_
  refine g_get (i := 76) (kd := 1) (ci := 11) (k := 0) (tc := 3) rfl rfl (Or.inl (by decide)) (o0 (m + 4) _) hs ?_
  refine g_n 3 (pc' := 36) (L' := [some (.ref 0), some (.int x1), some (.int x2), some (.int x3), some (.int x4), some (.int x5)]) (st' := [.int (Int32.ofNat 4), .long x2.toInt64, .ref t]) rfl ?_
  refine g_vcall (i := 146) (kd := 3) (j := 9) (np := 2) (ci := 0) (as := [.ref t, .long x2.toInt64, .int (Int32.ofNat 4)]) (rest := []) rfl rfl (Or.inl rfl) (by simp) rfl rfl (oT (m + 4) _) rfl rfl ?_
  refine x_addBigT (m := (m + 4)) ht hk hn (by omega) (fun f2 => ?_)
  refine g_n 1 (pc' := 40) (L' := [some (.ref 0), some (.int x1), some (.int x2), some (.int x3), some (.int x4), some (.int x5)]) (st' := [.ref 0]) rfl ?_
  refine g_get (i := 76) (kd := 1) (ci := 11) (k := 0) (tc := 3) rfl rfl (Or.inl (by decide)) (o0 (m + 8) _) hs ?_
  refine g_n 3 (pc' := 46) (L' := [some (.ref 0), some (.int x1), some (.int x2), some (.int x3), some (.int x4), some (.int x5)]) (st' := [.int (Int32.ofNat 4), .long x3.toInt64, .ref t]) rfl ?_
  refine g_vcall (i := 146) (kd := 3) (j := 9) (np := 2) (ci := 0) (as := [.ref t, .long x3.toInt64, .int (Int32.ofNat 4)]) (rest := []) rfl rfl (Or.inl rfl) (by simp) rfl rfl (oT (m + 8) _) rfl rfl ?_
  refine x_addBigT (m := (m + 8)) ht hk hn (by omega) (fun f3 => ?_)
  refine g_n 1 (pc' := 50) (L' := [some (.ref 0), some (.int x1), some (.int x2), some (.int x3), some (.int x4), some (.int x5)]) (st' := [.ref 0]) rfl ?_
  refine g_get (i := 76) (kd := 1) (ci := 11) (k := 0) (tc := 3) rfl rfl (Or.inl (by decide)) (o0 (m + 12) _) hs ?_
  refine g_n 3 (pc' := 57) (L' := [some (.ref 0), some (.int x1), some (.int x2), some (.int x3), some (.int x4), some (.int x5)]) (st' := [.int (Int32.ofNat 4), .long x4.toInt64, .ref t]) rfl ?_
  refine g_vcall (i := 146) (kd := 3) (j := 9) (np := 2) (ci := 0) (as := [.ref t, .long x4.toInt64, .int (Int32.ofNat 4)]) (rest := []) rfl rfl (Or.inl rfl) (by simp) rfl rfl (oT (m + 12) _) rfl rfl ?_
  refine x_addBigT (m := (m + 12)) ht hk hn (by omega) (fun f4 => ?_)
  refine g_n 1 (pc' := 61) (L' := [some (.ref 0), some (.int x1), some (.int x2), some (.int x3), some (.int x4), some (.int x5)]) (st' := [.ref 0]) rfl ?_
  refine g_get (i := 76) (kd := 1) (ci := 11) (k := 0) (tc := 3) rfl rfl (Or.inl (by decide)) (o0 (m + 16) _) hs ?_
  refine g_n 3 (pc' := 68) (L' := [some (.ref 0), some (.int x1), some (.int x2), some (.int x3), some (.int x4), some (.int x5)]) (st' := [.int (Int32.ofNat 4), .long x5.toInt64, .ref t]) rfl ?_
  refine g_vcall (i := 146) (kd := 3) (j := 9) (np := 2) (ci := 0) (as := [.ref t, .long x5.toInt64, .int (Int32.ofNat 4)]) (rest := []) rfl rfl (Or.inl rfl) (by simp) rfl rfl (oT (m + 16) _) rfl rfl ?_
  refine x_addBigT (m := (m + 16)) ht hk hn (by omega) (fun f5 => ?_)
  refine g_n 1 (pc' := 72) (L' := [some (.ref 0), some (.int x1), some (.int x2), some (.int x3), some (.int x4), some (.int x5)]) (st' := [.ref 0]) rfl ?_
  refine g_get (i := 76) (kd := 1) (ci := 11) (k := 0) (tc := 3) rfl rfl (Or.inl (by decide)) (o0 (m + 20) _) hs ?_
  refine g_get (i := 143) (kd := 0) (ci := 0) (k := 1) (tc := 0) rfl rfl (Or.inl (by decide)) (oT (m + 20) _) rfl ?_
  exact g_ret (ins := .ireturn) (len := 1) (r := some (.int (Int32.ofNat (m + 20)))) rfl rfl rfl (kk _)
theorem x_mfeed {fs : List Value} {f0 : Nat → Int32} {m : Nat} {x1 x2 x3 x4 x5 : Int32} (ho : x_obj S o = some (12, fs)) (hk : x_arr S k = some (0, n, .inl f0)) (h0 : fs[0]? = some (.ref k)) (h1 : fs[1]? = some (.int (Int32.ofNat m))) (hl : fs.length = 311) (hn : n < 2147483648) (hm : m + 20 ≤ n) (h4 : m + 20 ≤ 4000) (kk : ∀ f, Q (some (.int (Int32.ofNat (m + 20)))) ((S.set o (.inl (12, fs.set 1 (.int (Int32.ofNat (m + 20)))))).set k (.inr (0, n, .inl f)))) : x_ev (d + 2) 412 [.ref o, .int x1, .int x2, .int x3, .int x4, .int x5] S Q := by
  have hne := x_oa_ne ho hk
  have oT : ∀ m f, x_obj ((S.set o (.inl (12, fs.set 1 (.int (Int32.ofNat m))))).set k (.inr (0, n, .inl f))) o = some (12, fs.set 1 (.int (Int32.ofNat m))) := fun m f => by rw [x_obj_ne hne]; exact x_obj_at ho
  have g1 : ∀ m, (fs.set 1 (.int (Int32.ofNat m)))[1]? = some (.int (Int32.ofNat m)) := fun m => List.getElem?_set_self (by omega)
  have e : S = ((S.set o (.inl (12, fs.set 1 (.int (Int32.ofNat m))))).set k (.inr (0, n, .inl f0))) := by
    have e0 : fs.set 1 (.int (Int32.ofNat m)) = fs := by
      apply List.ext_getElem?
      intro i
      by_cases hi : 1 = i
      · subst hi
        rw [List.getElem?_set_self (by omega), h1]
      · rw [List.getElem?_set_ne hi]
    rw [e0, x_set_self (x_obj_inv ho), x_set_self (x_arr_inv hk)]
  refine g_in (M := x_M412) (L := [some (.ref o), some (.int x1), some (.int x2), some (.int x3), some (.int x4), some (.int x5)]) x_pl412 rfl ?_
  refine g_n 1 (pc' := 1) (L' := [some (.ref o), some (.int x1), some (.int x2), some (.int x3), some (.int x4), some (.int x5)]) (st' := [.ref o]) rfl ?_
  refine g_get (i := 664) (kd := 0) (ci := 12) (k := 1) (tc := 0) rfl rfl (Or.inl (by decide)) ho h1 ?_
  refine g_n 3 (pc' := 10) (L' := [some (.ref o), some (.int x1), some (.int x2), some (.int x3), some (.int x4), some (.int x5)]) (st' := [.int (Int32.ofInt 4000), .int (Int32.ofNat m + Int32.ofInt 20)]) rfl ?_
  refine g_brT (c := Int32.ofNat m + Int32.ofInt 20 ≤ Int32.ofInt 4000) (t := 16) (f := 13) (L' := [some (.ref o), some (.int x1), some (.int x2), some (.int x3), some (.int x4), some (.int x5)]) (st' := []) rfl ?_ ?_
  · rw [show Int32.ofNat m + Int32.ofInt 20 = Int32.ofNat (m + 20) from x_addN m 20]
    exact (x_leN (n := 4000) (by omega) (by decide)).mpr h4
  rw [e]
  refine g_n 2 (pc' := 18) (L' := [some (.ref o), some (.int x1), some (.int x2), some (.int x3), some (.int x4), some (.int x5)]) (st' := [.int x1, .ref o]) rfl ?_
  refine g_vcall (i := 667) (kd := 3) (j := 413) (np := 1) (ci := 12) (as := [.ref o, .int x1]) (rest := []) rfl rfl (Or.inl rfl) (by simp) rfl rfl (oT m _) rfl rfl ?_
  refine x_mlayT (m := m) ho hk h0 hl hn (by omega) (fun f1 => ?_)
  refine g_n 2 (pc' := 23) (L' := [some (.ref o), some (.int x1), some (.int x2), some (.int x3), some (.int x4), some (.int x5)]) (st' := [.int x2, .ref o]) rfl ?_
  refine g_vcall (i := 667) (kd := 3) (j := 413) (np := 1) (ci := 12) (as := [.ref o, .int x2]) (rest := []) rfl rfl (Or.inl rfl) (by simp) rfl rfl (oT (m + 4) _) rfl rfl ?_
  refine x_mlayT (m := (m + 4)) ho hk h0 hl hn (by omega) (fun f2 => ?_)
  refine g_n 2 (pc' := 28) (L' := [some (.ref o), some (.int x1), some (.int x2), some (.int x3), some (.int x4), some (.int x5)]) (st' := [.int x3, .ref o]) rfl ?_
  refine g_vcall (i := 667) (kd := 3) (j := 413) (np := 1) (ci := 12) (as := [.ref o, .int x3]) (rest := []) rfl rfl (Or.inl rfl) (by simp) rfl rfl (oT (m + 8) _) rfl rfl ?_
  refine x_mlayT (m := (m + 8)) ho hk h0 hl hn (by omega) (fun f3 => ?_)
  refine g_n 2 (pc' := 34) (L' := [some (.ref o), some (.int x1), some (.int x2), some (.int x3), some (.int x4), some (.int x5)]) (st' := [.int x4, .ref o]) rfl ?_
  refine g_vcall (i := 667) (kd := 3) (j := 413) (np := 1) (ci := 12) (as := [.ref o, .int x4]) (rest := []) rfl rfl (Or.inl rfl) (by simp) rfl rfl (oT (m + 12) _) rfl rfl ?_
  refine x_mlayT (m := (m + 12)) ho hk h0 hl hn (by omega) (fun f4 => ?_)
  refine g_n 2 (pc' := 40) (L' := [some (.ref o), some (.int x1), some (.int x2), some (.int x3), some (.int x4), some (.int x5)]) (st' := [.int x5, .ref o]) rfl ?_
  refine g_vcall (i := 667) (kd := 3) (j := 413) (np := 1) (ci := 12) (as := [.ref o, .int x5]) (rest := []) rfl rfl (Or.inl rfl) (by simp) rfl rfl (oT (m + 16) _) rfl rfl ?_
  refine x_mlayT (m := (m + 16)) ho hk h0 hl hn (by omega) (fun f5 => ?_)
  refine g_n 1 (pc' := 44) (L' := [some (.ref o), some (.int x1), some (.int x2), some (.int x3), some (.int x4), some (.int x5)]) (st' := [.ref o]) rfl ?_
  refine g_get (i := 664) (kd := 0) (ci := 12) (k := 1) (tc := 0) rfl rfl (Or.inl (by decide)) (oT (m + 20) _) (g1 (m + 20)) ?_
  exact g_ret (ins := .ireturn) (len := 1) (r := some (.int (Int32.ofNat (m + 20)))) rfl rfl rfl (kk _)
end XFD
set_option maxRecDepth 100000 in
theorem x_op0 {fi : Nat → Nat → Int32} {fl : Nat → Nat → Int64} {fr : Nat → Nat → Option Nat} (_hF : x_F fl fr) (a b c d e : Int32) : x_ev 30 352 [.ref 0, .int a, .int b, .int c, .int d, .int e] (x_W fi fl fr) fun r S1 => (∃ fs, x_obj S1 281 = some (12, fs)) ∧ x_ev 30 412 [.ref 281, .int a, .int b, .int c, .int d, .int e] S1 (x_finI (x_W fi fl fr) r) := by
  refine x_cfeed (d := 28) (t := 179) (k := 180) (n := 4000) (m := 0) (f0 := fi 180) rfl rfl rfl rfl (by decide) (by decide) (by decide) (by decide) (fun f1 => ?_)
  refine ⟨⟨_, (x_obj_ne (by decide)).trans ((x_obj_ne (by decide)).trans rfl)⟩, ?_⟩
  refine x_mfeed (d := 28) (o := 281) (k := 282) (n := 4000) (m := 0) (fs := x_MF) (f0 := fun _ => 0) ((x_obj_ne (by decide)).trans ((x_obj_ne (by decide)).trans rfl)) ((x_arr_ne (by decide)).trans ((x_arr_ne (by decide)).trans rfl)) rfl rfl rfl (by decide) (by decide) (by decide) (fun f2 => ?_)
  exact ⟨_, rfl, rfl, x_sv_set (x_sv_set (x_sv_set (x_sv_set (x_sv_rf _) rfl rfl) rfl rfl) rfl rfl) rfl rfl⟩
