/-! The law over one call on fresh objects. -/
theorem x_and63 (x : Int32) : 0 ≤ (x &&& 63).toInt ∧ (x &&& 63).toInt ≤ 63 := by
  have h : (x &&& 63).toBitVec.toNat ≤ 63 := by
    show (x.toBitVec &&& (63 : Int32).toBitVec).toNat ≤ 63
    rw [BitVec.toNat_and]
    exact Nat.le_trans Nat.and_le_right (by decide)
  have e : (x &&& 63).toInt = ((x &&& 63).toBitVec.toNat : Int) := by
    show (x &&& 63).toBitVec.toInt = _
    rw [BitVec.toInt_eq_toNat_of_lt (by omega)]
  omega
theorem x_cmp_self (x : Int64) : lg_cmp x x = 0 := by
  unfold lg_cmp
  rw [if_neg (by intro h; have := Int64.lt_iff_toInt_lt.mp h; omega), if_pos rfl]
/-- behind the call the law ends -/
theorem x_lawend {d : Nat} {xs : Nat → Int32} {S : xS} {Q : Option Value → xS → Prop} (k : Q (some (.int 1)) S) : x_go d (some (6, xs)) x_ML 1847 [some (.retAddr 0), some (.ref 0), some (.ref 281), some (.int 0)] [] S Q := by
  refine g_n 9 (pc' := 1854) (L' := [some (.retAddr 0), some (.ref 0), some (.ref 281), some (.int 6)]) (st' := [.int 1]) rfl ?_
  exact g_ret (ins := .ireturn) (len := 1) (r := some (.int 1)) rfl rfl rfl k
set_option maxRecDepth 100000 in
theorem x_law0 {xs : Nat → Int32} {fi : Nat → Nat → Int32} {fl : Nat → Nat → Int64} {fr : Nat → Nat → Option Nat} (hF : x_F fl fr) : x_go 30 (some (6, xs)) x_ML 240 [some (.retAddr 0), some (.ref 0), some (.ref 281), some (.int 0)] [] (x_W fi fl fr) fun r S => r = some (.int 1) ∧ x_sv (x_W fi fl fr) S := by
  refine g_n 26 (pc' := 266) (L' := [some (.retAddr 0), some (.ref 0), some (.ref 281), some (.int 0)]) (st' := [.int (xs 5), .int (xs 4), .int (xs 3), .int (xs 2), .int (xs 1), .ref 0]) rfl ?_
  refine g_call (ins := .invokevirtual 13) (len := 3) (j := 352) (as := [.ref 0, .int (xs 1), .int (xs 2), .int (xs 3), .int (xs 4), .int (xs 5)]) (rest := []) rfl rfl rfl rfl (fun _ => rfl) rfl ?_
  refine (x_op0 hF (xs 1) (xs 2) (xs 3) (xs 4) (xs 5)).mono (fun r S1 h => ?_)
  obtain ⟨⟨fs, ho⟩, m0, r2, S2, hm, v, rfl, rfl, hs⟩ := h
  refine g_n 26 (pc' := 295) (L' := [some (.retAddr 0), some (.ref 0), some (.ref 281), some (.int 0)]) (st' := [.int (xs 5), .int (xs 4), .int (xs 3), .int (xs 2), .int (xs 1), .ref 281, .int v]) rfl ?_
  refine g_vcall (i := 17) (kd := 3) (j := 412) (np := 5) (ci := 12) (rest := [.int v]) rfl rfl (Or.inl rfl) (by simp) rfl rfl ho rfl rfl ?_
  refine ⟨m0, some (.int v), S2, hm, ?_⟩
  refine g_brT (c := v = v) (t := 1847) (f := 301) (L' := [some (.retAddr 0), some (.ref 0), some (.ref 281), some (.int 0)]) (st' := []) rfl rfl ?_
  exact x_lawend ⟨rfl, hs⟩
set_option maxRecDepth 100000 in
theorem x_law1 {xs : Nat → Int32} {fi : Nat → Nat → Int32} {fl : Nat → Nat → Int64} {fr : Nat → Nat → Option Nat} (hF : x_F fl fr) : x_go 30 (some (6, xs)) x_ML 303 [some (.retAddr 0), some (.ref 0), some (.ref 281), some (.int 0)] [] (x_W fi fl fr) fun r S => r = some (.int 1) ∧ x_sv (x_W fi fl fr) S := by
  refine g_n 6 (pc' := 309) (L' := [some (.retAddr 0), some (.ref 0), some (.ref 281), some (.int 0)]) (st' := [.int (xs 1), .ref 0]) rfl ?_
  refine g_call (ins := .invokevirtual 18) (len := 3) (j := 353) (as := [.ref 0, .int (xs 1)]) (rest := []) rfl rfl rfl rfl (fun _ => rfl) rfl ?_
  refine (x_op1 hF (xs 1)).mono (fun r S1 h => ?_)
  obtain ⟨⟨fs, ho⟩, m0, r2, S2, hm, v, rfl, rfl, hs⟩ := h
  refine g_n 6 (pc' := 318) (L' := [some (.retAddr 0), some (.ref 0), some (.ref 281), some (.int 0)]) (st' := [.int (xs 1), .ref 281, .int v]) rfl ?_
  refine g_vcall (i := 22) (kd := 3) (j := 414) (np := 1) (ci := 12) (rest := [.int v]) rfl rfl (Or.inl rfl) (by simp) rfl rfl ho rfl rfl ?_
  refine ⟨m0, some (.int v), S2, hm, ?_⟩
  refine g_brT (c := v = v) (t := 1847) (f := 324) (L' := [some (.retAddr 0), some (.ref 0), some (.ref 281), some (.int 0)]) (st' := []) rfl rfl ?_
  exact x_lawend ⟨rfl, hs⟩
set_option maxRecDepth 100000 in
theorem x_law2 {xs : Nat → Int32} {fi : Nat → Nat → Int32} {fl : Nat → Nat → Int64} {fr : Nat → Nat → Option Nat} (hF : x_F fl fr) : x_go 30 (some (6, xs)) x_ML 326 [some (.retAddr 0), some (.ref 0), some (.ref 281), some (.int 0)] [] (x_W fi fl fr) fun r S => r = some (.int 1) ∧ x_sv (x_W fi fl fr) S := by
  refine g_n 6 (pc' := 332) (L' := [some (.retAddr 0), some (.ref 0), some (.ref 281), some (.int 0)]) (st' := [.int (xs 1), .ref 0]) rfl ?_
  refine g_call (ins := .invokevirtual 23) (len := 3) (j := 354) (as := [.ref 0, .int (xs 1)]) (rest := []) rfl rfl rfl rfl (fun _ => rfl) rfl ?_
  refine (x_op2 hF (xs 1)).mono (fun r S1 h => ?_)
  obtain ⟨⟨fs, ho⟩, m0, r2, S2, hm, v, rfl, rfl, hs⟩ := h
  refine g_n 6 (pc' := 341) (L' := [some (.retAddr 0), some (.ref 0), some (.ref 281), some (.int 0)]) (st' := [.int (xs 1), .ref 281, .int v]) rfl ?_
  refine g_vcall (i := 26) (kd := 3) (j := 415) (np := 1) (ci := 12) (rest := [.int v]) rfl rfl (Or.inl rfl) (by simp) rfl rfl ho rfl rfl ?_
  refine ⟨m0, some (.int v), S2, hm, ?_⟩
  refine g_brT (c := v = v) (t := 1847) (f := 347) (L' := [some (.retAddr 0), some (.ref 0), some (.ref 281), some (.int 0)]) (st' := []) rfl rfl ?_
  exact x_lawend ⟨rfl, hs⟩
set_option maxRecDepth 100000 in
theorem x_law3 {xs : Nat → Int32} {fi : Nat → Nat → Int32} {fl : Nat → Nat → Int64} {fr : Nat → Nat → Option Nat} (hF : x_F fl fr) : x_go 30 (some (6, xs)) x_ML 349 [some (.retAddr 0), some (.ref 0), some (.ref 281), some (.int 0)] [] (x_W fi fl fr) fun r S => r = some (.int 1) ∧ x_sv (x_W fi fl fr) S := by
  refine g_n 6 (pc' := 355) (L' := [some (.retAddr 0), some (.ref 0), some (.ref 281), some (.int 0)]) (st' := [.int (xs 1), .ref 0]) rfl ?_
  refine g_call (ins := .invokevirtual 27) (len := 3) (j := 355) (as := [.ref 0, .int (xs 1)]) (rest := []) rfl rfl rfl rfl (fun _ => rfl) rfl ?_
  refine (x_op3 hF (xs 1)).mono (fun r S1 h => ?_)
  obtain ⟨⟨fs, ho⟩, m0, r2, S2, hm, v, rfl, rfl, hs⟩ := h
  refine g_n 6 (pc' := 364) (L' := [some (.retAddr 0), some (.ref 0), some (.ref 281), some (.int 0)]) (st' := [.int (xs 1), .ref 281, .int v]) rfl ?_
  refine g_vcall (i := 30) (kd := 3) (j := 416) (np := 1) (ci := 12) (rest := [.int v]) rfl rfl (Or.inl rfl) (by simp) rfl rfl ho rfl rfl ?_
  refine ⟨m0, some (.int v), S2, hm, ?_⟩
  refine g_brT (c := v = v) (t := 1847) (f := 370) (L' := [some (.retAddr 0), some (.ref 0), some (.ref 281), some (.int 0)]) (st' := []) rfl rfl ?_
  exact x_lawend ⟨rfl, hs⟩
set_option maxRecDepth 100000 in
theorem x_law4 {xs : Nat → Int32} {fi : Nat → Nat → Int32} {fl : Nat → Nat → Int64} {fr : Nat → Nat → Option Nat} (hF : x_F fl fr) : x_go 30 (some (6, xs)) x_ML 372 [some (.retAddr 0), some (.ref 0), some (.ref 281), some (.int 0)] [] (x_W fi fl fr) fun r S => r = some (.int 1) ∧ x_sv (x_W fi fl fr) S := by
  refine g_n 6 (pc' := 378) (L' := [some (.retAddr 0), some (.ref 0), some (.ref 281), some (.int 0)]) (st' := [.int (xs 1), .ref 0]) rfl ?_
  refine g_call (ins := .invokevirtual 31) (len := 3) (j := 356) (as := [.ref 0, .int (xs 1)]) (rest := []) rfl rfl rfl rfl (fun _ => rfl) rfl ?_
  refine (x_op4 hF (xs 1)).mono (fun r S1 h => ?_)
  obtain ⟨⟨fs, ho⟩, m0, r2, S2, hm, v, rfl, rfl, hs⟩ := h
  refine g_n 6 (pc' := 387) (L' := [some (.retAddr 0), some (.ref 0), some (.ref 281), some (.int 0)]) (st' := [.int (xs 1), .ref 281, .int v]) rfl ?_
  refine g_vcall (i := 34) (kd := 3) (j := 417) (np := 1) (ci := 12) (rest := [.int v]) rfl rfl (Or.inl rfl) (by simp) rfl rfl ho rfl rfl ?_
  refine ⟨m0, some (.int v), S2, hm, ?_⟩
  refine g_brT (c := v = v) (t := 1847) (f := 393) (L' := [some (.retAddr 0), some (.ref 0), some (.ref 281), some (.int 0)]) (st' := []) rfl rfl ?_
  exact x_lawend ⟨rfl, hs⟩
set_option maxRecDepth 100000 in
theorem x_law5 {xs : Nat → Int32} {fi : Nat → Nat → Int32} {fl : Nat → Nat → Int64} {fr : Nat → Nat → Option Nat} (hF : x_F fl fr) : x_go 30 (some (6, xs)) x_ML 395 [some (.retAddr 0), some (.ref 0), some (.ref 281), some (.int 0)] [] (x_W fi fl fr) fun r S => r = some (.int 1) ∧ x_sv (x_W fi fl fr) S := by
  refine g_n 11 (pc' := 406) (L' := [some (.retAddr 0), some (.ref 0), some (.ref 281), some (.int 0)]) (st' := [.int (xs 2), .int (xs 1), .ref 0]) rfl ?_
  refine g_call (ins := .invokevirtual 35) (len := 3) (j := 357) (as := [.ref 0, .int (xs 1), .int (xs 2)]) (rest := []) rfl rfl rfl rfl (fun _ => rfl) rfl ?_
  refine (x_op5 hF (xs 1) (xs 2)).mono (fun r S1 h => ?_)
  obtain ⟨⟨fs, ho⟩, m0, r2, S2, hm, v, rfl, rfl, hs⟩ := h
  refine g_n 11 (pc' := 420) (L' := [some (.retAddr 0), some (.ref 0), some (.ref 281), some (.int 0)]) (st' := [.int (xs 2), .int (xs 1), .ref 281, .int v]) rfl ?_
  refine g_vcall (i := 39) (kd := 3) (j := 418) (np := 2) (ci := 12) (rest := [.int v]) rfl rfl (Or.inl rfl) (by simp) rfl rfl ho rfl rfl ?_
  refine ⟨m0, some (.int v), S2, hm, ?_⟩
  refine g_brT (c := v = v) (t := 1847) (f := 426) (L' := [some (.retAddr 0), some (.ref 0), some (.ref 281), some (.int 0)]) (st' := []) rfl rfl ?_
  exact x_lawend ⟨rfl, hs⟩
set_option maxRecDepth 100000 in
theorem x_law6 {xs : Nat → Int32} {fi : Nat → Nat → Int32} {fl : Nat → Nat → Int64} {fr : Nat → Nat → Option Nat} (hF : x_F fl fr) : x_go 30 (some (6, xs)) x_ML 428 [some (.retAddr 0), some (.ref 0), some (.ref 281), some (.int 0)] [] (x_W fi fl fr) fun r S => r = some (.int 1) ∧ x_sv (x_W fi fl fr) S := by
  refine g_n 16 (pc' := 444) (L' := [some (.retAddr 0), some (.ref 0), some (.ref 281), some (.int 0)]) (st' := [.int (xs 3), .int (xs 2), .int (xs 1), .ref 0]) rfl ?_
  refine g_call (ins := .invokevirtual 40) (len := 3) (j := 358) (as := [.ref 0, .int (xs 1), .int (xs 2), .int (xs 3)]) (rest := []) rfl rfl rfl rfl (fun _ => rfl) rfl ?_
  refine (x_op6 hF (xs 1) (xs 2) (xs 3)).mono (fun r S1 h => ?_)
  obtain ⟨⟨fs, ho⟩, m0, r2, S2, hm, v, rfl, rfl, hs⟩ := h
  refine g_n 16 (pc' := 463) (L' := [some (.retAddr 0), some (.ref 0), some (.ref 281), some (.int 0)]) (st' := [.int (xs 3), .int (xs 2), .int (xs 1), .ref 281, .int v]) rfl ?_
  refine g_vcall (i := 44) (kd := 3) (j := 419) (np := 3) (ci := 12) (rest := [.int v]) rfl rfl (Or.inl rfl) (by simp) rfl rfl ho rfl rfl ?_
  refine ⟨m0, some (.int v), S2, hm, ?_⟩
  refine g_brT (c := v = v) (t := 1847) (f := 469) (L' := [some (.retAddr 0), some (.ref 0), some (.ref 281), some (.int 0)]) (st' := []) rfl rfl ?_
  exact x_lawend ⟨rfl, hs⟩
set_option maxRecDepth 100000 in
theorem x_law7 {xs : Nat → Int32} {fi : Nat → Nat → Int32} {fl : Nat → Nat → Int64} {fr : Nat → Nat → Option Nat} (hF : x_F fl fr) : x_go 30 (some (6, xs)) x_ML 471 [some (.retAddr 0), some (.ref 0), some (.ref 281), some (.int 0)] [] (x_W fi fl fr) fun r S => r = some (.int 1) ∧ x_sv (x_W fi fl fr) S := by
  refine g_n 11 (pc' := 482) (L' := [some (.retAddr 0), some (.ref 0), some (.ref 281), some (.int 0)]) (st' := [.int (xs 2), .int (xs 1), .ref 0]) rfl ?_
  refine g_call (ins := .invokevirtual 45) (len := 3) (j := 359) (as := [.ref 0, .int (xs 1), .int (xs 2)]) (rest := []) rfl rfl rfl rfl (fun _ => rfl) rfl ?_
  refine (x_op7 hF (xs 1) (xs 2)).mono (fun r S1 h => ?_)
  obtain ⟨⟨fs, ho⟩, m0, r2, S2, hm, v, rfl, rfl, hs⟩ := h
  refine g_n 11 (pc' := 496) (L' := [some (.retAddr 0), some (.ref 0), some (.ref 281), some (.int 0)]) (st' := [.int (xs 2), .int (xs 1), .ref 281, .int v]) rfl ?_
  refine g_vcall (i := 48) (kd := 3) (j := 420) (np := 2) (ci := 12) (rest := [.int v]) rfl rfl (Or.inl rfl) (by simp) rfl rfl ho rfl rfl ?_
  refine ⟨m0, some (.int v), S2, hm, ?_⟩
  refine g_brT (c := v = v) (t := 1847) (f := 502) (L' := [some (.retAddr 0), some (.ref 0), some (.ref 281), some (.int 0)]) (st' := []) rfl rfl ?_
  exact x_lawend ⟨rfl, hs⟩
set_option maxRecDepth 100000 in
theorem x_law8 {xs : Nat → Int32} {fi : Nat → Nat → Int32} {fl : Nat → Nat → Int64} {fr : Nat → Nat → Option Nat} (hF : x_F fl fr) : x_go 30 (some (6, xs)) x_ML 504 [some (.retAddr 0), some (.ref 0), some (.ref 281), some (.int 0)] [] (x_W fi fl fr) fun r S => r = some (.int 1) ∧ x_sv (x_W fi fl fr) S := by
  refine g_n 6 (pc' := 510) (L' := [some (.retAddr 0), some (.ref 0), some (.ref 281), some (.int 0)]) (st' := [.int (xs 1), .ref 0]) rfl ?_
  refine g_call (ins := .invokevirtual 49) (len := 3) (j := 360) (as := [.ref 0, .int (xs 1)]) (rest := []) rfl rfl rfl rfl (fun _ => rfl) rfl ?_
  refine (x_op8 hF (xs 1)).mono (fun r S1 h => ?_)
  obtain ⟨⟨fs, ho⟩, m0, r2, S2, hm, v, rfl, rfl, hs⟩ := h
  refine g_n 6 (pc' := 519) (L' := [some (.retAddr 0), some (.ref 0), some (.ref 281), some (.int 0)]) (st' := [.int (xs 1), .ref 281, .int v]) rfl ?_
  refine g_vcall (i := 52) (kd := 3) (j := 489) (np := 1) (ci := 12) (rest := [.int v]) rfl rfl (Or.inl rfl) (by simp) rfl rfl ho rfl rfl ?_
  refine ⟨m0, some (.int v), S2, hm, ?_⟩
  refine g_brT (c := v = v) (t := 1847) (f := 525) (L' := [some (.retAddr 0), some (.ref 0), some (.ref 281), some (.int 0)]) (st' := []) rfl rfl ?_
  exact x_lawend ⟨rfl, hs⟩
set_option maxRecDepth 100000 in
theorem x_law9 {xs : Nat → Int32} {fi : Nat → Nat → Int32} {fl : Nat → Nat → Int64} {fr : Nat → Nat → Option Nat} (hF : x_F fl fr) : x_go 30 (some (6, xs)) x_ML 527 [some (.retAddr 0), some (.ref 0), some (.ref 281), some (.int 0)] [] (x_W fi fl fr) fun r S => r = some (.int 1) ∧ x_sv (x_W fi fl fr) S := by
  refine g_n 1 (pc' := 528) (L' := [some (.retAddr 0), some (.ref 0), some (.ref 281), some (.int 0)]) (st' := [.ref 0]) rfl ?_
  refine g_call (ins := .invokevirtual 53) (len := 3) (j := 361) (as := [.ref 0]) (rest := []) rfl rfl rfl rfl (fun _ => rfl) rfl ?_
  refine (x_op9 hF).mono (fun r S1 h => ?_)
  obtain ⟨⟨fs, ho⟩, m0, r2, S2, hm, v, rfl, rfl, hs⟩ := h
  refine g_n 1 (pc' := 532) (L' := [some (.retAddr 0), some (.ref 0), some (.ref 281), some (.int 0)]) (st' := [.ref 281, .int v]) rfl ?_
  refine g_vcall (i := 57) (kd := 3) (j := 421) (np := 0) (ci := 12) (rest := [.int v]) rfl rfl (Or.inl rfl) (by simp) rfl rfl ho rfl rfl ?_
  refine ⟨m0, some (.int v), S2, hm, ?_⟩
  refine g_brT (c := v = v) (t := 1847) (f := 538) (L' := [some (.retAddr 0), some (.ref 0), some (.ref 281), some (.int 0)]) (st' := []) rfl rfl ?_
  exact x_lawend ⟨rfl, hs⟩
set_option maxRecDepth 100000 in
theorem x_law10 {xs : Nat → Int32} {fi : Nat → Nat → Int32} {fl : Nat → Nat → Int64} {fr : Nat → Nat → Option Nat} (hF : x_F fl fr) : x_go 30 (some (6, xs)) x_ML 540 [some (.retAddr 0), some (.ref 0), some (.ref 281), some (.int 0)] [] (x_W fi fl fr) fun r S => r = some (.int 1) ∧ x_sv (x_W fi fl fr) S := by
  refine g_n 11 (pc' := 551) (L' := [some (.retAddr 0), some (.ref 0), some (.ref 281), some (.int 0)]) (st' := [.int (xs 2), .int (xs 1), .ref 0]) rfl ?_
  refine g_call (ins := .invokevirtual 58) (len := 3) (j := 362) (as := [.ref 0, .int (xs 1), .int (xs 2)]) (rest := []) rfl rfl rfl rfl (fun _ => rfl) rfl ?_
  refine (x_op10 hF (xs 1) (xs 2)).mono (fun r S1 h => ?_)
  obtain ⟨⟨fs, ho⟩, m0, r2, S2, hm, v, rfl, rfl, hs⟩ := h
  refine g_n 11 (pc' := 565) (L' := [some (.retAddr 0), some (.ref 0), some (.ref 281), some (.int 0)]) (st' := [.int (xs 2), .int (xs 1), .ref 281, .int v]) rfl ?_
  refine g_vcall (i := 61) (kd := 3) (j := 490) (np := 2) (ci := 12) (rest := [.int v]) rfl rfl (Or.inl rfl) (by simp) rfl rfl ho rfl rfl ?_
  refine ⟨m0, some (.int v), S2, hm, ?_⟩
  refine g_brT (c := v = v) (t := 1847) (f := 571) (L' := [some (.retAddr 0), some (.ref 0), some (.ref 281), some (.int 0)]) (st' := []) rfl rfl ?_
  exact x_lawend ⟨rfl, hs⟩
set_option maxRecDepth 100000 in
theorem x_law11 {xs : Nat → Int32} {fi : Nat → Nat → Int32} {fl : Nat → Nat → Int64} {fr : Nat → Nat → Option Nat} (hF : x_F fl fr) : x_go 30 (some (6, xs)) x_ML 573 [some (.retAddr 0), some (.ref 0), some (.ref 281), some (.int 0)] [] (x_W fi fl fr) fun r S => r = some (.int 1) ∧ x_sv (x_W fi fl fr) S := by
  refine g_n 16 (pc' := 589) (L' := [some (.retAddr 0), some (.ref 0), some (.ref 281), some (.int 0)]) (st' := [.int (xs 3), .int (xs 2), .int (xs 1), .ref 0]) rfl ?_
  refine g_call (ins := .invokevirtual 62) (len := 3) (j := 363) (as := [.ref 0, .int (xs 1), .int (xs 2), .int (xs 3)]) (rest := []) rfl rfl rfl rfl (fun _ => rfl) rfl ?_
  refine (x_op11 hF (xs 1) (xs 2) (xs 3)).mono (fun r S1 h => ?_)
  obtain ⟨⟨fs, ho⟩, m0, r2, S2, hm, v, rfl, rfl, hs⟩ := h
  refine g_n 16 (pc' := 608) (L' := [some (.retAddr 0), some (.ref 0), some (.ref 281), some (.int 0)]) (st' := [.int (xs 3), .int (xs 2), .int (xs 1), .ref 281, .int v]) rfl ?_
  refine g_vcall (i := 65) (kd := 3) (j := 492) (np := 3) (ci := 12) (rest := [.int v]) rfl rfl (Or.inl rfl) (by simp) rfl rfl ho rfl rfl ?_
  refine ⟨m0, some (.int v), S2, hm, ?_⟩
  refine g_brT (c := v = v) (t := 1847) (f := 614) (L' := [some (.retAddr 0), some (.ref 0), some (.ref 281), some (.int 0)]) (st' := []) rfl rfl ?_
  exact x_lawend ⟨rfl, hs⟩
set_option maxRecDepth 100000 in
theorem x_law12 {xs : Nat → Int32} {fi : Nat → Nat → Int32} {fl : Nat → Nat → Int64} {fr : Nat → Nat → Option Nat} (hF : x_F fl fr) : x_go 30 (some (6, xs)) x_ML 616 [some (.retAddr 0), some (.ref 0), some (.ref 281), some (.int 0)] [] (x_W fi fl fr) fun r S => r = some (.int 1) ∧ x_sv (x_W fi fl fr) S := by
  refine g_n 21 (pc' := 637) (L' := [some (.retAddr 0), some (.ref 0), some (.ref 281), some (.int 0)]) (st' := [.int (xs 4), .int (xs 3), .int (xs 2), .int (xs 1), .ref 0]) rfl ?_
  refine g_call (ins := .invokevirtual 66) (len := 3) (j := 364) (as := [.ref 0, .int (xs 1), .int (xs 2), .int (xs 3), .int (xs 4)]) (rest := []) rfl rfl rfl rfl (fun _ => rfl) rfl ?_
  refine (x_op12 hF (xs 1) (xs 2) (xs 3) (xs 4)).mono (fun r S1 h => ?_)
  obtain ⟨⟨fs, ho⟩, m0, r2, S2, hm, v, rfl, rfl, hs⟩ := h
  refine g_n 21 (pc' := 661) (L' := [some (.retAddr 0), some (.ref 0), some (.ref 281), some (.int 0)]) (st' := [.int (xs 4), .int (xs 3), .int (xs 2), .int (xs 1), .ref 281, .int v]) rfl ?_
  refine g_vcall (i := 70) (kd := 3) (j := 493) (np := 4) (ci := 12) (rest := [.int v]) rfl rfl (Or.inl rfl) (by simp) rfl rfl ho rfl rfl ?_
  refine ⟨m0, some (.int v), S2, hm, ?_⟩
  refine g_brT (c := v = v) (t := 1847) (f := 667) (L' := [some (.retAddr 0), some (.ref 0), some (.ref 281), some (.int 0)]) (st' := []) rfl rfl ?_
  exact x_lawend ⟨rfl, hs⟩
set_option maxRecDepth 100000 in
theorem x_law13 {xs : Nat → Int32} {fi : Nat → Nat → Int32} {fl : Nat → Nat → Int64} {fr : Nat → Nat → Option Nat} (hF : x_F fl fr) : x_go 30 (some (6, xs)) x_ML 669 [some (.retAddr 0), some (.ref 0), some (.ref 281), some (.int 0)] [] (x_W fi fl fr) fun r S => r = some (.int 1) ∧ x_sv (x_W fi fl fr) S := by
  refine g_n 26 (pc' := 695) (L' := [some (.retAddr 0), some (.ref 0), some (.ref 281), some (.int 0)]) (st' := [.int (xs 5), .int (xs 4), .int (xs 3), .int (xs 2), .int (xs 1), .ref 0]) rfl ?_
  refine g_call (ins := .invokevirtual 71) (len := 3) (j := 365) (as := [.ref 0, .int (xs 1), .int (xs 2), .int (xs 3), .int (xs 4), .int (xs 5)]) (rest := []) rfl rfl rfl rfl (fun _ => rfl) rfl ?_
  refine (x_op13 hF (xs 1) (xs 2) (xs 3) (xs 4) (xs 5)).mono (fun r S1 h => ?_)
  obtain ⟨⟨fs, ho⟩, m0, r2, S2, hm, v, rfl, rfl, hs⟩ := h
  refine g_n 26 (pc' := 724) (L' := [some (.retAddr 0), some (.ref 0), some (.ref 281), some (.int 0)]) (st' := [.int (xs 5), .int (xs 4), .int (xs 3), .int (xs 2), .int (xs 1), .ref 281, .int v]) rfl ?_
  refine g_vcall (i := 74) (kd := 3) (j := 495) (np := 5) (ci := 12) (rest := [.int v]) rfl rfl (Or.inl rfl) (by simp) rfl rfl ho rfl rfl ?_
  refine ⟨m0, some (.int v), S2, hm, ?_⟩
  refine g_brT (c := v = v) (t := 1847) (f := 730) (L' := [some (.retAddr 0), some (.ref 0), some (.ref 281), some (.int 0)]) (st' := []) rfl rfl ?_
  exact x_lawend ⟨rfl, hs⟩
set_option maxRecDepth 100000 in
theorem x_law14 {xs : Nat → Int32} {fi : Nat → Nat → Int32} {fl : Nat → Nat → Int64} {fr : Nat → Nat → Option Nat} (hF : x_F fl fr) : x_go 30 (some (6, xs)) x_ML 732 [some (.retAddr 0), some (.ref 0), some (.ref 281), some (.int 0)] [] (x_W fi fl fr) fun r S => r = some (.int 1) ∧ x_sv (x_W fi fl fr) S := by
  refine g_n 21 (pc' := 753) (L' := [some (.retAddr 0), some (.ref 0), some (.ref 281), some (.int 0)]) (st' := [.int (xs 4), .int (xs 3), .int (xs 2), .int (xs 1), .ref 0]) rfl ?_
  refine g_call (ins := .invokevirtual 75) (len := 3) (j := 367) (as := [.ref 0, .int (xs 1), .int (xs 2), .int (xs 3), .int (xs 4)]) (rest := []) rfl rfl rfl rfl (fun _ => rfl) rfl ?_
  refine (x_op14 hF (xs 1) (xs 2) (xs 3) (xs 4)).mono (fun r S1 h => ?_)
  obtain ⟨⟨fs, ho⟩, m0, r2, S2, hm, v, rfl, rfl, hs⟩ := h
  refine g_n 21 (pc' := 777) (L' := [some (.retAddr 0), some (.ref 0), some (.ref 281), some (.int 0)]) (st' := [.int (xs 4), .int (xs 3), .int (xs 2), .int (xs 1), .ref 281, .int v]) rfl ?_
  refine g_vcall (i := 78) (kd := 3) (j := 496) (np := 4) (ci := 12) (rest := [.int v]) rfl rfl (Or.inl rfl) (by simp) rfl rfl ho rfl rfl ?_
  refine ⟨m0, some (.int v), S2, hm, ?_⟩
  refine g_brT (c := v = v) (t := 1847) (f := 783) (L' := [some (.retAddr 0), some (.ref 0), some (.ref 281), some (.int 0)]) (st' := []) rfl rfl ?_
  exact x_lawend ⟨rfl, hs⟩
set_option maxRecDepth 100000 in
theorem x_law15 {xs : Nat → Int32} {fi : Nat → Nat → Int32} {fl : Nat → Nat → Int64} {fr : Nat → Nat → Option Nat} (hF : x_F fl fr) : x_go 30 (some (6, xs)) x_ML 785 [some (.retAddr 0), some (.ref 0), some (.ref 281), some (.int 0)] [] (x_W fi fl fr) fun r S => r = some (.int 1) ∧ x_sv (x_W fi fl fr) S := by
  refine g_n 11 (pc' := 796) (L' := [some (.retAddr 0), some (.ref 0), some (.ref 281), some (.int 0)]) (st' := [.int (xs 2), .int (xs 1), .ref 0]) rfl ?_
  refine g_call (ins := .invokevirtual 79) (len := 3) (j := 368) (as := [.ref 0, .int (xs 1), .int (xs 2)]) (rest := []) rfl rfl rfl rfl (fun _ => rfl) rfl ?_
  refine (x_op15 hF (xs 1) (xs 2)).mono (fun r S1 h => ?_)
  obtain ⟨⟨fs, ho⟩, m0, r2, S2, hm, v, rfl, rfl, hs⟩ := h
  refine g_n 11 (pc' := 810) (L' := [some (.retAddr 0), some (.ref 0), some (.ref 281), some (.int 0)]) (st' := [.int (xs 2), .int (xs 1), .ref 281, .int v]) rfl ?_
  refine g_vcall (i := 82) (kd := 3) (j := 497) (np := 2) (ci := 12) (rest := [.int v]) rfl rfl (Or.inl rfl) (by simp) rfl rfl ho rfl rfl ?_
  refine ⟨m0, some (.int v), S2, hm, ?_⟩
  refine g_brT (c := v = v) (t := 1847) (f := 816) (L' := [some (.retAddr 0), some (.ref 0), some (.ref 281), some (.int 0)]) (st' := []) rfl rfl ?_
  exact x_lawend ⟨rfl, hs⟩
set_option maxRecDepth 100000 in
theorem x_law16 {xs : Nat → Int32} {fi : Nat → Nat → Int32} {fl : Nat → Nat → Int64} {fr : Nat → Nat → Option Nat} (hF : x_F fl fr) : x_go 30 (some (6, xs)) x_ML 818 [some (.retAddr 0), some (.ref 0), some (.ref 281), some (.int 0)] [] (x_W fi fl fr) fun r S => r = some (.int 1) ∧ x_sv (x_W fi fl fr) S := by
  refine g_n 16 (pc' := 834) (L' := [some (.retAddr 0), some (.ref 0), some (.ref 281), some (.int 0)]) (st' := [.int (xs 3), .int (xs 2), .int (xs 1), .ref 0]) rfl ?_
  refine g_call (ins := .invokevirtual 83) (len := 3) (j := 369) (as := [.ref 0, .int (xs 1), .int (xs 2), .int (xs 3)]) (rest := []) rfl rfl rfl rfl (fun _ => rfl) rfl ?_
  refine (x_op16 hF (xs 1) (xs 2) (xs 3)).mono (fun r S1 h => ?_)
  obtain ⟨⟨fs, ho⟩, m0, r2, S2, hm, v, rfl, rfl, hs⟩ := h
  refine g_n 16 (pc' := 853) (L' := [some (.retAddr 0), some (.ref 0), some (.ref 281), some (.int 0)]) (st' := [.int (xs 3), .int (xs 2), .int (xs 1), .ref 281, .long v]) rfl ?_
  refine g_vcall (i := 87) (kd := 3) (j := 502) (np := 3) (ci := 12) (rest := [.long v]) rfl rfl (Or.inl rfl) (by simp) rfl rfl ho rfl rfl ?_
  refine ⟨m0, some (.long v), S2, hm, ?_⟩
  refine g_n 1 (pc' := 857) (L' := [some (.retAddr 0), some (.ref 0), some (.ref 281), some (.int 0)]) (st' := [.int (lg_cmp v v)]) rfl ?_
  refine g_brT (c := lg_cmp v v = 0) (t := 1847) (f := 860) (L' := [some (.retAddr 0), some (.ref 0), some (.ref 281), some (.int 0)]) (st' := []) rfl (x_cmp_self v) ?_
  exact x_lawend ⟨rfl, hs⟩
set_option maxRecDepth 100000 in
theorem x_law17 {xs : Nat → Int32} {fi : Nat → Nat → Int32} {fl : Nat → Nat → Int64} {fr : Nat → Nat → Option Nat} (hF : x_F fl fr) : x_go 30 (some (6, xs)) x_ML 862 [some (.retAddr 0), some (.ref 0), some (.ref 281), some (.int 0)] [] (x_W fi fl fr) fun r S => r = some (.int 1) ∧ x_sv (x_W fi fl fr) S := by
  refine g_n 11 (pc' := 873) (L' := [some (.retAddr 0), some (.ref 0), some (.ref 281), some (.int 0)]) (st' := [.int (xs 2), .int (xs 1), .ref 0]) rfl ?_
  refine g_call (ins := .invokevirtual 88) (len := 3) (j := 371) (as := [.ref 0, .int (xs 1), .int (xs 2)]) (rest := []) rfl rfl rfl rfl (fun _ => rfl) rfl ?_
  refine (x_op17 hF (xs 1) (xs 2)).mono (fun r S1 h => ?_)
  obtain ⟨⟨fs, ho⟩, m0, r2, S2, hm, v, rfl, rfl, hs⟩ := h
  refine g_n 11 (pc' := 887) (L' := [some (.retAddr 0), some (.ref 0), some (.ref 281), some (.int 0)]) (st' := [.int (xs 2), .int (xs 1), .ref 281, .int v]) rfl ?_
  refine g_vcall (i := 91) (kd := 3) (j := 542) (np := 2) (ci := 12) (rest := [.int v]) rfl rfl (Or.inl rfl) (by simp) rfl rfl ho rfl rfl ?_
  refine ⟨m0, some (.int v), S2, hm, ?_⟩
  refine g_brT (c := v = v) (t := 1847) (f := 893) (L' := [some (.retAddr 0), some (.ref 0), some (.ref 281), some (.int 0)]) (st' := []) rfl rfl ?_
  exact x_lawend ⟨rfl, hs⟩
set_option maxRecDepth 100000 in
theorem x_law18 {xs : Nat → Int32} {fi : Nat → Nat → Int32} {fl : Nat → Nat → Int64} {fr : Nat → Nat → Option Nat} (hF : x_F fl fr) : x_go 30 (some (6, xs)) x_ML 895 [some (.retAddr 0), some (.ref 0), some (.ref 281), some (.int 0)] [] (x_W fi fl fr) fun r S => r = some (.int 1) ∧ x_sv (x_W fi fl fr) S := by
  refine g_n 11 (pc' := 906) (L' := [some (.retAddr 0), some (.ref 0), some (.ref 281), some (.int 0)]) (st' := [.int (xs 2), .int (xs 1), .ref 0]) rfl ?_
  refine g_call (ins := .invokevirtual 92) (len := 3) (j := 374) (as := [.ref 0, .int (xs 1), .int (xs 2)]) (rest := []) rfl rfl rfl rfl (fun _ => rfl) rfl ?_
  refine (x_op18 hF (xs 1) (xs 2)).mono (fun r S1 h => ?_)
  obtain ⟨⟨fs, ho⟩, m0, r2, S2, hm, v, rfl, rfl, hs⟩ := h
  refine g_n 11 (pc' := 920) (L' := [some (.retAddr 0), some (.ref 0), some (.ref 281), some (.int 0)]) (st' := [.int (xs 2), .int (xs 1), .ref 281, .int v]) rfl ?_
  refine g_vcall (i := 95) (kd := 3) (j := 556) (np := 2) (ci := 12) (rest := [.int v]) rfl rfl (Or.inl rfl) (by simp) rfl rfl ho rfl rfl ?_
  refine ⟨m0, some (.int v), S2, hm, ?_⟩
  refine g_brT (c := v = v) (t := 1847) (f := 926) (L' := [some (.retAddr 0), some (.ref 0), some (.ref 281), some (.int 0)]) (st' := []) rfl rfl ?_
  exact x_lawend ⟨rfl, hs⟩
set_option maxRecDepth 100000 in
theorem x_law19 {xs : Nat → Int32} {fi : Nat → Nat → Int32} {fl : Nat → Nat → Int64} {fr : Nat → Nat → Option Nat} (hF : x_F fl fr) : x_go 30 (some (6, xs)) x_ML 928 [some (.retAddr 0), some (.ref 0), some (.ref 281), some (.int 0)] [] (x_W fi fl fr) fun r S => r = some (.int 1) ∧ x_sv (x_W fi fl fr) S := by
  refine g_n 11 (pc' := 939) (L' := [some (.retAddr 0), some (.ref 0), some (.ref 281), some (.int 0)]) (st' := [.int (xs 2), .int (xs 1), .ref 0]) rfl ?_
  refine g_call (ins := .invokevirtual 96) (len := 3) (j := 375) (as := [.ref 0, .int (xs 1), .int (xs 2)]) (rest := []) rfl rfl rfl rfl (fun _ => rfl) rfl ?_
  refine (x_op19 hF (xs 1) (xs 2)).mono (fun r S1 h => ?_)
  obtain ⟨⟨fs, ho⟩, m0, r2, S2, hm, v, rfl, rfl, hs⟩ := h
  refine g_n 11 (pc' := 953) (L' := [some (.retAddr 0), some (.ref 0), some (.ref 281), some (.int 0)]) (st' := [.int (xs 2), .int (xs 1), .ref 281, .int v]) rfl ?_
  refine g_vcall (i := 99) (kd := 3) (j := 589) (np := 2) (ci := 12) (rest := [.int v]) rfl rfl (Or.inl rfl) (by simp) rfl rfl ho rfl rfl ?_
  refine ⟨m0, some (.int v), S2, hm, ?_⟩
  refine g_brT (c := v = v) (t := 1847) (f := 959) (L' := [some (.retAddr 0), some (.ref 0), some (.ref 281), some (.int 0)]) (st' := []) rfl rfl ?_
  exact x_lawend ⟨rfl, hs⟩
set_option maxRecDepth 100000 in
theorem x_law20 {xs : Nat → Int32} {fi : Nat → Nat → Int32} {fl : Nat → Nat → Int64} {fr : Nat → Nat → Option Nat} (hF : x_F fl fr) : x_go 30 (some (6, xs)) x_ML 961 [some (.retAddr 0), some (.ref 0), some (.ref 281), some (.int 0)] [] (x_W fi fl fr) fun r S => r = some (.int 1) ∧ x_sv (x_W fi fl fr) S := by
  refine g_n 11 (pc' := 972) (L' := [some (.retAddr 0), some (.ref 0), some (.ref 281), some (.int 0)]) (st' := [.int (xs 2), .int (xs 1), .ref 0]) rfl ?_
  refine g_call (ins := .invokevirtual 100) (len := 3) (j := 376) (as := [.ref 0, .int (xs 1), .int (xs 2)]) (rest := []) rfl rfl rfl rfl (fun _ => rfl) rfl ?_
  refine (x_op20 hF (xs 1) (xs 2)).mono (fun r S1 h => ?_)
  obtain ⟨⟨fs, ho⟩, m0, r2, S2, hm, v, rfl, rfl, hs⟩ := h
  refine g_n 11 (pc' := 986) (L' := [some (.retAddr 0), some (.ref 0), some (.ref 281), some (.int 0)]) (st' := [.int (xs 2), .int (xs 1), .ref 281, .int v]) rfl ?_
  refine g_vcall (i := 103) (kd := 3) (j := 592) (np := 2) (ci := 12) (rest := [.int v]) rfl rfl (Or.inl rfl) (by simp) rfl rfl ho rfl rfl ?_
  refine ⟨m0, some (.int v), S2, hm, ?_⟩
  refine g_brT (c := v = v) (t := 1847) (f := 992) (L' := [some (.retAddr 0), some (.ref 0), some (.ref 281), some (.int 0)]) (st' := []) rfl rfl ?_
  exact x_lawend ⟨rfl, hs⟩
set_option maxRecDepth 100000 in
theorem x_law21 {xs : Nat → Int32} {fi : Nat → Nat → Int32} {fl : Nat → Nat → Int64} {fr : Nat → Nat → Option Nat} (hF : x_F fl fr) : x_go 30 (some (6, xs)) x_ML 994 [some (.retAddr 0), some (.ref 0), some (.ref 281), some (.int 0)] [] (x_W fi fl fr) fun r S => r = some (.int 1) ∧ x_sv (x_W fi fl fr) S := by
  refine g_n 6 (pc' := 1000) (L' := [some (.retAddr 0), some (.ref 0), some (.ref 281), some (.int 0)]) (st' := [.int (xs 1), .ref 0]) rfl ?_
  refine g_call (ins := .invokevirtual 104) (len := 3) (j := 377) (as := [.ref 0, .int (xs 1)]) (rest := []) rfl rfl rfl rfl (fun _ => rfl) rfl ?_
  refine (x_op21 hF (xs 1)).mono (fun r S1 h => ?_)
  obtain ⟨⟨fs, ho⟩, m0, r2, S2, hm, v, rfl, rfl, hs⟩ := h
  refine g_n 6 (pc' := 1009) (L' := [some (.retAddr 0), some (.ref 0), some (.ref 281), some (.int 0)]) (st' := [.int (xs 1), .ref 281, .int v]) rfl ?_
  refine g_vcall (i := 107) (kd := 3) (j := 593) (np := 1) (ci := 12) (rest := [.int v]) rfl rfl (Or.inl rfl) (by simp) rfl rfl ho rfl rfl ?_
  refine ⟨m0, some (.int v), S2, hm, ?_⟩
  refine g_brT (c := v = v) (t := 1847) (f := 1015) (L' := [some (.retAddr 0), some (.ref 0), some (.ref 281), some (.int 0)]) (st' := []) rfl rfl ?_
  exact x_lawend ⟨rfl, hs⟩
set_option maxRecDepth 100000 in
theorem x_law22 {xs : Nat → Int32} {fi : Nat → Nat → Int32} {fl : Nat → Nat → Int64} {fr : Nat → Nat → Option Nat} (hF : x_F fl fr) : x_go 30 (some (6, xs)) x_ML 1017 [some (.retAddr 0), some (.ref 0), some (.ref 281), some (.int 0)] [] (x_W fi fl fr) fun r S => r = some (.int 1) ∧ x_sv (x_W fi fl fr) S := by
  refine g_n 11 (pc' := 1028) (L' := [some (.retAddr 0), some (.ref 0), some (.ref 281), some (.int 0)]) (st' := [.int (xs 2), .int (xs 1), .ref 0]) rfl ?_
  refine g_call (ins := .invokevirtual 108) (len := 3) (j := 379) (as := [.ref 0, .int (xs 1), .int (xs 2)]) (rest := []) rfl rfl rfl rfl (fun _ => rfl) rfl ?_
  refine (x_op22 hF (xs 1) (xs 2)).mono (fun r S1 h => ?_)
  obtain ⟨⟨fs, ho⟩, m0, r2, S2, hm, v, rfl, rfl, hs⟩ := h
  refine g_n 11 (pc' := 1042) (L' := [some (.retAddr 0), some (.ref 0), some (.ref 281), some (.int 0)]) (st' := [.int (xs 2), .int (xs 1), .ref 281, .int v]) rfl ?_
  refine g_vcall (i := 111) (kd := 3) (j := 594) (np := 2) (ci := 12) (rest := [.int v]) rfl rfl (Or.inl rfl) (by simp) rfl rfl ho rfl rfl ?_
  refine ⟨m0, some (.int v), S2, hm, ?_⟩
  refine g_brT (c := v = v) (t := 1847) (f := 1048) (L' := [some (.retAddr 0), some (.ref 0), some (.ref 281), some (.int 0)]) (st' := []) rfl rfl ?_
  exact x_lawend ⟨rfl, hs⟩
set_option maxRecDepth 100000 in
theorem x_law23 {xs : Nat → Int32} {fi : Nat → Nat → Int32} {fl : Nat → Nat → Int64} {fr : Nat → Nat → Option Nat} (hF : x_F fl fr) : x_go 30 (some (6, xs)) x_ML 1050 [some (.retAddr 0), some (.ref 0), some (.ref 281), some (.int 0)] [] (x_W fi fl fr) fun r S => r = some (.int 1) ∧ x_sv (x_W fi fl fr) S := by
  refine g_n 16 (pc' := 1066) (L' := [some (.retAddr 0), some (.ref 0), some (.ref 281), some (.int 0)]) (st' := [.int (xs 3), .int (xs 2), .int (xs 1), .ref 0]) rfl ?_
  refine g_call (ins := .invokevirtual 112) (len := 3) (j := 382) (as := [.ref 0, .int (xs 1), .int (xs 2), .int (xs 3)]) (rest := []) rfl rfl rfl rfl (fun _ => rfl) rfl ?_
  refine (x_op23 hF (xs 1) (xs 2) (xs 3)).mono (fun r S1 h => ?_)
  obtain ⟨⟨fs, ho⟩, m0, r2, S2, hm, v, rfl, rfl, hs⟩ := h
  refine g_n 16 (pc' := 1085) (L' := [some (.retAddr 0), some (.ref 0), some (.ref 281), some (.int 0)]) (st' := [.int (xs 3), .int (xs 2), .int (xs 1), .ref 281, .int v]) rfl ?_
  refine g_vcall (i := 115) (kd := 3) (j := 643) (np := 3) (ci := 12) (rest := [.int v]) rfl rfl (Or.inl rfl) (by simp) rfl rfl ho rfl rfl ?_
  refine ⟨m0, some (.int v), S2, hm, ?_⟩
  refine g_brT (c := v = v) (t := 1847) (f := 1091) (L' := [some (.retAddr 0), some (.ref 0), some (.ref 281), some (.int 0)]) (st' := []) rfl rfl ?_
  exact x_lawend ⟨rfl, hs⟩
set_option maxRecDepth 100000 in
theorem x_law24 {xs : Nat → Int32} {fi : Nat → Nat → Int32} {fl : Nat → Nat → Int64} {fr : Nat → Nat → Option Nat} (hF : x_F fl fr) : x_go 30 (some (6, xs)) x_ML 1093 [some (.retAddr 0), some (.ref 0), some (.ref 281), some (.int 0)] [] (x_W fi fl fr) fun r S => r = some (.int 1) ∧ x_sv (x_W fi fl fr) S := by
  refine g_n 26 (pc' := 1119) (L' := [some (.retAddr 0), some (.ref 0), some (.ref 281), some (.int 0)]) (st' := [.int (xs 5), .int (xs 4), .int (xs 3), .int (xs 2), .int (xs 1), .ref 0]) rfl ?_
  refine g_call (ins := .invokevirtual 116) (len := 3) (j := 383) (as := [.ref 0, .int (xs 1), .int (xs 2), .int (xs 3), .int (xs 4), .int (xs 5)]) (rest := []) rfl rfl rfl rfl (fun _ => rfl) rfl ?_
  refine (x_op24 hF (xs 1) (xs 2) (xs 3) (xs 4) (xs 5)).mono (fun r S1 h => ?_)
  obtain ⟨⟨fs, ho⟩, m0, r2, S2, hm, v, rfl, rfl, hs⟩ := h
  refine g_n 26 (pc' := 1148) (L' := [some (.retAddr 0), some (.ref 0), some (.ref 281), some (.int 0)]) (st' := [.int (xs 5), .int (xs 4), .int (xs 3), .int (xs 2), .int (xs 1), .ref 281, .int v]) rfl ?_
  refine g_vcall (i := 119) (kd := 3) (j := 663) (np := 5) (ci := 12) (rest := [.int v]) rfl rfl (Or.inl rfl) (by simp) rfl rfl ho rfl rfl ?_
  refine ⟨m0, some (.int v), S2, hm, ?_⟩
  refine g_brT (c := v = v) (t := 1847) (f := 1154) (L' := [some (.retAddr 0), some (.ref 0), some (.ref 281), some (.int 0)]) (st' := []) rfl rfl ?_
  exact x_lawend ⟨rfl, hs⟩
set_option maxRecDepth 100000 in
theorem x_law25 {xs : Nat → Int32} {fi : Nat → Nat → Int32} {fl : Nat → Nat → Int64} {fr : Nat → Nat → Option Nat} (hF : x_F fl fr) : x_go 30 (some (6, xs)) x_ML 1156 [some (.retAddr 0), some (.ref 0), some (.ref 281), some (.int 0)] [] (x_W fi fl fr) fun r S => r = some (.int 1) ∧ x_sv (x_W fi fl fr) S := by
  refine g_n 11 (pc' := 1167) (L' := [some (.retAddr 0), some (.ref 0), some (.ref 281), some (.int 0)]) (st' := [.int (xs 2), .int (xs 1), .ref 0]) rfl ?_
  refine g_call (ins := .invokevirtual 120) (len := 3) (j := 384) (as := [.ref 0, .int (xs 1), .int (xs 2)]) (rest := []) rfl rfl rfl rfl (fun _ => rfl) rfl ?_
  refine (x_op25 hF (xs 1) (xs 2)).mono (fun r S1 h => ?_)
  obtain ⟨⟨fs, ho⟩, m0, r2, S2, hm, v, rfl, rfl, hs⟩ := h
  refine g_n 11 (pc' := 1181) (L' := [some (.retAddr 0), some (.ref 0), some (.ref 281), some (.int 0)]) (st' := [.int (xs 2), .int (xs 1), .ref 281, .int v]) rfl ?_
  refine g_vcall (i := 123) (kd := 3) (j := 673) (np := 2) (ci := 12) (rest := [.int v]) rfl rfl (Or.inl rfl) (by simp) rfl rfl ho rfl rfl ?_
  refine ⟨m0, some (.int v), S2, hm, ?_⟩
  refine g_brT (c := v = v) (t := 1847) (f := 1187) (L' := [some (.retAddr 0), some (.ref 0), some (.ref 281), some (.int 0)]) (st' := []) rfl rfl ?_
  exact x_lawend ⟨rfl, hs⟩
set_option maxRecDepth 100000 in
theorem x_law26 {xs : Nat → Int32} {fi : Nat → Nat → Int32} {fl : Nat → Nat → Int64} {fr : Nat → Nat → Option Nat} (hF : x_F fl fr) : x_go 30 (some (6, xs)) x_ML 1189 [some (.retAddr 0), some (.ref 0), some (.ref 281), some (.int 0)] [] (x_W fi fl fr) fun r S => r = some (.int 1) ∧ x_sv (x_W fi fl fr) S := by
  refine g_n 1 (pc' := 1190) (L' := [some (.retAddr 0), some (.ref 0), some (.ref 281), some (.int 0)]) (st' := [.ref 0]) rfl ?_
  refine g_call (ins := .invokevirtual 124) (len := 3) (j := 385) (as := [.ref 0]) (rest := []) rfl rfl rfl rfl (fun _ => rfl) rfl ?_
  refine (x_op26 hF).mono (fun r S1 h => ?_)
  obtain ⟨⟨fs, ho⟩, m0, r2, S2, hm, v, rfl, rfl, hs⟩ := h
  refine g_n 1 (pc' := 1194) (L' := [some (.retAddr 0), some (.ref 0), some (.ref 281), some (.int 0)]) (st' := [.ref 281, .long v]) rfl ?_
  refine g_vcall (i := 128) (kd := 3) (j := 672) (np := 0) (ci := 12) (rest := [.long v]) rfl rfl (Or.inl rfl) (by simp) rfl rfl ho rfl rfl ?_
  refine ⟨m0, some (.long v), S2, hm, ?_⟩
  refine g_n 1 (pc' := 1198) (L' := [some (.retAddr 0), some (.ref 0), some (.ref 281), some (.int 0)]) (st' := [.int (lg_cmp v v)]) rfl ?_
  refine g_brT (c := lg_cmp v v = 0) (t := 1847) (f := 1201) (L' := [some (.retAddr 0), some (.ref 0), some (.ref 281), some (.int 0)]) (st' := []) rfl (x_cmp_self v) ?_
  exact x_lawend ⟨rfl, hs⟩
set_option maxRecDepth 100000 in
theorem x_law27 {xs : Nat → Int32} {fi : Nat → Nat → Int32} {fl : Nat → Nat → Int64} {fr : Nat → Nat → Option Nat} (hF : x_F fl fr) : x_go 30 (some (6, xs)) x_ML 1203 [some (.retAddr 0), some (.ref 0), some (.ref 281), some (.int 0)] [] (x_W fi fl fr) fun r S => r = some (.int 1) ∧ x_sv (x_W fi fl fr) S := by
  refine g_n 6 (pc' := 1209) (L' := [some (.retAddr 0), some (.ref 0), some (.ref 281), some (.int 0)]) (st' := [.int (xs 1), .ref 0]) rfl ?_
  refine g_call (ins := .invokevirtual 129) (len := 3) (j := 386) (as := [.ref 0, .int (xs 1)]) (rest := []) rfl rfl rfl rfl (fun _ => rfl) rfl ?_
  refine (x_op27 hF (xs 1)).mono (fun r S1 h => ?_)
  obtain ⟨⟨fs, ho⟩, m0, r2, S2, hm, v, rfl, rfl, hs⟩ := h
  refine g_n 6 (pc' := 1218) (L' := [some (.retAddr 0), some (.ref 0), some (.ref 281), some (.int 0)]) (st' := [.int (xs 1), .ref 281, .int v]) rfl ?_
  refine g_vcall (i := 132) (kd := 3) (j := 675) (np := 1) (ci := 12) (rest := [.int v]) rfl rfl (Or.inl rfl) (by simp) rfl rfl ho rfl rfl ?_
  refine ⟨m0, some (.int v), S2, hm, ?_⟩
  refine g_brT (c := v = v) (t := 1847) (f := 1224) (L' := [some (.retAddr 0), some (.ref 0), some (.ref 281), some (.int 0)]) (st' := []) rfl rfl ?_
  exact x_lawend ⟨rfl, hs⟩
set_option maxRecDepth 100000 in
theorem x_law28 {xs : Nat → Int32} {fi : Nat → Nat → Int32} {fl : Nat → Nat → Int64} {fr : Nat → Nat → Option Nat} (hF : x_F fl fr) : x_go 30 (some (6, xs)) x_ML 1226 [some (.retAddr 0), some (.ref 0), some (.ref 281), some (.int 0)] [] (x_W fi fl fr) fun r S => r = some (.int 1) ∧ x_sv (x_W fi fl fr) S := by
  refine g_n 6 (pc' := 1232) (L' := [some (.retAddr 0), some (.ref 0), some (.ref 281), some (.int 0)]) (st' := [.int (xs 1), .ref 0]) rfl ?_
  refine g_call (ins := .invokevirtual 133) (len := 3) (j := 387) (as := [.ref 0, .int (xs 1)]) (rest := []) rfl rfl rfl rfl (fun _ => rfl) rfl ?_
  refine (x_op28 hF (xs 1)).mono (fun r S1 h => ?_)
  obtain ⟨⟨fs, ho⟩, m0, r2, S2, hm, v, rfl, rfl, hs⟩ := h
  refine g_n 6 (pc' := 1241) (L' := [some (.retAddr 0), some (.ref 0), some (.ref 281), some (.int 0)]) (st' := [.int (xs 1), .ref 281, .int v]) rfl ?_
  refine g_vcall (i := 136) (kd := 3) (j := 680) (np := 1) (ci := 12) (rest := [.int v]) rfl rfl (Or.inl rfl) (by simp) rfl rfl ho rfl rfl ?_
  refine ⟨m0, some (.int v), S2, hm, ?_⟩
  refine g_brT (c := v = v) (t := 1847) (f := 1247) (L' := [some (.retAddr 0), some (.ref 0), some (.ref 281), some (.int 0)]) (st' := []) rfl rfl ?_
  exact x_lawend ⟨rfl, hs⟩
set_option maxRecDepth 100000 in
theorem x_law29 {xs : Nat → Int32} {fi : Nat → Nat → Int32} {fl : Nat → Nat → Int64} {fr : Nat → Nat → Option Nat} (hF : x_F fl fr) : x_go 30 (some (6, xs)) x_ML 1249 [some (.retAddr 0), some (.ref 0), some (.ref 281), some (.int 0)] [] (x_W fi fl fr) fun r S => r = some (.int 1) ∧ x_sv (x_W fi fl fr) S := by
  refine g_n 11 (pc' := 1260) (L' := [some (.retAddr 0), some (.ref 0), some (.ref 281), some (.int 0)]) (st' := [.int (xs 2), .int (xs 1), .ref 0]) rfl ?_
  refine g_call (ins := .invokevirtual 137) (len := 3) (j := 388) (as := [.ref 0, .int (xs 1), .int (xs 2)]) (rest := []) rfl rfl rfl rfl (fun _ => rfl) rfl ?_
  refine (x_op29 hF (xs 1) (xs 2)).mono (fun r S1 h => ?_)
  obtain ⟨⟨fs, ho⟩, m0, r2, S2, hm, v, rfl, rfl, hs⟩ := h
  refine g_n 11 (pc' := 1274) (L' := [some (.retAddr 0), some (.ref 0), some (.ref 281), some (.int 0)]) (st' := [.int (xs 2), .int (xs 1), .ref 281, .int v]) rfl ?_
  refine g_vcall (i := 140) (kd := 3) (j := 664) (np := 2) (ci := 12) (rest := [.int v]) rfl rfl (Or.inl rfl) (by simp) rfl rfl ho rfl rfl ?_
  refine ⟨m0, some (.int v), S2, hm, ?_⟩
  refine g_brT (c := v = v) (t := 1847) (f := 1280) (L' := [some (.retAddr 0), some (.ref 0), some (.ref 281), some (.int 0)]) (st' := []) rfl rfl ?_
  exact x_lawend ⟨rfl, hs⟩
set_option maxRecDepth 100000 in
theorem x_law30 {xs : Nat → Int32} {fi : Nat → Nat → Int32} {fl : Nat → Nat → Int64} {fr : Nat → Nat → Option Nat} (hF : x_F fl fr) : x_go 30 (some (6, xs)) x_ML 1282 [some (.retAddr 0), some (.ref 0), some (.ref 281), some (.int 0)] [] (x_W fi fl fr) fun r S => r = some (.int 1) ∧ x_sv (x_W fi fl fr) S := by
  refine g_n 11 (pc' := 1293) (L' := [some (.retAddr 0), some (.ref 0), some (.ref 281), some (.int 0)]) (st' := [.int (xs 2), .int (xs 1), .ref 0]) rfl ?_
  refine g_call (ins := .invokevirtual 141) (len := 3) (j := 389) (as := [.ref 0, .int (xs 1), .int (xs 2)]) (rest := []) rfl rfl rfl rfl (fun _ => rfl) rfl ?_
  refine (x_op30 hF (xs 1) (xs 2)).mono (fun r S1 h => ?_)
  obtain ⟨⟨fs, ho⟩, m0, r2, S2, hm, v, rfl, rfl, hs⟩ := h
  refine g_n 11 (pc' := 1307) (L' := [some (.retAddr 0), some (.ref 0), some (.ref 281), some (.int 0)]) (st' := [.int (xs 2), .int (xs 1), .ref 281, .int v]) rfl ?_
  refine g_vcall (i := 144) (kd := 3) (j := 681) (np := 2) (ci := 12) (rest := [.int v]) rfl rfl (Or.inl rfl) (by simp) rfl rfl ho rfl rfl ?_
  refine ⟨m0, some (.int v), S2, hm, ?_⟩
  refine g_brT (c := v = v) (t := 1847) (f := 1313) (L' := [some (.retAddr 0), some (.ref 0), some (.ref 281), some (.int 0)]) (st' := []) rfl rfl ?_
  exact x_lawend ⟨rfl, hs⟩
set_option maxRecDepth 100000 in
theorem x_law31 {xs : Nat → Int32} {fi : Nat → Nat → Int32} {fl : Nat → Nat → Int64} {fr : Nat → Nat → Option Nat} (hF : x_F fl fr) : x_go 30 (some (6, xs)) x_ML 1315 [some (.retAddr 0), some (.ref 0), some (.ref 281), some (.int 0)] [] (x_W fi fl fr) fun r S => r = some (.int 1) ∧ x_sv (x_W fi fl fr) S := by
  refine g_n 11 (pc' := 1326) (L' := [some (.retAddr 0), some (.ref 0), some (.ref 281), some (.int 0)]) (st' := [.int (xs 2), .int (xs 1), .ref 0]) rfl ?_
  refine g_call (ins := .invokevirtual 145) (len := 3) (j := 390) (as := [.ref 0, .int (xs 1), .int (xs 2)]) (rest := []) rfl rfl rfl rfl (fun _ => rfl) rfl ?_
  refine (x_op31 hF (xs 1) (xs 2)).mono (fun r S1 h => ?_)
  obtain ⟨⟨fs, ho⟩, m0, r2, S2, hm, v, rfl, rfl, hs⟩ := h
  refine g_n 11 (pc' := 1340) (L' := [some (.retAddr 0), some (.ref 0), some (.ref 281), some (.int 0)]) (st' := [.int (xs 2), .int (xs 1), .ref 281, .int v]) rfl ?_
  refine g_vcall (i := 148) (kd := 3) (j := 685) (np := 2) (ci := 12) (rest := [.int v]) rfl rfl (Or.inl rfl) (by simp) rfl rfl ho rfl rfl ?_
  refine ⟨m0, some (.int v), S2, hm, ?_⟩
  refine g_brT (c := v = v) (t := 1847) (f := 1346) (L' := [some (.retAddr 0), some (.ref 0), some (.ref 281), some (.int 0)]) (st' := []) rfl rfl ?_
  exact x_lawend ⟨rfl, hs⟩
set_option maxRecDepth 100000 in
theorem x_law32 {xs : Nat → Int32} {fi : Nat → Nat → Int32} {fl : Nat → Nat → Int64} {fr : Nat → Nat → Option Nat} (hF : x_F fl fr) : x_go 30 (some (6, xs)) x_ML 1348 [some (.retAddr 0), some (.ref 0), some (.ref 281), some (.int 0)] [] (x_W fi fl fr) fun r S => r = some (.int 1) ∧ x_sv (x_W fi fl fr) S := by
  refine g_n 26 (pc' := 1374) (L' := [some (.retAddr 0), some (.ref 0), some (.ref 281), some (.int 0)]) (st' := [.int (xs 5), .int (xs 4), .int (xs 3), .int (xs 2), .int (xs 1), .ref 0]) rfl ?_
  refine g_call (ins := .invokevirtual 149) (len := 3) (j := 391) (as := [.ref 0, .int (xs 1), .int (xs 2), .int (xs 3), .int (xs 4), .int (xs 5)]) (rest := []) rfl rfl rfl rfl (fun _ => rfl) rfl ?_
  refine (x_op32 hF (xs 1) (xs 2) (xs 3) (xs 4) (xs 5)).mono (fun r S1 h => ?_)
  obtain ⟨⟨fs, ho⟩, m0, r2, S2, hm, v, rfl, rfl, hs⟩ := h
  refine g_n 26 (pc' := 1403) (L' := [some (.retAddr 0), some (.ref 0), some (.ref 281), some (.int 0)]) (st' := [.int (xs 5), .int (xs 4), .int (xs 3), .int (xs 2), .int (xs 1), .ref 281, .int v]) rfl ?_
  refine g_vcall (i := 152) (kd := 3) (j := 688) (np := 5) (ci := 12) (rest := [.int v]) rfl rfl (Or.inl rfl) (by simp) rfl rfl ho rfl rfl ?_
  refine ⟨m0, some (.int v), S2, hm, ?_⟩
  refine g_brT (c := v = v) (t := 1847) (f := 1409) (L' := [some (.retAddr 0), some (.ref 0), some (.ref 281), some (.int 0)]) (st' := []) rfl rfl ?_
  exact x_lawend ⟨rfl, hs⟩
set_option maxRecDepth 100000 in
theorem x_law33 {xs : Nat → Int32} {fi : Nat → Nat → Int32} {fl : Nat → Nat → Int64} {fr : Nat → Nat → Option Nat} (hF : x_F fl fr) : x_go 30 (some (6, xs)) x_ML 1411 [some (.retAddr 0), some (.ref 0), some (.ref 281), some (.int 0)] [] (x_W fi fl fr) fun r S => r = some (.int 1) ∧ x_sv (x_W fi fl fr) S := by
  refine g_n 1 (pc' := 1412) (L' := [some (.retAddr 0), some (.ref 0), some (.ref 281), some (.int 0)]) (st' := [.ref 0]) rfl ?_
  refine g_call (ins := .invokevirtual 153) (len := 3) (j := 392) (as := [.ref 0]) (rest := []) rfl rfl rfl rfl (fun _ => rfl) rfl ?_
  refine (x_op33 hF).mono (fun r S1 h => ?_)
  obtain ⟨⟨fs, ho⟩, m0, r2, S2, hm, v, rfl, rfl, hs⟩ := h
  refine g_n 1 (pc' := 1416) (L' := [some (.retAddr 0), some (.ref 0), some (.ref 281), some (.int 0)]) (st' := [.ref 281, .int v]) rfl ?_
  refine g_vcall (i := 156) (kd := 3) (j := 686) (np := 0) (ci := 12) (rest := [.int v]) rfl rfl (Or.inl rfl) (by simp) rfl rfl ho rfl rfl ?_
  refine ⟨m0, some (.int v), S2, hm, ?_⟩
  refine g_brT (c := v = v) (t := 1847) (f := 1422) (L' := [some (.retAddr 0), some (.ref 0), some (.ref 281), some (.int 0)]) (st' := []) rfl rfl ?_
  exact x_lawend ⟨rfl, hs⟩
set_option maxRecDepth 100000 in
theorem x_law34 {xs : Nat → Int32} {fi : Nat → Nat → Int32} {fl : Nat → Nat → Int64} {fr : Nat → Nat → Option Nat} (hF : x_F fl fr) : x_go 30 (some (6, xs)) x_ML 1424 [some (.retAddr 0), some (.ref 0), some (.ref 281), some (.int 0)] [] (x_W fi fl fr) fun r S => r = some (.int 1) ∧ x_sv (x_W fi fl fr) S := by
  refine g_n 16 (pc' := 1440) (L' := [some (.retAddr 0), some (.ref 0), some (.ref 281), some (.int 0)]) (st' := [.int (xs 3), .int (xs 2), .int (xs 1), .ref 0]) rfl ?_
  refine g_call (ins := .invokevirtual 157) (len := 3) (j := 393) (as := [.ref 0, .int (xs 1), .int (xs 2), .int (xs 3)]) (rest := []) rfl rfl rfl rfl (fun _ => rfl) rfl ?_
  refine (x_op34 hF (xs 1) (xs 2) (xs 3)).mono (fun r S1 h => ?_)
  obtain ⟨⟨fs, ho⟩, m0, r2, S2, hm, v, rfl, rfl, hs⟩ := h
  refine g_n 16 (pc' := 1459) (L' := [some (.retAddr 0), some (.ref 0), some (.ref 281), some (.int 0)]) (st' := [.int (xs 3), .int (xs 2), .int (xs 1), .ref 281, .int v]) rfl ?_
  refine g_vcall (i := 160) (kd := 3) (j := 715) (np := 3) (ci := 12) (rest := [.int v]) rfl rfl (Or.inl rfl) (by simp) rfl rfl ho rfl rfl ?_
  refine ⟨m0, some (.int v), S2, hm, ?_⟩
  refine g_brT (c := v = v) (t := 1847) (f := 1465) (L' := [some (.retAddr 0), some (.ref 0), some (.ref 281), some (.int 0)]) (st' := []) rfl rfl ?_
  exact x_lawend ⟨rfl, hs⟩
set_option maxRecDepth 100000 in
theorem x_law35 {xs : Nat → Int32} {fi : Nat → Nat → Int32} {fl : Nat → Nat → Int64} {fr : Nat → Nat → Option Nat} (hF : x_F fl fr) : x_go 30 (some (6, xs)) x_ML 1467 [some (.retAddr 0), some (.ref 0), some (.ref 281), some (.int 0)] [] (x_W fi fl fr) fun r S => r = some (.int 1) ∧ x_sv (x_W fi fl fr) S := by
  refine g_n 16 (pc' := 1483) (L' := [some (.retAddr 0), some (.ref 0), some (.ref 281), some (.int 0)]) (st' := [.int (xs 3), .int (xs 2), .int (xs 1), .ref 0]) rfl ?_
  refine g_call (ins := .invokevirtual 161) (len := 3) (j := 394) (as := [.ref 0, .int (xs 1), .int (xs 2), .int (xs 3)]) (rest := []) rfl rfl rfl rfl (fun _ => rfl) rfl ?_
  refine (x_op35 hF (xs 1) (xs 2) (xs 3)).mono (fun r S1 h => ?_)
  obtain ⟨⟨fs, ho⟩, m0, r2, S2, hm, v, rfl, rfl, hs⟩ := h
  refine g_n 16 (pc' := 1502) (L' := [some (.retAddr 0), some (.ref 0), some (.ref 281), some (.int 0)]) (st' := [.int (xs 3), .int (xs 2), .int (xs 1), .ref 281, .int v]) rfl ?_
  refine g_vcall (i := 164) (kd := 3) (j := 716) (np := 3) (ci := 12) (rest := [.int v]) rfl rfl (Or.inl rfl) (by simp) rfl rfl ho rfl rfl ?_
  refine ⟨m0, some (.int v), S2, hm, ?_⟩
  refine g_brT (c := v = v) (t := 1847) (f := 1508) (L' := [some (.retAddr 0), some (.ref 0), some (.ref 281), some (.int 0)]) (st' := []) rfl rfl ?_
  exact x_lawend ⟨rfl, hs⟩
set_option maxRecDepth 100000 in
theorem x_law36 {xs : Nat → Int32} {fi : Nat → Nat → Int32} {fl : Nat → Nat → Int64} {fr : Nat → Nat → Option Nat} (hF : x_F fl fr) : x_go 30 (some (6, xs)) x_ML 1510 [some (.retAddr 0), some (.ref 0), some (.ref 281), some (.int 0)] [] (x_W fi fl fr) fun r S => r = some (.int 1) ∧ x_sv (x_W fi fl fr) S := by
  refine g_n 16 (pc' := 1526) (L' := [some (.retAddr 0), some (.ref 0), some (.ref 281), some (.int 0)]) (st' := [.int (xs 3), .int (xs 2), .int (xs 1), .ref 0]) rfl ?_
  refine g_call (ins := .invokevirtual 165) (len := 3) (j := 396) (as := [.ref 0, .int (xs 1), .int (xs 2), .int (xs 3)]) (rest := []) rfl rfl rfl rfl (fun _ => rfl) rfl ?_
  refine (x_op36 hF (xs 1) (xs 2) (xs 3)).mono (fun r S1 h => ?_)
  obtain ⟨⟨fs, ho⟩, m0, r2, S2, hm, v, rfl, rfl, hs⟩ := h
  refine g_n 16 (pc' := 1545) (L' := [some (.retAddr 0), some (.ref 0), some (.ref 281), some (.int 0)]) (st' := [.int (xs 3), .int (xs 2), .int (xs 1), .ref 281, .int v]) rfl ?_
  refine g_vcall (i := 168) (kd := 3) (j := 719) (np := 3) (ci := 12) (rest := [.int v]) rfl rfl (Or.inl rfl) (by simp) rfl rfl ho rfl rfl ?_
  refine ⟨m0, some (.int v), S2, hm, ?_⟩
  refine g_brT (c := v = v) (t := 1847) (f := 1551) (L' := [some (.retAddr 0), some (.ref 0), some (.ref 281), some (.int 0)]) (st' := []) rfl rfl ?_
  exact x_lawend ⟨rfl, hs⟩
set_option maxRecDepth 100000 in
theorem x_law37 {xs : Nat → Int32} {fi : Nat → Nat → Int32} {fl : Nat → Nat → Int64} {fr : Nat → Nat → Option Nat} (hF : x_F fl fr) : x_go 30 (some (6, xs)) x_ML 1553 [some (.retAddr 0), some (.ref 0), some (.ref 281), some (.int 0)] [] (x_W fi fl fr) fun r S => r = some (.int 1) ∧ x_sv (x_W fi fl fr) S := by
  refine g_n 11 (pc' := 1564) (L' := [some (.retAddr 0), some (.ref 0), some (.ref 281), some (.int 0)]) (st' := [.int (xs 2), .int (xs 1), .ref 0]) rfl ?_
  refine g_call (ins := .invokevirtual 169) (len := 3) (j := 397) (as := [.ref 0, .int (xs 1), .int (xs 2)]) (rest := []) rfl rfl rfl rfl (fun _ => rfl) rfl ?_
  refine (x_op37 hF (xs 1) (xs 2)).mono (fun r S1 h => ?_)
  obtain ⟨⟨fs, ho⟩, m0, r2, S2, hm, v, rfl, rfl, hs⟩ := h
  refine g_n 11 (pc' := 1578) (L' := [some (.retAddr 0), some (.ref 0), some (.ref 281), some (.int 0)]) (st' := [.int (xs 2), .int (xs 1), .ref 281, .int v]) rfl ?_
  refine g_vcall (i := 172) (kd := 3) (j := 724) (np := 2) (ci := 12) (rest := [.int v]) rfl rfl (Or.inl rfl) (by simp) rfl rfl ho rfl rfl ?_
  refine ⟨m0, some (.int v), S2, hm, ?_⟩
  refine g_brT (c := v = v) (t := 1847) (f := 1584) (L' := [some (.retAddr 0), some (.ref 0), some (.ref 281), some (.int 0)]) (st' := []) rfl rfl ?_
  exact x_lawend ⟨rfl, hs⟩
set_option maxRecDepth 100000 in
theorem x_law38 {xs : Nat → Int32} {fi : Nat → Nat → Int32} {fl : Nat → Nat → Int64} {fr : Nat → Nat → Option Nat} (hF : x_F fl fr) : x_go 30 (some (6, xs)) x_ML 1586 [some (.retAddr 0), some (.ref 0), some (.ref 281), some (.int 0)] [] (x_W fi fl fr) fun r S => r = some (.int 1) ∧ x_sv (x_W fi fl fr) S := by
  refine g_n 6 (pc' := 1592) (L' := [some (.retAddr 0), some (.ref 0), some (.ref 281), some (.int 0)]) (st' := [.int (xs 1), .ref 0]) rfl ?_
  refine g_call (ins := .invokevirtual 173) (len := 3) (j := 398) (as := [.ref 0, .int (xs 1)]) (rest := []) rfl rfl rfl rfl (fun _ => rfl) rfl ?_
  refine (x_op38 hF (xs 1)).mono (fun r S1 h => ?_)
  obtain ⟨⟨fs, ho⟩, m0, r2, S2, hm, v, rfl, rfl, hs⟩ := h
  refine g_n 6 (pc' := 1601) (L' := [some (.retAddr 0), some (.ref 0), some (.ref 281), some (.int 0)]) (st' := [.int (xs 1), .ref 281, .int v]) rfl ?_
  refine g_vcall (i := 176) (kd := 3) (j := 729) (np := 1) (ci := 12) (rest := [.int v]) rfl rfl (Or.inl rfl) (by simp) rfl rfl ho rfl rfl ?_
  refine ⟨m0, some (.int v), S2, hm, ?_⟩
  refine g_brT (c := v = v) (t := 1847) (f := 1607) (L' := [some (.retAddr 0), some (.ref 0), some (.ref 281), some (.int 0)]) (st' := []) rfl rfl ?_
  exact x_lawend ⟨rfl, hs⟩
set_option maxRecDepth 100000 in
theorem x_law39 {xs : Nat → Int32} {fi : Nat → Nat → Int32} {fl : Nat → Nat → Int64} {fr : Nat → Nat → Option Nat} (hF : x_F fl fr) : x_go 30 (some (6, xs)) x_ML 1609 [some (.retAddr 0), some (.ref 0), some (.ref 281), some (.int 0)] [] (x_W fi fl fr) fun r S => r = some (.int 1) ∧ x_sv (x_W fi fl fr) S := by
  refine g_n 6 (pc' := 1615) (L' := [some (.retAddr 0), some (.ref 0), some (.ref 281), some (.int 0)]) (st' := [.int (xs 1), .ref 0]) rfl ?_
  refine g_call (ins := .invokevirtual 177) (len := 3) (j := 401) (as := [.ref 0, .int (xs 1)]) (rest := []) rfl rfl rfl rfl (fun _ => rfl) rfl ?_
  refine (x_op39 hF (xs 1)).mono (fun r S1 h => ?_)
  obtain ⟨⟨fs, ho⟩, m0, r2, S2, hm, v, rfl, rfl, hs⟩ := h
  refine g_n 6 (pc' := 1624) (L' := [some (.retAddr 0), some (.ref 0), some (.ref 281), some (.int 0)]) (st' := [.int (xs 1), .ref 281, .int v]) rfl ?_
  refine g_vcall (i := 180) (kd := 3) (j := 727) (np := 1) (ci := 12) (rest := [.int v]) rfl rfl (Or.inl rfl) (by simp) rfl rfl ho rfl rfl ?_
  refine ⟨m0, some (.int v), S2, hm, ?_⟩
  refine g_brT (c := v = v) (t := 1847) (f := 1630) (L' := [some (.retAddr 0), some (.ref 0), some (.ref 281), some (.int 0)]) (st' := []) rfl rfl ?_
  exact x_lawend ⟨rfl, hs⟩
set_option maxRecDepth 100000 in
theorem x_law40 {xs : Nat → Int32} {fi : Nat → Nat → Int32} {fl : Nat → Nat → Int64} {fr : Nat → Nat → Option Nat} (hF : x_F fl fr) : x_go 30 (some (6, xs)) x_ML 1632 [some (.retAddr 0), some (.ref 0), some (.ref 281), some (.int 0)] [] (x_W fi fl fr) fun r S => r = some (.int 1) ∧ x_sv (x_W fi fl fr) S := by
  refine g_n 6 (pc' := 1638) (L' := [some (.retAddr 0), some (.ref 0), some (.ref 281), some (.int 0)]) (st' := [.int (xs 1), .ref 0]) rfl ?_
  refine g_call (ins := .invokevirtual 181) (len := 3) (j := 402) (as := [.ref 0, .int (xs 1)]) (rest := []) rfl rfl rfl rfl (fun _ => rfl) rfl ?_
  refine (x_op40 hF (xs 1)).mono (fun r S1 h => ?_)
  obtain ⟨⟨fs, ho⟩, m0, r2, S2, hm, v, rfl, rfl, hs⟩ := h
  refine g_n 6 (pc' := 1647) (L' := [some (.retAddr 0), some (.ref 0), some (.ref 281), some (.int 0)]) (st' := [.int (xs 1), .ref 281, .int v]) rfl ?_
  refine g_vcall (i := 184) (kd := 3) (j := 728) (np := 1) (ci := 12) (rest := [.int v]) rfl rfl (Or.inl rfl) (by simp) rfl rfl ho rfl rfl ?_
  refine ⟨m0, some (.int v), S2, hm, ?_⟩
  refine g_brT (c := v = v) (t := 1847) (f := 1653) (L' := [some (.retAddr 0), some (.ref 0), some (.ref 281), some (.int 0)]) (st' := []) rfl rfl ?_
  exact x_lawend ⟨rfl, hs⟩
set_option maxRecDepth 100000 in
theorem x_law41 {xs : Nat → Int32} {fi : Nat → Nat → Int32} {fl : Nat → Nat → Int64} {fr : Nat → Nat → Option Nat} (hF : x_F fl fr) : x_go 30 (some (6, xs)) x_ML 1655 [some (.retAddr 0), some (.ref 0), some (.ref 281), some (.int 0)] [] (x_W fi fl fr) fun r S => r = some (.int 1) ∧ x_sv (x_W fi fl fr) S := by
  refine g_n 6 (pc' := 1661) (L' := [some (.retAddr 0), some (.ref 0), some (.ref 281), some (.int 0)]) (st' := [.int (xs 1), .ref 0]) rfl ?_
  refine g_call (ins := .invokevirtual 185) (len := 3) (j := 403) (as := [.ref 0, .int (xs 1)]) (rest := []) rfl rfl rfl rfl (fun _ => rfl) rfl ?_
  refine (x_op41 hF (xs 1)).mono (fun r S1 h => ?_)
  obtain ⟨⟨fs, ho⟩, m0, r2, S2, hm, v, rfl, rfl, hs⟩ := h
  refine g_n 6 (pc' := 1670) (L' := [some (.retAddr 0), some (.ref 0), some (.ref 281), some (.int 0)]) (st' := [.int (xs 1), .ref 281, .int v]) rfl ?_
  refine g_vcall (i := 188) (kd := 3) (j := 743) (np := 1) (ci := 12) (rest := [.int v]) rfl rfl (Or.inl rfl) (by simp) rfl rfl ho rfl rfl ?_
  refine ⟨m0, some (.int v), S2, hm, ?_⟩
  refine g_brT (c := v = v) (t := 1847) (f := 1676) (L' := [some (.retAddr 0), some (.ref 0), some (.ref 281), some (.int 0)]) (st' := []) rfl rfl ?_
  exact x_lawend ⟨rfl, hs⟩
set_option maxRecDepth 100000 in
theorem x_law42 {xs : Nat → Int32} {fi : Nat → Nat → Int32} {fl : Nat → Nat → Int64} {fr : Nat → Nat → Option Nat} (hF : x_F fl fr) : x_go 30 (some (6, xs)) x_ML 1678 [some (.retAddr 0), some (.ref 0), some (.ref 281), some (.int 0)] [] (x_W fi fl fr) fun r S => r = some (.int 1) ∧ x_sv (x_W fi fl fr) S := by
  refine g_n 16 (pc' := 1694) (L' := [some (.retAddr 0), some (.ref 0), some (.ref 281), some (.int 0)]) (st' := [.int (xs 3), .int (xs 2), .int (xs 1), .ref 0]) rfl ?_
  refine g_call (ins := .invokevirtual 189) (len := 3) (j := 404) (as := [.ref 0, .int (xs 1), .int (xs 2), .int (xs 3)]) (rest := []) rfl rfl rfl rfl (fun _ => rfl) rfl ?_
  refine (x_op42 hF (xs 1) (xs 2) (xs 3)).mono (fun r S1 h => ?_)
  obtain ⟨⟨fs, ho⟩, m0, r2, S2, hm, v, rfl, rfl, hs⟩ := h
  refine g_n 16 (pc' := 1713) (L' := [some (.retAddr 0), some (.ref 0), some (.ref 281), some (.int 0)]) (st' := [.int (xs 3), .int (xs 2), .int (xs 1), .ref 281, .int v]) rfl ?_
  refine g_vcall (i := 192) (kd := 3) (j := 745) (np := 3) (ci := 12) (rest := [.int v]) rfl rfl (Or.inl rfl) (by simp) rfl rfl ho rfl rfl ?_
  refine ⟨m0, some (.int v), S2, hm, ?_⟩
  refine g_brT (c := v = v) (t := 1847) (f := 1719) (L' := [some (.retAddr 0), some (.ref 0), some (.ref 281), some (.int 0)]) (st' := []) rfl rfl ?_
  exact x_lawend ⟨rfl, hs⟩
set_option maxRecDepth 100000 in
theorem x_law43 {xs : Nat → Int32} {fi : Nat → Nat → Int32} {fl : Nat → Nat → Int64} {fr : Nat → Nat → Option Nat} (hF : x_F fl fr) : x_go 30 (some (6, xs)) x_ML 1721 [some (.retAddr 0), some (.ref 0), some (.ref 281), some (.int 0)] [] (x_W fi fl fr) fun r S => r = some (.int 1) ∧ x_sv (x_W fi fl fr) S := by
  refine g_n 16 (pc' := 1737) (L' := [some (.retAddr 0), some (.ref 0), some (.ref 281), some (.int 0)]) (st' := [.int (xs 3), .int (xs 2), .int (xs 1), .ref 0]) rfl ?_
  refine g_call (ins := .invokevirtual 193) (len := 3) (j := 405) (as := [.ref 0, .int (xs 1), .int (xs 2), .int (xs 3)]) (rest := []) rfl rfl rfl rfl (fun _ => rfl) rfl ?_
  refine (x_op43 hF (xs 1) (xs 2) (xs 3)).mono (fun r S1 h => ?_)
  obtain ⟨⟨fs, ho⟩, m0, r2, S2, hm, v, rfl, rfl, hs⟩ := h
  refine g_n 16 (pc' := 1756) (L' := [some (.retAddr 0), some (.ref 0), some (.ref 281), some (.int 0)]) (st' := [.int (xs 3), .int (xs 2), .int (xs 1), .ref 281, .int v]) rfl ?_
  refine g_vcall (i := 196) (kd := 3) (j := 746) (np := 3) (ci := 12) (rest := [.int v]) rfl rfl (Or.inl rfl) (by simp) rfl rfl ho rfl rfl ?_
  refine ⟨m0, some (.int v), S2, hm, ?_⟩
  refine g_brT (c := v = v) (t := 1847) (f := 1762) (L' := [some (.retAddr 0), some (.ref 0), some (.ref 281), some (.int 0)]) (st' := []) rfl rfl ?_
  exact x_lawend ⟨rfl, hs⟩
set_option maxRecDepth 100000 in
theorem x_law44 {xs : Nat → Int32} {fi : Nat → Nat → Int32} {fl : Nat → Nat → Int64} {fr : Nat → Nat → Option Nat} (hF : x_F fl fr) : x_go 30 (some (6, xs)) x_ML 1764 [some (.retAddr 0), some (.ref 0), some (.ref 281), some (.int 0)] [] (x_W fi fl fr) fun r S => r = some (.int 1) ∧ x_sv (x_W fi fl fr) S := by
  refine g_n 6 (pc' := 1770) (L' := [some (.retAddr 0), some (.ref 0), some (.ref 281), some (.int 0)]) (st' := [.int (xs 1), .ref 0]) rfl ?_
  refine g_call (ins := .invokevirtual 197) (len := 3) (j := 406) (as := [.ref 0, .int (xs 1)]) (rest := []) rfl rfl rfl rfl (fun _ => rfl) rfl ?_
  refine (x_op44 hF (xs 1)).mono (fun r S1 h => ?_)
  obtain ⟨⟨fs, ho⟩, m0, r2, S2, hm, v, rfl, rfl, hs⟩ := h
  refine g_n 6 (pc' := 1779) (L' := [some (.retAddr 0), some (.ref 0), some (.ref 281), some (.int 0)]) (st' := [.int (xs 1), .ref 281, .long v]) rfl ?_
  refine g_vcall (i := 201) (kd := 3) (j := 747) (np := 1) (ci := 12) (rest := [.long v]) rfl rfl (Or.inl rfl) (by simp) rfl rfl ho rfl rfl ?_
  refine ⟨m0, some (.long v), S2, hm, ?_⟩
  refine g_n 1 (pc' := 1783) (L' := [some (.retAddr 0), some (.ref 0), some (.ref 281), some (.int 0)]) (st' := [.int (lg_cmp v v)]) rfl ?_
  refine g_brT (c := lg_cmp v v = 0) (t := 1847) (f := 1786) (L' := [some (.retAddr 0), some (.ref 0), some (.ref 281), some (.int 0)]) (st' := []) rfl (x_cmp_self v) ?_
  exact x_lawend ⟨rfl, hs⟩
set_option maxRecDepth 100000 in
theorem x_law45 {xs : Nat → Int32} {fi : Nat → Nat → Int32} {fl : Nat → Nat → Int64} {fr : Nat → Nat → Option Nat} (hF : x_F fl fr) : x_go 30 (some (6, xs)) x_ML 1788 [some (.retAddr 0), some (.ref 0), some (.ref 281), some (.int 0)] [] (x_W fi fl fr) fun r S => r = some (.int 1) ∧ x_sv (x_W fi fl fr) S := by
  refine g_n 6 (pc' := 1794) (L' := [some (.retAddr 0), some (.ref 0), some (.ref 281), some (.int 0)]) (st' := [.int (xs 1), .ref 0]) rfl ?_
  refine g_call (ins := .invokevirtual 202) (len := 3) (j := 407) (as := [.ref 0, .int (xs 1)]) (rest := []) rfl rfl rfl rfl (fun _ => rfl) rfl ?_
  refine (x_op45 hF (xs 1)).mono (fun r S1 h => ?_)
  obtain ⟨⟨fs, ho⟩, m0, r2, S2, hm, v, rfl, rfl, hs⟩ := h
  refine g_n 6 (pc' := 1803) (L' := [some (.retAddr 0), some (.ref 0), some (.ref 281), some (.int 0)]) (st' := [.int (xs 1), .ref 281, .int v]) rfl ?_
  refine g_vcall (i := 205) (kd := 3) (j := 748) (np := 1) (ci := 12) (rest := [.int v]) rfl rfl (Or.inl rfl) (by simp) rfl rfl ho rfl rfl ?_
  refine ⟨m0, some (.int v), S2, hm, ?_⟩
  refine g_brT (c := v = v) (t := 1847) (f := 1809) (L' := [some (.retAddr 0), some (.ref 0), some (.ref 281), some (.int 0)]) (st' := []) rfl rfl ?_
  exact x_lawend ⟨rfl, hs⟩
set_option maxRecDepth 100000 in
theorem x_law46 {xs : Nat → Int32} {fi : Nat → Nat → Int32} {fl : Nat → Nat → Int64} {fr : Nat → Nat → Option Nat} (hF : x_F fl fr) : x_go 30 (some (6, xs)) x_ML 1811 [some (.retAddr 0), some (.ref 0), some (.ref 281), some (.int 0)] [] (x_W fi fl fr) fun r S => r = some (.int 1) ∧ x_sv (x_W fi fl fr) S := by
  refine g_n 1 (pc' := 1812) (L' := [some (.retAddr 0), some (.ref 0), some (.ref 281), some (.int 0)]) (st' := [.ref 0]) rfl ?_
  refine g_call (ins := .invokevirtual 206) (len := 3) (j := 408) (as := [.ref 0]) (rest := []) rfl rfl rfl rfl (fun _ => rfl) rfl ?_
  refine (x_op46 hF).mono (fun r S1 h => ?_)
  obtain ⟨⟨fs, ho⟩, m0, r2, S2, hm, v, rfl, rfl, hs⟩ := h
  refine g_n 1 (pc' := 1816) (L' := [some (.retAddr 0), some (.ref 0), some (.ref 281), some (.int 0)]) (st' := [.ref 281, .int v]) rfl ?_
  refine g_vcall (i := 209) (kd := 3) (j := 749) (np := 0) (ci := 12) (rest := [.int v]) rfl rfl (Or.inl rfl) (by simp) rfl rfl ho rfl rfl ?_
  refine ⟨m0, some (.int v), S2, hm, ?_⟩
  refine g_brT (c := v = v) (t := 1847) (f := 1822) (L' := [some (.retAddr 0), some (.ref 0), some (.ref 281), some (.int 0)]) (st' := []) rfl rfl ?_
  exact x_lawend ⟨rfl, hs⟩
set_option maxRecDepth 100000 in
theorem x_law47 {xs : Nat → Int32} {fi : Nat → Nat → Int32} {fl : Nat → Nat → Int64} {fr : Nat → Nat → Option Nat} (hF : x_F fl fr) : x_go 30 (some (6, xs)) x_ML 1824 [some (.retAddr 0), some (.ref 0), some (.ref 281), some (.int 0)] [] (x_W fi fl fr) fun r S => r = some (.int 1) ∧ x_sv (x_W fi fl fr) S := by
  refine g_n 6 (pc' := 1830) (L' := [some (.retAddr 0), some (.ref 0), some (.ref 281), some (.int 0)]) (st' := [.int (xs 1), .ref 0]) rfl ?_
  refine g_call (ins := .invokevirtual 210) (len := 3) (j := 409) (as := [.ref 0, .int (xs 1)]) (rest := []) rfl rfl rfl rfl (fun _ => rfl) rfl ?_
  refine (x_op47 hF (xs 1)).mono (fun r S1 h => ?_)
  obtain ⟨⟨fs, ho⟩, m0, r2, S2, hm, v, rfl, rfl, hs⟩ := h
  refine g_n 6 (pc' := 1839) (L' := [some (.retAddr 0), some (.ref 0), some (.ref 281), some (.int 0)]) (st' := [.int (xs 1), .ref 281, .int v]) rfl ?_
  refine g_vcall (i := 213) (kd := 3) (j := 750) (np := 1) (ci := 12) (rest := [.int v]) rfl rfl (Or.inl rfl) (by simp) rfl rfl ho rfl rfl ?_
  refine ⟨m0, some (.int v), S2, hm, ?_⟩
  refine g_brT (c := v = v) (t := 1847) (f := 1845) (L' := [some (.retAddr 0), some (.ref 0), some (.ref 281), some (.int 0)]) (st' := []) rfl rfl ?_
  exact x_lawend ⟨rfl, hs⟩
set_option maxRecDepth 100000 in
theorem x_lawstart {L : Nat} {xs : Nat → Int32} {Q : Option Value → xS → Prop} (k : ∀ fi fl fr, x_F fl fr → x_go 30 (some (L, xs)) x_ML 18 [some (.retAddr 0), some (.ref 0), some (.ref 281), some (.int 0)] [] (x_W fi fl fr) Q) : x_go 30 (some (L, xs)) x_ML 0 [some (.retAddr 0), none, none, none] [] [] Q := by
  refine g_n 2 (pc' := 4) (L' := [some (.retAddr 0), none, none, none]) (st' := [.ref 0, .ref 0]) (S' := [.inl (11, x_df11)]) rfl ?_
  refine g_call (ins := .invokespecial 9) (len := 3) (j := 346) (as := [.ref 0]) (rest := [.ref 0]) rfl rfl rfl rfl (fun _ => rfl) rfl ?_
  refine x_fresh (fun fi fl fr hF => ?_)
  refine g_n 3 (pc' := 12) (L' := [some (.retAddr 0), some (.ref 0), none, none]) (st' := [.ref 281, .ref 281]) (S' := x_CW fi fl fr ++ [.inl (12, x_df12)]) rfl ?_
  refine g_call (ins := .invokespecial 12) (len := 3) (j := 410) (as := [.ref 281]) (rest := [.ref 281]) rfl rfl rfl rfl (fun _ => rfl) rfl ?_
  refine x_minit (S0 := x_CW fi fl fr) rfl ?_
  refine g_n 3 (pc' := 18) (L' := [some (.retAddr 0), some (.ref 0), some (.ref 281), some (.int 0)]) (st' := []) (S' := x_W fi fl fr) rfl ?_
  exact k fi fl fr hF
theorem x_law_short {n : Nat} {xs : Nat → Int32} (hn : n < 6) : x_go 30 (some (n, xs)) x_ML 0 [some (.retAddr 0), none, none, none] [] [] fun r S => r = some (.int 1) ∧ ∃ fi fl fr, x_sv (x_W fi fl fr) S := by
  refine x_lawstart (fun fi fl fr hF => ?_)
  match n, hn with
  | 0, _ =>
    refine g_n 7 (pc' := 1854) (L' := [some (.retAddr 0), some (.ref 0), some (.ref 281), some (.int 0)]) (st' := [.int 1]) rfl ?_
    exact g_ret (ins := .ireturn) (len := 1) (r := some (.int 1)) rfl rfl rfl ⟨rfl, fi, fl, fr, x_sv_rf _⟩
  | 1, _ =>
    refine g_n 7 (pc' := 1854) (L' := [some (.retAddr 0), some (.ref 0), some (.ref 281), some (.int 0)]) (st' := [.int 1]) rfl ?_
    exact g_ret (ins := .ireturn) (len := 1) (r := some (.int 1)) rfl rfl rfl ⟨rfl, fi, fl, fr, x_sv_rf _⟩
  | 2, _ =>
    refine g_n 7 (pc' := 1854) (L' := [some (.retAddr 0), some (.ref 0), some (.ref 281), some (.int 0)]) (st' := [.int 1]) rfl ?_
    exact g_ret (ins := .ireturn) (len := 1) (r := some (.int 1)) rfl rfl rfl ⟨rfl, fi, fl, fr, x_sv_rf _⟩
  | 3, _ =>
    refine g_n 7 (pc' := 1854) (L' := [some (.retAddr 0), some (.ref 0), some (.ref 281), some (.int 0)]) (st' := [.int 1]) rfl ?_
    exact g_ret (ins := .ireturn) (len := 1) (r := some (.int 1)) rfl rfl rfl ⟨rfl, fi, fl, fr, x_sv_rf _⟩
  | 4, _ =>
    refine g_n 7 (pc' := 1854) (L' := [some (.retAddr 0), some (.ref 0), some (.ref 281), some (.int 0)]) (st' := [.int 1]) rfl ?_
    exact g_ret (ins := .ireturn) (len := 1) (r := some (.int 1)) rfl rfl rfl ⟨rfl, fi, fl, fr, x_sv_rf _⟩
  | 5, _ =>
    refine g_n 7 (pc' := 1854) (L' := [some (.retAddr 0), some (.ref 0), some (.ref 281), some (.int 0)]) (st' := [.int 1]) rfl ?_
    exact g_ret (ins := .ireturn) (len := 1) (r := some (.int 1)) rfl rfl rfl ⟨rfl, fi, fl, fr, x_sv_rf _⟩
theorem x_law_one {xs : Nat → Int32} : x_go 30 (some (6, xs)) x_ML 0 [some (.retAddr 0), none, none, none] [] [] fun r S => r = some (.int 1) ∧ ∃ fi fl fr, x_sv (x_W fi fl fr) S := by
  refine x_lawstart (fun fi fl fr hF => ?_)
  have hz : x_go 30 (some (6, xs)) x_ML 18 [some (.retAddr 0), some (.ref 0), some (.ref 281), some (.int 0)] [] (x_W fi fl fr) (fun r S => r = some (.int 1) ∧ x_sv (x_W fi fl fr) S) := by
    refine g_n 11 (pc' := 33) (L' := [some (.retAddr 0), some (.ref 0), some (.ref 281), some (.int 0)]) (st' := [.int (xs 0 &&& 63)]) rfl ?_
    obtain ⟨p0, p63⟩ := x_and63 (xs 0)
    generalize xs 0 &&& 63 = v at p0 p63 ⊢
    by_cases hb : (47 : Int32) < v
    · have q : 48 ≤ v.toInt := x_lo_lt hb (by decide)
      refine g_swd (pc' := 1847) rfl (Or.inr (by omega)) rfl ?_
      exact x_lawend ⟨rfl, x_sv_rf _⟩
    have u : v.toInt ≤ 47 := x_up_le (x_nlt hb) (by decide)
    by_cases c0 : v = 0
    · subst c0
      refine g_n 1 (pc' := 240) (L' := [some (.retAddr 0), some (.ref 0), some (.ref 281), some (.int 0)]) (st' := []) rfl ?_
      exact x_law0 hF
    have l0 : 1 ≤ v.toInt := x_lo_ne c0 p0 (by decide)
    by_cases c1 : v = 1
    · subst c1
      refine g_n 1 (pc' := 303) (L' := [some (.retAddr 0), some (.ref 0), some (.ref 281), some (.int 0)]) (st' := []) rfl ?_
      exact x_law1 hF
    have l1 : 2 ≤ v.toInt := x_lo_ne c1 l0 (by decide)
    by_cases c2 : v = 2
    · subst c2
      refine g_n 1 (pc' := 326) (L' := [some (.retAddr 0), some (.ref 0), some (.ref 281), some (.int 0)]) (st' := []) rfl ?_
      exact x_law2 hF
    have l2 : 3 ≤ v.toInt := x_lo_ne c2 l1 (by decide)
    by_cases c3 : v = 3
    · subst c3
      refine g_n 1 (pc' := 349) (L' := [some (.retAddr 0), some (.ref 0), some (.ref 281), some (.int 0)]) (st' := []) rfl ?_
      exact x_law3 hF
    have l3 : 4 ≤ v.toInt := x_lo_ne c3 l2 (by decide)
    by_cases c4 : v = 4
    · subst c4
      refine g_n 1 (pc' := 372) (L' := [some (.retAddr 0), some (.ref 0), some (.ref 281), some (.int 0)]) (st' := []) rfl ?_
      exact x_law4 hF
    have l4 : 5 ≤ v.toInt := x_lo_ne c4 l3 (by decide)
    by_cases c5 : v = 5
    · subst c5
      refine g_n 1 (pc' := 395) (L' := [some (.retAddr 0), some (.ref 0), some (.ref 281), some (.int 0)]) (st' := []) rfl ?_
      exact x_law5 hF
    have l5 : 6 ≤ v.toInt := x_lo_ne c5 l4 (by decide)
    by_cases c6 : v = 6
    · subst c6
      refine g_n 1 (pc' := 428) (L' := [some (.retAddr 0), some (.ref 0), some (.ref 281), some (.int 0)]) (st' := []) rfl ?_
      exact x_law6 hF
    have l6 : 7 ≤ v.toInt := x_lo_ne c6 l5 (by decide)
    by_cases c7 : v = 7
    · subst c7
      refine g_n 1 (pc' := 471) (L' := [some (.retAddr 0), some (.ref 0), some (.ref 281), some (.int 0)]) (st' := []) rfl ?_
      exact x_law7 hF
    have l7 : 8 ≤ v.toInt := x_lo_ne c7 l6 (by decide)
    by_cases c8 : v = 8
    · subst c8
      refine g_n 1 (pc' := 504) (L' := [some (.retAddr 0), some (.ref 0), some (.ref 281), some (.int 0)]) (st' := []) rfl ?_
      exact x_law8 hF
    have l8 : 9 ≤ v.toInt := x_lo_ne c8 l7 (by decide)
    by_cases c9 : v = 9
    · subst c9
      refine g_n 1 (pc' := 527) (L' := [some (.retAddr 0), some (.ref 0), some (.ref 281), some (.int 0)]) (st' := []) rfl ?_
      exact x_law9 hF
    have l9 : 10 ≤ v.toInt := x_lo_ne c9 l8 (by decide)
    by_cases c10 : v = 10
    · subst c10
      refine g_n 1 (pc' := 540) (L' := [some (.retAddr 0), some (.ref 0), some (.ref 281), some (.int 0)]) (st' := []) rfl ?_
      exact x_law10 hF
    have l10 : 11 ≤ v.toInt := x_lo_ne c10 l9 (by decide)
    by_cases c11 : v = 11
    · subst c11
      refine g_n 1 (pc' := 573) (L' := [some (.retAddr 0), some (.ref 0), some (.ref 281), some (.int 0)]) (st' := []) rfl ?_
      exact x_law11 hF
    have l11 : 12 ≤ v.toInt := x_lo_ne c11 l10 (by decide)
    by_cases c12 : v = 12
    · subst c12
      refine g_n 1 (pc' := 616) (L' := [some (.retAddr 0), some (.ref 0), some (.ref 281), some (.int 0)]) (st' := []) rfl ?_
      exact x_law12 hF
    have l12 : 13 ≤ v.toInt := x_lo_ne c12 l11 (by decide)
    by_cases c13 : v = 13
    · subst c13
      refine g_n 1 (pc' := 669) (L' := [some (.retAddr 0), some (.ref 0), some (.ref 281), some (.int 0)]) (st' := []) rfl ?_
      exact x_law13 hF
    have l13 : 14 ≤ v.toInt := x_lo_ne c13 l12 (by decide)
    by_cases c14 : v = 14
    · subst c14
      refine g_n 1 (pc' := 732) (L' := [some (.retAddr 0), some (.ref 0), some (.ref 281), some (.int 0)]) (st' := []) rfl ?_
      exact x_law14 hF
    have l14 : 15 ≤ v.toInt := x_lo_ne c14 l13 (by decide)
    by_cases c15 : v = 15
    · subst c15
      refine g_n 1 (pc' := 785) (L' := [some (.retAddr 0), some (.ref 0), some (.ref 281), some (.int 0)]) (st' := []) rfl ?_
      exact x_law15 hF
    have l15 : 16 ≤ v.toInt := x_lo_ne c15 l14 (by decide)
    by_cases c16 : v = 16
    · subst c16
      refine g_n 1 (pc' := 818) (L' := [some (.retAddr 0), some (.ref 0), some (.ref 281), some (.int 0)]) (st' := []) rfl ?_
      exact x_law16 hF
    have l16 : 17 ≤ v.toInt := x_lo_ne c16 l15 (by decide)
    by_cases c17 : v = 17
    · subst c17
      refine g_n 1 (pc' := 862) (L' := [some (.retAddr 0), some (.ref 0), some (.ref 281), some (.int 0)]) (st' := []) rfl ?_
      exact x_law17 hF
    have l17 : 18 ≤ v.toInt := x_lo_ne c17 l16 (by decide)
    by_cases c18 : v = 18
    · subst c18
      refine g_n 1 (pc' := 895) (L' := [some (.retAddr 0), some (.ref 0), some (.ref 281), some (.int 0)]) (st' := []) rfl ?_
      exact x_law18 hF
    have l18 : 19 ≤ v.toInt := x_lo_ne c18 l17 (by decide)
    by_cases c19 : v = 19
    · subst c19
      refine g_n 1 (pc' := 928) (L' := [some (.retAddr 0), some (.ref 0), some (.ref 281), some (.int 0)]) (st' := []) rfl ?_
      exact x_law19 hF
    have l19 : 20 ≤ v.toInt := x_lo_ne c19 l18 (by decide)
    by_cases c20 : v = 20
    · subst c20
      refine g_n 1 (pc' := 961) (L' := [some (.retAddr 0), some (.ref 0), some (.ref 281), some (.int 0)]) (st' := []) rfl ?_
      exact x_law20 hF
    have l20 : 21 ≤ v.toInt := x_lo_ne c20 l19 (by decide)
    by_cases c21 : v = 21
    · subst c21
      refine g_n 1 (pc' := 994) (L' := [some (.retAddr 0), some (.ref 0), some (.ref 281), some (.int 0)]) (st' := []) rfl ?_
      exact x_law21 hF
    have l21 : 22 ≤ v.toInt := x_lo_ne c21 l20 (by decide)
    by_cases c22 : v = 22
    · subst c22
      refine g_n 1 (pc' := 1017) (L' := [some (.retAddr 0), some (.ref 0), some (.ref 281), some (.int 0)]) (st' := []) rfl ?_
      exact x_law22 hF
    have l22 : 23 ≤ v.toInt := x_lo_ne c22 l21 (by decide)
    by_cases c23 : v = 23
    · subst c23
      refine g_n 1 (pc' := 1050) (L' := [some (.retAddr 0), some (.ref 0), some (.ref 281), some (.int 0)]) (st' := []) rfl ?_
      exact x_law23 hF
    have l23 : 24 ≤ v.toInt := x_lo_ne c23 l22 (by decide)
    by_cases c24 : v = 24
    · subst c24
      refine g_n 1 (pc' := 1093) (L' := [some (.retAddr 0), some (.ref 0), some (.ref 281), some (.int 0)]) (st' := []) rfl ?_
      exact x_law24 hF
    have l24 : 25 ≤ v.toInt := x_lo_ne c24 l23 (by decide)
    by_cases c25 : v = 25
    · subst c25
      refine g_n 1 (pc' := 1156) (L' := [some (.retAddr 0), some (.ref 0), some (.ref 281), some (.int 0)]) (st' := []) rfl ?_
      exact x_law25 hF
    have l25 : 26 ≤ v.toInt := x_lo_ne c25 l24 (by decide)
    by_cases c26 : v = 26
    · subst c26
      refine g_n 1 (pc' := 1189) (L' := [some (.retAddr 0), some (.ref 0), some (.ref 281), some (.int 0)]) (st' := []) rfl ?_
      exact x_law26 hF
    have l26 : 27 ≤ v.toInt := x_lo_ne c26 l25 (by decide)
    by_cases c27 : v = 27
    · subst c27
      refine g_n 1 (pc' := 1203) (L' := [some (.retAddr 0), some (.ref 0), some (.ref 281), some (.int 0)]) (st' := []) rfl ?_
      exact x_law27 hF
    have l27 : 28 ≤ v.toInt := x_lo_ne c27 l26 (by decide)
    by_cases c28 : v = 28
    · subst c28
      refine g_n 1 (pc' := 1226) (L' := [some (.retAddr 0), some (.ref 0), some (.ref 281), some (.int 0)]) (st' := []) rfl ?_
      exact x_law28 hF
    have l28 : 29 ≤ v.toInt := x_lo_ne c28 l27 (by decide)
    by_cases c29 : v = 29
    · subst c29
      refine g_n 1 (pc' := 1249) (L' := [some (.retAddr 0), some (.ref 0), some (.ref 281), some (.int 0)]) (st' := []) rfl ?_
      exact x_law29 hF
    have l29 : 30 ≤ v.toInt := x_lo_ne c29 l28 (by decide)
    by_cases c30 : v = 30
    · subst c30
      refine g_n 1 (pc' := 1282) (L' := [some (.retAddr 0), some (.ref 0), some (.ref 281), some (.int 0)]) (st' := []) rfl ?_
      exact x_law30 hF
    have l30 : 31 ≤ v.toInt := x_lo_ne c30 l29 (by decide)
    by_cases c31 : v = 31
    · subst c31
      refine g_n 1 (pc' := 1315) (L' := [some (.retAddr 0), some (.ref 0), some (.ref 281), some (.int 0)]) (st' := []) rfl ?_
      exact x_law31 hF
    have l31 : 32 ≤ v.toInt := x_lo_ne c31 l30 (by decide)
    by_cases c32 : v = 32
    · subst c32
      refine g_n 1 (pc' := 1348) (L' := [some (.retAddr 0), some (.ref 0), some (.ref 281), some (.int 0)]) (st' := []) rfl ?_
      exact x_law32 hF
    have l32 : 33 ≤ v.toInt := x_lo_ne c32 l31 (by decide)
    by_cases c33 : v = 33
    · subst c33
      refine g_n 1 (pc' := 1411) (L' := [some (.retAddr 0), some (.ref 0), some (.ref 281), some (.int 0)]) (st' := []) rfl ?_
      exact x_law33 hF
    have l33 : 34 ≤ v.toInt := x_lo_ne c33 l32 (by decide)
    by_cases c34 : v = 34
    · subst c34
      refine g_n 1 (pc' := 1424) (L' := [some (.retAddr 0), some (.ref 0), some (.ref 281), some (.int 0)]) (st' := []) rfl ?_
      exact x_law34 hF
    have l34 : 35 ≤ v.toInt := x_lo_ne c34 l33 (by decide)
    by_cases c35 : v = 35
    · subst c35
      refine g_n 1 (pc' := 1467) (L' := [some (.retAddr 0), some (.ref 0), some (.ref 281), some (.int 0)]) (st' := []) rfl ?_
      exact x_law35 hF
    have l35 : 36 ≤ v.toInt := x_lo_ne c35 l34 (by decide)
    by_cases c36 : v = 36
    · subst c36
      refine g_n 1 (pc' := 1510) (L' := [some (.retAddr 0), some (.ref 0), some (.ref 281), some (.int 0)]) (st' := []) rfl ?_
      exact x_law36 hF
    have l36 : 37 ≤ v.toInt := x_lo_ne c36 l35 (by decide)
    by_cases c37 : v = 37
    · subst c37
      refine g_n 1 (pc' := 1553) (L' := [some (.retAddr 0), some (.ref 0), some (.ref 281), some (.int 0)]) (st' := []) rfl ?_
      exact x_law37 hF
    have l37 : 38 ≤ v.toInt := x_lo_ne c37 l36 (by decide)
    by_cases c38 : v = 38
    · subst c38
      refine g_n 1 (pc' := 1586) (L' := [some (.retAddr 0), some (.ref 0), some (.ref 281), some (.int 0)]) (st' := []) rfl ?_
      exact x_law38 hF
    have l38 : 39 ≤ v.toInt := x_lo_ne c38 l37 (by decide)
    by_cases c39 : v = 39
    · subst c39
      refine g_n 1 (pc' := 1609) (L' := [some (.retAddr 0), some (.ref 0), some (.ref 281), some (.int 0)]) (st' := []) rfl ?_
      exact x_law39 hF
    have l39 : 40 ≤ v.toInt := x_lo_ne c39 l38 (by decide)
    by_cases c40 : v = 40
    · subst c40
      refine g_n 1 (pc' := 1632) (L' := [some (.retAddr 0), some (.ref 0), some (.ref 281), some (.int 0)]) (st' := []) rfl ?_
      exact x_law40 hF
    have l40 : 41 ≤ v.toInt := x_lo_ne c40 l39 (by decide)
    by_cases c41 : v = 41
    · subst c41
      refine g_n 1 (pc' := 1655) (L' := [some (.retAddr 0), some (.ref 0), some (.ref 281), some (.int 0)]) (st' := []) rfl ?_
      exact x_law41 hF
    have l41 : 42 ≤ v.toInt := x_lo_ne c41 l40 (by decide)
    by_cases c42 : v = 42
    · subst c42
      refine g_n 1 (pc' := 1678) (L' := [some (.retAddr 0), some (.ref 0), some (.ref 281), some (.int 0)]) (st' := []) rfl ?_
      exact x_law42 hF
    have l42 : 43 ≤ v.toInt := x_lo_ne c42 l41 (by decide)
    by_cases c43 : v = 43
    · subst c43
      refine g_n 1 (pc' := 1721) (L' := [some (.retAddr 0), some (.ref 0), some (.ref 281), some (.int 0)]) (st' := []) rfl ?_
      exact x_law43 hF
    have l43 : 44 ≤ v.toInt := x_lo_ne c43 l42 (by decide)
    by_cases c44 : v = 44
    · subst c44
      refine g_n 1 (pc' := 1764) (L' := [some (.retAddr 0), some (.ref 0), some (.ref 281), some (.int 0)]) (st' := []) rfl ?_
      exact x_law44 hF
    have l44 : 45 ≤ v.toInt := x_lo_ne c44 l43 (by decide)
    by_cases c45 : v = 45
    · subst c45
      refine g_n 1 (pc' := 1788) (L' := [some (.retAddr 0), some (.ref 0), some (.ref 281), some (.int 0)]) (st' := []) rfl ?_
      exact x_law45 hF
    have l45 : 46 ≤ v.toInt := x_lo_ne c45 l44 (by decide)
    by_cases c46 : v = 46
    · subst c46
      refine g_n 1 (pc' := 1811) (L' := [some (.retAddr 0), some (.ref 0), some (.ref 281), some (.int 0)]) (st' := []) rfl ?_
      exact x_law46 hF
    have l46 : 47 ≤ v.toInt := x_lo_ne c46 l45 (by decide)
    have c47 : v = 47 := x_sing l46 u (by decide)
    subst c47
    refine g_n 1 (pc' := 1824) (L' := [some (.retAddr 0), some (.ref 0), some (.ref 281), some (.int 0)]) (st' := []) rfl ?_
    exact x_law47 hF
  exact hz.mono (fun r S h => ⟨h.1, fi, fl, fr, h.2⟩)
theorem x_p1 {n : Nat} {xs : Nat → Int32} (hn : n ≤ 6) : ∃ (k : Nat) (SF : xS), x_run x_df (some (n, xs)) (x_do x_df x_MT k 30) x_ML k 0 [some (.retAddr 0), none, none, none] [] [] = some (some (.int 1), SF) ∧ SF.length ≤ 600000 ∧ x_slots SF ≤ 7302250 := by
  have h : x_go 30 (some (n, xs)) x_ML 0 [some (.retAddr 0), none, none, none] [] [] fun r S => r = some (.int 1) ∧ ∃ fi fl fr, x_sv (x_W fi fl fr) S := by
    by_cases h6 : n < 6
    · exact x_law_short h6
    · obtain rfl : n = 6 := by omega
      exact x_law_one
  obtain ⟨m0, n0, r, SF, hr, rfl, fi, fl, fr, h1, h2⟩ := h
  refine ⟨max m0 n0, SF, hr _ _ (by omega) (by omega), ?_, ?_⟩
  · rw [h1, x_W_len]; decide
  · rw [h2, x_W_slots]; decide
