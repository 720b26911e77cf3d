/-! First calls on the fresh objects. -/
set_option maxRecDepth 100000 in
set_option maxHeartbeats 4000000 in
theorem x_op1 {fi : Nat → Nat → Int32} {fl : Nat → Nat → Int64} {fr : Nat → Nat → Option Nat} (hF : x_F fl fr) (a : Int32) : x_ev 30 353 [.ref 0, .int a] (x_W fi fl fr) fun r S1 => (∃ fs, x_obj S1 281 = some (12, fs)) ∧ x_ev 30 414 [.ref 281, .int a] S1 (x_finI (x_W fi fl fr) r) := by
  refine g_in (M := x_M353) (L := [some (.ref 0), some (.int a)]) x_pl353 rfl ?_
  refine g_n 1 (pc' := 1) (L' := [some (.ref 0), some (.int a)]) (st' := [.int a]) rfl ?_
  refine g_br (c := a < (0 : Int32)) (t := 15) (f := 4) (L' := [some (.ref 0), some (.int a)]) (st' := []) rfl (fun h1 => ?_) (fun h1 => ?_)
  · have p2 : a.toInt ≤ -1 := x_up_lt h1 (by decide)
    refine g_n 1 (pc' := 16) (L' := [some (.ref 0), some (.int a)]) (st' := [.int (-1)]) rfl ?_
    refine g_ret (ins := .ireturn) (len := 1) (r := (some (.int (-1)))) rfl rfl rfl ?_
    refine ⟨⟨_, rfl⟩, ?_⟩
    refine g_in (M := x_M414) (L := [some (.ref 281), some (.int a)]) x_pl414 rfl ?_
    refine g_n 1 (pc' := 1) (L' := [some (.ref 281), some (.int a)]) (st' := [.int a]) rfl ?_
    refine g_brT (c := a < (0 : Int32)) (t := 12) (f := 4) (L' := [some (.ref 281), some (.int a)]) (st' := []) rfl (x_Tlt (u := -1) (l := 0) p2 (by decide) (by decide)) ?_
    refine g_n 1 (pc' := 13) (L' := [some (.ref 281), some (.int a)]) (st' := [.int (-1)]) rfl ?_
    exact g_ret (ins := .ireturn) (len := 1) (r := (some (.int (-1)))) rfl rfl rfl ⟨_, rfl, rfl, (x_sv_rf _)⟩
  · have p3 : 0 ≤ a.toInt := x_lo_le (x_nlt h1) (by decide)
    refine g_n 4 (pc' := 12) (L' := [some (.ref 0), some (.int a)]) (st' := [.int 0, .int a]) rfl ?_
    refine g_br (c := a ≤ (0 : Int32)) (t := 17) (f := 15) (L' := [some (.ref 0), some (.int a)]) (st' := []) rfl (fun h4 => ?_) (fun h4 => ?_)
    · have p5 : a.toInt ≤ 0 := x_up_le h4 (by decide)
      have e6 : a = 0 := x_sing p3 p5 (by decide)
      subst e6
      refine g_n 10 (pc' := 37) (L' := [some (.ref 0), some (.int 0)]) (st' := [.int 0]) rfl ?_
      refine g_ret (ins := .ireturn) (len := 1) (r := (some (.int 0))) rfl rfl rfl ?_
      refine ⟨⟨_, (x_obj_ne (by decide)).trans (rfl)⟩, ?_⟩
      refine g_in (M := x_M414) (L := [some (.ref 281), some (.int 0)]) x_pl414 rfl ?_
      refine g_n 14 (pc' := 28) (L' := [some (.ref 281), some (.int 0)]) (st' := [.int 0]) rfl ?_
      exact g_ret (ins := .ireturn) (len := 1) (r := (some (.int 0))) rfl rfl rfl ⟨_, rfl, rfl, (x_sv_set (x_sv_set (x_sv_rf _) rfl rfl) rfl rfl)⟩
    · have p7 : 1 ≤ a.toInt := x_lo_lt (x_nle h4) (by decide)
      refine g_n 1 (pc' := 16) (L' := [some (.ref 0), some (.int a)]) (st' := [.int (-1)]) rfl ?_
      refine g_ret (ins := .ireturn) (len := 1) (r := (some (.int (-1)))) rfl rfl rfl ?_
      refine ⟨⟨_, rfl⟩, ?_⟩
      refine g_in (M := x_M414) (L := [some (.ref 281), some (.int a)]) x_pl414 rfl ?_
      refine g_n 1 (pc' := 1) (L' := [some (.ref 281), some (.int a)]) (st' := [.int a]) rfl ?_
      refine g_brF (c := a < (0 : Int32)) (t := 12) (f := 4) (L' := [some (.ref 281), some (.int a)]) (st' := []) rfl (x_Flt (l := 1) (u := 0) p7 (by decide) (by decide)) ?_
      refine g_n 3 (pc' := 9) (L' := [some (.ref 281), some (.int a)]) (st' := [.int 0, .int a]) rfl ?_
      refine g_brF (c := a ≤ (0 : Int32)) (t := 14) (f := 12) (L' := [some (.ref 281), some (.int a)]) (st' := []) rfl (x_Fle (l := 1) (u := 0) p7 (by decide) (by decide)) ?_
      refine g_n 1 (pc' := 13) (L' := [some (.ref 281), some (.int a)]) (st' := [.int (-1)]) rfl ?_
      exact g_ret (ins := .ireturn) (len := 1) (r := (some (.int (-1)))) rfl rfl rfl ⟨_, rfl, rfl, (x_sv_rf _)⟩
set_option maxRecDepth 100000 in
set_option maxHeartbeats 4000000 in
theorem x_op2 {fi : Nat → Nat → Int32} {fl : Nat → Nat → Int64} {fr : Nat → Nat → Option Nat} (hF : x_F fl fr) (a : Int32) : x_ev 30 354 [.ref 0, .int a] (x_W fi fl fr) fun r S1 => (∃ fs, x_obj S1 281 = some (12, fs)) ∧ x_ev 30 415 [.ref 281, .int a] S1 (x_finI (x_W fi fl fr) r) := by
  refine g_in (M := x_M354) (L := [some (.ref 0), some (.int a)]) x_pl354 rfl ?_
  refine g_n 1 (pc' := 1) (L' := [some (.ref 0), some (.int a)]) (st' := [.int a]) rfl ?_
  refine g_call (ins := .invokestatic 150) (len := 3) (j := 347) (as := [.int a]) (rest := []) rfl rfl rfl rfl (fun _ => rfl) rfl ?_
  refine g_in (M := x_M347) (L := [some (.int a)]) x_pl347 rfl ?_
  refine g_n 1 (pc' := 1) (L' := [some (.int a)]) (st' := [.int a]) rfl ?_
  refine g_br (c := a < (0 : Int32)) (t := 14) (f := 4) (L' := [some (.int a)]) (st' := []) rfl (fun h1 => ?_) (fun h1 => ?_)
  · have p2 : a.toInt ≤ -1 := x_up_lt h1 (by decide)
    refine g_n 1 (pc' := 15) (L' := [some (.int a)]) (st' := [.int 0]) rfl ?_
    refine g_ret (ins := .ireturn) (len := 1) (r := (some (.int 0))) rfl rfl rfl ?_
    refine g_n 2 (pc' := 8) (L' := [some (.ref 0), some (.int a)]) (st' := [.int (-1)]) rfl ?_
    refine g_ret (ins := .ireturn) (len := 1) (r := (some (.int (-1)))) rfl rfl rfl ?_
    refine ⟨⟨_, rfl⟩, ?_⟩
    refine g_in (M := x_M415) (L := [some (.ref 281), some (.int a), none]) x_pl415 rfl ?_
    refine g_n 2 (pc' := 2) (L' := [some (.ref 281), some (.int a), none]) (st' := [.int a, .ref 281]) rfl ?_
    refine g_call (ins := .invokevirtual 671) (len := 3) (j := 411) (as := [.ref 281, .int a]) (rest := []) rfl rfl rfl rfl (fun _ => rfl) rfl ?_
    refine g_in (M := x_M411) (L := [some (.ref 281), some (.int a)]) x_pl411 rfl ?_
    refine g_n 1 (pc' := 1) (L' := [some (.ref 281), some (.int a)]) (st' := [.int a]) rfl ?_
    refine g_brT (c := a < (0 : Int32)) (t := 14) (f := 4) (L' := [some (.ref 281), some (.int a)]) (st' := []) rfl (x_Tlt (u := -1) (l := 0) p2 (by decide) (by decide)) ?_
    refine g_n 1 (pc' := 15) (L' := [some (.ref 281), some (.int a)]) (st' := [.int 0]) rfl ?_
    refine g_ret (ins := .ireturn) (len := 1) (r := (some (.int 0))) rfl rfl rfl ?_
    refine g_n 2 (pc' := 9) (L' := [some (.ref 281), some (.int a), none]) (st' := [.int (-1)]) rfl ?_
    exact g_ret (ins := .ireturn) (len := 1) (r := (some (.int (-1)))) rfl rfl rfl ⟨_, rfl, rfl, (x_sv_rf _)⟩
  · have p3 : 0 ≤ a.toInt := x_lo_le (x_nlt h1) (by decide)
    refine g_n 2 (pc' := 7) (L' := [some (.int a)]) (st' := [.int 8, .int a]) rfl ?_
    refine g_br (c := (8 : Int32) ≤ a) (t := 14) (f := 10) (L' := [some (.int a)]) (st' := []) rfl (fun h4 => ?_) (fun h4 => ?_)
    · have p5 : 8 ≤ a.toInt := x_lo_le h4 (by decide)
      refine g_n 1 (pc' := 15) (L' := [some (.int a)]) (st' := [.int 0]) rfl ?_
      refine g_ret (ins := .ireturn) (len := 1) (r := (some (.int 0))) rfl rfl rfl ?_
      refine g_n 2 (pc' := 8) (L' := [some (.ref 0), some (.int a)]) (st' := [.int (-1)]) rfl ?_
      refine g_ret (ins := .ireturn) (len := 1) (r := (some (.int (-1)))) rfl rfl rfl ?_
      refine ⟨⟨_, rfl⟩, ?_⟩
      refine g_in (M := x_M415) (L := [some (.ref 281), some (.int a), none]) x_pl415 rfl ?_
      refine g_n 2 (pc' := 2) (L' := [some (.ref 281), some (.int a), none]) (st' := [.int a, .ref 281]) rfl ?_
      refine g_call (ins := .invokevirtual 671) (len := 3) (j := 411) (as := [.ref 281, .int a]) (rest := []) rfl rfl rfl rfl (fun _ => rfl) rfl ?_
      refine g_in (M := x_M411) (L := [some (.ref 281), some (.int a)]) x_pl411 rfl ?_
      refine g_n 1 (pc' := 1) (L' := [some (.ref 281), some (.int a)]) (st' := [.int a]) rfl ?_
      refine g_brF (c := a < (0 : Int32)) (t := 14) (f := 4) (L' := [some (.ref 281), some (.int a)]) (st' := []) rfl (x_Flt (l := 8) (u := 0) p5 (by decide) (by decide)) ?_
      refine g_n 2 (pc' := 7) (L' := [some (.ref 281), some (.int a)]) (st' := [.int 8, .int a]) rfl ?_
      refine g_brT (c := (8 : Int32) ≤ a) (t := 14) (f := 10) (L' := [some (.ref 281), some (.int a)]) (st' := []) rfl (x_Tle (u := 8) (l := 8) (by decide) p5 (by decide)) ?_
      refine g_n 1 (pc' := 15) (L' := [some (.ref 281), some (.int a)]) (st' := [.int 0]) rfl ?_
      refine g_ret (ins := .ireturn) (len := 1) (r := (some (.int 0))) rfl rfl rfl ?_
      refine g_n 2 (pc' := 9) (L' := [some (.ref 281), some (.int a), none]) (st' := [.int (-1)]) rfl ?_
      exact g_ret (ins := .ireturn) (len := 1) (r := (some (.int (-1)))) rfl rfl rfl ⟨_, rfl, rfl, (x_sv_rf _)⟩
    · have p6 : a.toInt ≤ 7 := x_up_lt (x_nle h4) (by decide)
      refine g_n 2 (pc' := 15) (L' := [some (.int a)]) (st' := [.int 1]) rfl ?_
      refine g_ret (ins := .ireturn) (len := 1) (r := (some (.int 1))) rfl rfl rfl ?_
      refine g_n 4 (pc' := 14) (L' := [some (.ref 0), some (.int a)]) (st' := [.int a, .ref 1]) rfl ?_
      by_cases h7 : a = 0
      · have e8 : a = 0 := h7
        subst e8
        refine g_aa (i := 0) (a := 1) (n := 8) (v := 11) rfl rfl (by decide) (x_at (x_f1 hF) (k := 0) rfl) ?_
        refine g_n 2 (pc' := 19) (L' := [some (.ref 0), some (.int 0)]) (st' := [.ref 179, .ref 11]) rfl ?_
        refine g_call (ins := .invokevirtual 153) (len := 3) (j := 7) (as := [.ref 11, .ref 179]) (rest := []) rfl rfl rfl rfl (fun _ => rfl) rfl ?_
        refine g_in (M := x_M7) (L := [some (.ref 11), some (.ref 179)]) x_pl7 rfl ?_
        refine g_n 1 (pc' := 1) (L' := [some (.ref 11), some (.ref 179)]) (st' := [.ref 11]) rfl ?_
        refine g_call (ins := .invokevirtual 26) (len := 3) (j := 2) (as := [.ref 11]) (rest := []) rfl rfl rfl rfl (fun _ => rfl) rfl ?_
        refine g_in (M := x_M2) (L := [some (.ref 11)]) x_pl2 rfl ?_
        refine g_n 6 (pc' := 10) (L' := [some (.ref 11)]) (st' := []) rfl ?_
        refine g_ret (ins := .return_) (len := 1) (r := none) rfl rfl rfl ?_
        refine g_n 5 (pc' := 11) (L' := [some (.ref 11), some (.ref 179)]) (st' := [.int 0, .int 0, .ref 179, .ref 11]) rfl ?_
        refine g_call (ins := .invokevirtual 29) (len := 3) (j := 6) (as := [.ref 11, .ref 179, .int 0, .int 0]) (rest := []) rfl rfl rfl rfl (fun _ => rfl) rfl ?_
        refine g_in (M := x_M6) (L := [some (.ref 11), some (.ref 179), some (.int 0), some (.int 0), none, none]) x_pl6 rfl ?_
        refine g_n 7 (pc' := 115) (L' := [some (.ref 11), some (.ref 179), some (.int 0), some (.int 0), some (.int 0), none]) (st' := []) rfl ?_
        refine g_ret (ins := .return_) (len := 1) (r := none) rfl rfl rfl ?_
        refine g_ret (ins := .return_) (len := 1) (r := none) rfl rfl rfl ?_
        refine g_n 2 (pc' := 26) (L' := [some (.ref 0), some (.int 0)]) (st' := [.ref 179]) rfl ?_
        refine g_call (ins := .invokevirtual 156) (len := 3) (j := 2) (as := [.ref 179]) (rest := []) rfl rfl rfl rfl (fun _ => rfl) rfl ?_
        refine g_in (M := x_M2) (L := [some (.ref 179)]) x_pl2 rfl ?_
        refine g_n 6 (pc' := 10) (L' := [some (.ref 179)]) (st' := []) rfl ?_
        refine g_ret (ins := .return_) (len := 1) (r := none) rfl rfl rfl ?_
        refine g_n 3 (pc' := 34) (L' := [some (.ref 0), some (.int 0)]) (st' := [.int 0, .ref 1]) rfl ?_
        refine g_aa (i := 0) (a := 1) (n := 8) (v := 11) rfl rfl (by decide) (x_at (x_f1 hF) (k := 0) rfl) ?_
        refine g_n 1 (pc' := 38) (L' := [some (.ref 0), some (.int 0)]) (st' := [.int 0]) rfl ?_
        refine g_ret (ins := .ireturn) (len := 1) (r := (some (.int 0))) rfl rfl rfl ?_
        refine ⟨⟨_, (x_obj_ne (by decide)).trans ((x_obj_ne (by decide)).trans ((x_obj_ne (by decide)).trans ((x_obj_ne (by decide)).trans (rfl))))⟩, ?_⟩
        refine g_in (M := x_M415) (L := [some (.ref 281), some (.int 0), none]) x_pl415 rfl ?_
        refine g_n 2 (pc' := 2) (L' := [some (.ref 281), some (.int 0), none]) (st' := [.int 0, .ref 281]) rfl ?_
        refine g_call (ins := .invokevirtual 671) (len := 3) (j := 411) (as := [.ref 281, .int 0]) (rest := []) rfl rfl rfl rfl (fun _ => rfl) rfl ?_
        refine g_in (M := x_M411) (L := [some (.ref 281), some (.int 0)]) x_pl411 rfl ?_
        refine g_n 7 (pc' := 15) (L' := [some (.ref 281), some (.int 0)]) (st' := [.int 1]) rfl ?_
        refine g_ret (ins := .ireturn) (len := 1) (r := (some (.int 1))) rfl rfl rfl ?_
        refine g_n 20 (pc' := 65) (L' := [some (.ref 281), some (.int 0), some (.int 0)]) (st' := [.int 0]) rfl ?_
        exact g_ret (ins := .ireturn) (len := 1) (r := (some (.int 0))) rfl rfl rfl ⟨_, rfl, rfl, (x_sv_set (x_sv_set (x_sv_set (x_sv_set (x_sv_set (x_sv_set (x_sv_rf _) rfl rfl) rfl rfl) rfl rfl) rfl rfl) rfl rfl) rfl rfl)⟩
      · have q9 : ¬ a = 0 := h7
        have p10 : 1 ≤ a.toInt := x_lo_ne q9 p3 (by decide)
        by_cases h11 : a = 1
        · have e12 : a = 1 := h11
          subst e12
          refine g_aa (i := 1) (a := 1) (n := 8) (v := 13) rfl rfl (by decide) (x_at (x_f1 hF) (k := 1) rfl) ?_
          refine g_n 2 (pc' := 19) (L' := [some (.ref 0), some (.int 1)]) (st' := [.ref 179, .ref 13]) rfl ?_
          refine g_call (ins := .invokevirtual 153) (len := 3) (j := 7) (as := [.ref 13, .ref 179]) (rest := []) rfl rfl rfl rfl (fun _ => rfl) rfl ?_
          refine g_in (M := x_M7) (L := [some (.ref 13), some (.ref 179)]) x_pl7 rfl ?_
          refine g_n 1 (pc' := 1) (L' := [some (.ref 13), some (.ref 179)]) (st' := [.ref 13]) rfl ?_
          refine g_call (ins := .invokevirtual 26) (len := 3) (j := 2) (as := [.ref 13]) (rest := []) rfl rfl rfl rfl (fun _ => rfl) rfl ?_
          refine g_in (M := x_M2) (L := [some (.ref 13)]) x_pl2 rfl ?_
          refine g_n 6 (pc' := 10) (L' := [some (.ref 13)]) (st' := []) rfl ?_
          refine g_ret (ins := .return_) (len := 1) (r := none) rfl rfl rfl ?_
          refine g_n 5 (pc' := 11) (L' := [some (.ref 13), some (.ref 179)]) (st' := [.int 0, .int 0, .ref 179, .ref 13]) rfl ?_
          refine g_call (ins := .invokevirtual 29) (len := 3) (j := 6) (as := [.ref 13, .ref 179, .int 0, .int 0]) (rest := []) rfl rfl rfl rfl (fun _ => rfl) rfl ?_
          refine g_in (M := x_M6) (L := [some (.ref 13), some (.ref 179), some (.int 0), some (.int 0), none, none]) x_pl6 rfl ?_
          refine g_n 7 (pc' := 115) (L' := [some (.ref 13), some (.ref 179), some (.int 0), some (.int 0), some (.int 0), none]) (st' := []) rfl ?_
          refine g_ret (ins := .return_) (len := 1) (r := none) rfl rfl rfl ?_
          refine g_ret (ins := .return_) (len := 1) (r := none) rfl rfl rfl ?_
          refine g_n 2 (pc' := 26) (L' := [some (.ref 0), some (.int 1)]) (st' := [.ref 179]) rfl ?_
          refine g_call (ins := .invokevirtual 156) (len := 3) (j := 2) (as := [.ref 179]) (rest := []) rfl rfl rfl rfl (fun _ => rfl) rfl ?_
          refine g_in (M := x_M2) (L := [some (.ref 179)]) x_pl2 rfl ?_
          refine g_n 6 (pc' := 10) (L' := [some (.ref 179)]) (st' := []) rfl ?_
          refine g_ret (ins := .return_) (len := 1) (r := none) rfl rfl rfl ?_
          refine g_n 3 (pc' := 34) (L' := [some (.ref 0), some (.int 1)]) (st' := [.int 1, .ref 1]) rfl ?_
          refine g_aa (i := 1) (a := 1) (n := 8) (v := 13) rfl rfl (by decide) (x_at (x_f1 hF) (k := 1) rfl) ?_
          refine g_n 1 (pc' := 38) (L' := [some (.ref 0), some (.int 1)]) (st' := [.int 0]) rfl ?_
          refine g_ret (ins := .ireturn) (len := 1) (r := (some (.int 0))) rfl rfl rfl ?_
          refine ⟨⟨_, (x_obj_ne (by decide)).trans ((x_obj_ne (by decide)).trans ((x_obj_ne (by decide)).trans ((x_obj_ne (by decide)).trans (rfl))))⟩, ?_⟩
          refine g_in (M := x_M415) (L := [some (.ref 281), some (.int 1), none]) x_pl415 rfl ?_
          refine g_n 2 (pc' := 2) (L' := [some (.ref 281), some (.int 1), none]) (st' := [.int 1, .ref 281]) rfl ?_
          refine g_call (ins := .invokevirtual 671) (len := 3) (j := 411) (as := [.ref 281, .int 1]) (rest := []) rfl rfl rfl rfl (fun _ => rfl) rfl ?_
          refine g_in (M := x_M411) (L := [some (.ref 281), some (.int 1)]) x_pl411 rfl ?_
          refine g_n 7 (pc' := 15) (L' := [some (.ref 281), some (.int 1)]) (st' := [.int 1]) rfl ?_
          refine g_ret (ins := .ireturn) (len := 1) (r := (some (.int 1))) rfl rfl rfl ?_
          refine g_n 20 (pc' := 65) (L' := [some (.ref 281), some (.int 1), some (.int 0)]) (st' := [.int 0]) rfl ?_
          exact g_ret (ins := .ireturn) (len := 1) (r := (some (.int 0))) rfl rfl rfl ⟨_, rfl, rfl, (x_sv_set (x_sv_set (x_sv_set (x_sv_set (x_sv_set (x_sv_set (x_sv_rf _) rfl rfl) rfl rfl) rfl rfl) rfl rfl) rfl rfl) rfl rfl)⟩
        · have q13 : ¬ a = 1 := h11
          have p14 : 2 ≤ a.toInt := x_lo_ne q13 p10 (by decide)
          by_cases h15 : a = 2
          · have e16 : a = 2 := h15
            subst e16
            refine g_aa (i := 2) (a := 1) (n := 8) (v := 15) rfl rfl (by decide) (x_at (x_f1 hF) (k := 2) rfl) ?_
            refine g_n 2 (pc' := 19) (L' := [some (.ref 0), some (.int 2)]) (st' := [.ref 179, .ref 15]) rfl ?_
            refine g_call (ins := .invokevirtual 153) (len := 3) (j := 7) (as := [.ref 15, .ref 179]) (rest := []) rfl rfl rfl rfl (fun _ => rfl) rfl ?_
            refine g_in (M := x_M7) (L := [some (.ref 15), some (.ref 179)]) x_pl7 rfl ?_
            refine g_n 1 (pc' := 1) (L' := [some (.ref 15), some (.ref 179)]) (st' := [.ref 15]) rfl ?_
            refine g_call (ins := .invokevirtual 26) (len := 3) (j := 2) (as := [.ref 15]) (rest := []) rfl rfl rfl rfl (fun _ => rfl) rfl ?_
            refine g_in (M := x_M2) (L := [some (.ref 15)]) x_pl2 rfl ?_
            refine g_n 6 (pc' := 10) (L' := [some (.ref 15)]) (st' := []) rfl ?_
            refine g_ret (ins := .return_) (len := 1) (r := none) rfl rfl rfl ?_
            refine g_n 5 (pc' := 11) (L' := [some (.ref 15), some (.ref 179)]) (st' := [.int 0, .int 0, .ref 179, .ref 15]) rfl ?_
            refine g_call (ins := .invokevirtual 29) (len := 3) (j := 6) (as := [.ref 15, .ref 179, .int 0, .int 0]) (rest := []) rfl rfl rfl rfl (fun _ => rfl) rfl ?_
            refine g_in (M := x_M6) (L := [some (.ref 15), some (.ref 179), some (.int 0), some (.int 0), none, none]) x_pl6 rfl ?_
            refine g_n 7 (pc' := 115) (L' := [some (.ref 15), some (.ref 179), some (.int 0), some (.int 0), some (.int 0), none]) (st' := []) rfl ?_
            refine g_ret (ins := .return_) (len := 1) (r := none) rfl rfl rfl ?_
            refine g_ret (ins := .return_) (len := 1) (r := none) rfl rfl rfl ?_
            refine g_n 2 (pc' := 26) (L' := [some (.ref 0), some (.int 2)]) (st' := [.ref 179]) rfl ?_
            refine g_call (ins := .invokevirtual 156) (len := 3) (j := 2) (as := [.ref 179]) (rest := []) rfl rfl rfl rfl (fun _ => rfl) rfl ?_
            refine g_in (M := x_M2) (L := [some (.ref 179)]) x_pl2 rfl ?_
            refine g_n 6 (pc' := 10) (L' := [some (.ref 179)]) (st' := []) rfl ?_
            refine g_ret (ins := .return_) (len := 1) (r := none) rfl rfl rfl ?_
            refine g_n 3 (pc' := 34) (L' := [some (.ref 0), some (.int 2)]) (st' := [.int 2, .ref 1]) rfl ?_
            refine g_aa (i := 2) (a := 1) (n := 8) (v := 15) rfl rfl (by decide) (x_at (x_f1 hF) (k := 2) rfl) ?_
            refine g_n 1 (pc' := 38) (L' := [some (.ref 0), some (.int 2)]) (st' := [.int 0]) rfl ?_
            refine g_ret (ins := .ireturn) (len := 1) (r := (some (.int 0))) rfl rfl rfl ?_
            refine ⟨⟨_, (x_obj_ne (by decide)).trans ((x_obj_ne (by decide)).trans ((x_obj_ne (by decide)).trans ((x_obj_ne (by decide)).trans (rfl))))⟩, ?_⟩
            refine g_in (M := x_M415) (L := [some (.ref 281), some (.int 2), none]) x_pl415 rfl ?_
            refine g_n 2 (pc' := 2) (L' := [some (.ref 281), some (.int 2), none]) (st' := [.int 2, .ref 281]) rfl ?_
            refine g_call (ins := .invokevirtual 671) (len := 3) (j := 411) (as := [.ref 281, .int 2]) (rest := []) rfl rfl rfl rfl (fun _ => rfl) rfl ?_
            refine g_in (M := x_M411) (L := [some (.ref 281), some (.int 2)]) x_pl411 rfl ?_
            refine g_n 7 (pc' := 15) (L' := [some (.ref 281), some (.int 2)]) (st' := [.int 1]) rfl ?_
            refine g_ret (ins := .ireturn) (len := 1) (r := (some (.int 1))) rfl rfl rfl ?_
            refine g_n 20 (pc' := 65) (L' := [some (.ref 281), some (.int 2), some (.int 0)]) (st' := [.int 0]) rfl ?_
            exact g_ret (ins := .ireturn) (len := 1) (r := (some (.int 0))) rfl rfl rfl ⟨_, rfl, rfl, (x_sv_set (x_sv_set (x_sv_set (x_sv_set (x_sv_set (x_sv_set (x_sv_rf _) rfl rfl) rfl rfl) rfl rfl) rfl rfl) rfl rfl) rfl rfl)⟩
          · have q17 : ¬ a = 2 := h15
            have p18 : 3 ≤ a.toInt := x_lo_ne q17 p14 (by decide)
            by_cases h19 : a = 3
            · have e20 : a = 3 := h19
              subst e20
              refine g_aa (i := 3) (a := 1) (n := 8) (v := 17) rfl rfl (by decide) (x_at (x_f1 hF) (k := 3) rfl) ?_
              refine g_n 2 (pc' := 19) (L' := [some (.ref 0), some (.int 3)]) (st' := [.ref 179, .ref 17]) rfl ?_
              refine g_call (ins := .invokevirtual 153) (len := 3) (j := 7) (as := [.ref 17, .ref 179]) (rest := []) rfl rfl rfl rfl (fun _ => rfl) rfl ?_
              refine g_in (M := x_M7) (L := [some (.ref 17), some (.ref 179)]) x_pl7 rfl ?_
              refine g_n 1 (pc' := 1) (L' := [some (.ref 17), some (.ref 179)]) (st' := [.ref 17]) rfl ?_
              refine g_call (ins := .invokevirtual 26) (len := 3) (j := 2) (as := [.ref 17]) (rest := []) rfl rfl rfl rfl (fun _ => rfl) rfl ?_
              refine g_in (M := x_M2) (L := [some (.ref 17)]) x_pl2 rfl ?_
              refine g_n 6 (pc' := 10) (L' := [some (.ref 17)]) (st' := []) rfl ?_
              refine g_ret (ins := .return_) (len := 1) (r := none) rfl rfl rfl ?_
              refine g_n 5 (pc' := 11) (L' := [some (.ref 17), some (.ref 179)]) (st' := [.int 0, .int 0, .ref 179, .ref 17]) rfl ?_
              refine g_call (ins := .invokevirtual 29) (len := 3) (j := 6) (as := [.ref 17, .ref 179, .int 0, .int 0]) (rest := []) rfl rfl rfl rfl (fun _ => rfl) rfl ?_
              refine g_in (M := x_M6) (L := [some (.ref 17), some (.ref 179), some (.int 0), some (.int 0), none, none]) x_pl6 rfl ?_
              refine g_n 7 (pc' := 115) (L' := [some (.ref 17), some (.ref 179), some (.int 0), some (.int 0), some (.int 0), none]) (st' := []) rfl ?_
              refine g_ret (ins := .return_) (len := 1) (r := none) rfl rfl rfl ?_
              refine g_ret (ins := .return_) (len := 1) (r := none) rfl rfl rfl ?_
              refine g_n 2 (pc' := 26) (L' := [some (.ref 0), some (.int 3)]) (st' := [.ref 179]) rfl ?_
              refine g_call (ins := .invokevirtual 156) (len := 3) (j := 2) (as := [.ref 179]) (rest := []) rfl rfl rfl rfl (fun _ => rfl) rfl ?_
              refine g_in (M := x_M2) (L := [some (.ref 179)]) x_pl2 rfl ?_
              refine g_n 6 (pc' := 10) (L' := [some (.ref 179)]) (st' := []) rfl ?_
              refine g_ret (ins := .return_) (len := 1) (r := none) rfl rfl rfl ?_
              refine g_n 3 (pc' := 34) (L' := [some (.ref 0), some (.int 3)]) (st' := [.int 3, .ref 1]) rfl ?_
              refine g_aa (i := 3) (a := 1) (n := 8) (v := 17) rfl rfl (by decide) (x_at (x_f1 hF) (k := 3) rfl) ?_
              refine g_n 1 (pc' := 38) (L' := [some (.ref 0), some (.int 3)]) (st' := [.int 0]) rfl ?_
              refine g_ret (ins := .ireturn) (len := 1) (r := (some (.int 0))) rfl rfl rfl ?_
              refine ⟨⟨_, (x_obj_ne (by decide)).trans ((x_obj_ne (by decide)).trans ((x_obj_ne (by decide)).trans ((x_obj_ne (by decide)).trans (rfl))))⟩, ?_⟩
              refine g_in (M := x_M415) (L := [some (.ref 281), some (.int 3), none]) x_pl415 rfl ?_
              refine g_n 2 (pc' := 2) (L' := [some (.ref 281), some (.int 3), none]) (st' := [.int 3, .ref 281]) rfl ?_
              refine g_call (ins := .invokevirtual 671) (len := 3) (j := 411) (as := [.ref 281, .int 3]) (rest := []) rfl rfl rfl rfl (fun _ => rfl) rfl ?_
              refine g_in (M := x_M411) (L := [some (.ref 281), some (.int 3)]) x_pl411 rfl ?_
              refine g_n 7 (pc' := 15) (L' := [some (.ref 281), some (.int 3)]) (st' := [.int 1]) rfl ?_
              refine g_ret (ins := .ireturn) (len := 1) (r := (some (.int 1))) rfl rfl rfl ?_
              refine g_n 20 (pc' := 65) (L' := [some (.ref 281), some (.int 3), some (.int 0)]) (st' := [.int 0]) rfl ?_
              exact g_ret (ins := .ireturn) (len := 1) (r := (some (.int 0))) rfl rfl rfl ⟨_, rfl, rfl, (x_sv_set (x_sv_set (x_sv_set (x_sv_set (x_sv_set (x_sv_set (x_sv_rf _) rfl rfl) rfl rfl) rfl rfl) rfl rfl) rfl rfl) rfl rfl)⟩
            · have q21 : ¬ a = 3 := h19
              have p22 : 4 ≤ a.toInt := x_lo_ne q21 p18 (by decide)
              by_cases h23 : a = 4
              · have e24 : a = 4 := h23
                subst e24
                refine g_aa (i := 4) (a := 1) (n := 8) (v := 19) rfl rfl (by decide) (x_at (x_f1 hF) (k := 4) rfl) ?_
                refine g_n 2 (pc' := 19) (L' := [some (.ref 0), some (.int 4)]) (st' := [.ref 179, .ref 19]) rfl ?_
                refine g_call (ins := .invokevirtual 153) (len := 3) (j := 7) (as := [.ref 19, .ref 179]) (rest := []) rfl rfl rfl rfl (fun _ => rfl) rfl ?_
                refine g_in (M := x_M7) (L := [some (.ref 19), some (.ref 179)]) x_pl7 rfl ?_
                refine g_n 1 (pc' := 1) (L' := [some (.ref 19), some (.ref 179)]) (st' := [.ref 19]) rfl ?_
                refine g_call (ins := .invokevirtual 26) (len := 3) (j := 2) (as := [.ref 19]) (rest := []) rfl rfl rfl rfl (fun _ => rfl) rfl ?_
                refine g_in (M := x_M2) (L := [some (.ref 19)]) x_pl2 rfl ?_
                refine g_n 6 (pc' := 10) (L' := [some (.ref 19)]) (st' := []) rfl ?_
                refine g_ret (ins := .return_) (len := 1) (r := none) rfl rfl rfl ?_
                refine g_n 5 (pc' := 11) (L' := [some (.ref 19), some (.ref 179)]) (st' := [.int 0, .int 0, .ref 179, .ref 19]) rfl ?_
                refine g_call (ins := .invokevirtual 29) (len := 3) (j := 6) (as := [.ref 19, .ref 179, .int 0, .int 0]) (rest := []) rfl rfl rfl rfl (fun _ => rfl) rfl ?_
                refine g_in (M := x_M6) (L := [some (.ref 19), some (.ref 179), some (.int 0), some (.int 0), none, none]) x_pl6 rfl ?_
                refine g_n 7 (pc' := 115) (L' := [some (.ref 19), some (.ref 179), some (.int 0), some (.int 0), some (.int 0), none]) (st' := []) rfl ?_
                refine g_ret (ins := .return_) (len := 1) (r := none) rfl rfl rfl ?_
                refine g_ret (ins := .return_) (len := 1) (r := none) rfl rfl rfl ?_
                refine g_n 2 (pc' := 26) (L' := [some (.ref 0), some (.int 4)]) (st' := [.ref 179]) rfl ?_
                refine g_call (ins := .invokevirtual 156) (len := 3) (j := 2) (as := [.ref 179]) (rest := []) rfl rfl rfl rfl (fun _ => rfl) rfl ?_
                refine g_in (M := x_M2) (L := [some (.ref 179)]) x_pl2 rfl ?_
                refine g_n 6 (pc' := 10) (L' := [some (.ref 179)]) (st' := []) rfl ?_
                refine g_ret (ins := .return_) (len := 1) (r := none) rfl rfl rfl ?_
                refine g_n 3 (pc' := 34) (L' := [some (.ref 0), some (.int 4)]) (st' := [.int 4, .ref 1]) rfl ?_
                refine g_aa (i := 4) (a := 1) (n := 8) (v := 19) rfl rfl (by decide) (x_at (x_f1 hF) (k := 4) rfl) ?_
                refine g_n 1 (pc' := 38) (L' := [some (.ref 0), some (.int 4)]) (st' := [.int 0]) rfl ?_
                refine g_ret (ins := .ireturn) (len := 1) (r := (some (.int 0))) rfl rfl rfl ?_
                refine ⟨⟨_, (x_obj_ne (by decide)).trans ((x_obj_ne (by decide)).trans ((x_obj_ne (by decide)).trans ((x_obj_ne (by decide)).trans (rfl))))⟩, ?_⟩
                refine g_in (M := x_M415) (L := [some (.ref 281), some (.int 4), none]) x_pl415 rfl ?_
                refine g_n 2 (pc' := 2) (L' := [some (.ref 281), some (.int 4), none]) (st' := [.int 4, .ref 281]) rfl ?_
                refine g_call (ins := .invokevirtual 671) (len := 3) (j := 411) (as := [.ref 281, .int 4]) (rest := []) rfl rfl rfl rfl (fun _ => rfl) rfl ?_
                refine g_in (M := x_M411) (L := [some (.ref 281), some (.int 4)]) x_pl411 rfl ?_
                refine g_n 7 (pc' := 15) (L' := [some (.ref 281), some (.int 4)]) (st' := [.int 1]) rfl ?_
                refine g_ret (ins := .ireturn) (len := 1) (r := (some (.int 1))) rfl rfl rfl ?_
                refine g_n 20 (pc' := 65) (L' := [some (.ref 281), some (.int 4), some (.int 0)]) (st' := [.int 0]) rfl ?_
                exact g_ret (ins := .ireturn) (len := 1) (r := (some (.int 0))) rfl rfl rfl ⟨_, rfl, rfl, (x_sv_set (x_sv_set (x_sv_set (x_sv_set (x_sv_set (x_sv_set (x_sv_rf _) rfl rfl) rfl rfl) rfl rfl) rfl rfl) rfl rfl) rfl rfl)⟩
              · have q25 : ¬ a = 4 := h23
                have p26 : 5 ≤ a.toInt := x_lo_ne q25 p22 (by decide)
                by_cases h27 : a = 5
                · have e28 : a = 5 := h27
                  subst e28
                  refine g_aa (i := 5) (a := 1) (n := 8) (v := 21) rfl rfl (by decide) (x_at (x_f1 hF) (k := 5) rfl) ?_
                  refine g_n 2 (pc' := 19) (L' := [some (.ref 0), some (.int 5)]) (st' := [.ref 179, .ref 21]) rfl ?_
                  refine g_call (ins := .invokevirtual 153) (len := 3) (j := 7) (as := [.ref 21, .ref 179]) (rest := []) rfl rfl rfl rfl (fun _ => rfl) rfl ?_
                  refine g_in (M := x_M7) (L := [some (.ref 21), some (.ref 179)]) x_pl7 rfl ?_
                  refine g_n 1 (pc' := 1) (L' := [some (.ref 21), some (.ref 179)]) (st' := [.ref 21]) rfl ?_
                  refine g_call (ins := .invokevirtual 26) (len := 3) (j := 2) (as := [.ref 21]) (rest := []) rfl rfl rfl rfl (fun _ => rfl) rfl ?_
                  refine g_in (M := x_M2) (L := [some (.ref 21)]) x_pl2 rfl ?_
                  refine g_n 6 (pc' := 10) (L' := [some (.ref 21)]) (st' := []) rfl ?_
                  refine g_ret (ins := .return_) (len := 1) (r := none) rfl rfl rfl ?_
                  refine g_n 5 (pc' := 11) (L' := [some (.ref 21), some (.ref 179)]) (st' := [.int 0, .int 0, .ref 179, .ref 21]) rfl ?_
                  refine g_call (ins := .invokevirtual 29) (len := 3) (j := 6) (as := [.ref 21, .ref 179, .int 0, .int 0]) (rest := []) rfl rfl rfl rfl (fun _ => rfl) rfl ?_
                  refine g_in (M := x_M6) (L := [some (.ref 21), some (.ref 179), some (.int 0), some (.int 0), none, none]) x_pl6 rfl ?_
                  refine g_n 7 (pc' := 115) (L' := [some (.ref 21), some (.ref 179), some (.int 0), some (.int 0), some (.int 0), none]) (st' := []) rfl ?_
                  refine g_ret (ins := .return_) (len := 1) (r := none) rfl rfl rfl ?_
                  refine g_ret (ins := .return_) (len := 1) (r := none) rfl rfl rfl ?_
                  refine g_n 2 (pc' := 26) (L' := [some (.ref 0), some (.int 5)]) (st' := [.ref 179]) rfl ?_
                  refine g_call (ins := .invokevirtual 156) (len := 3) (j := 2) (as := [.ref 179]) (rest := []) rfl rfl rfl rfl (fun _ => rfl) rfl ?_
                  refine g_in (M := x_M2) (L := [some (.ref 179)]) x_pl2 rfl ?_
                  refine g_n 6 (pc' := 10) (L' := [some (.ref 179)]) (st' := []) rfl ?_
                  refine g_ret (ins := .return_) (len := 1) (r := none) rfl rfl rfl ?_
                  refine g_n 3 (pc' := 34) (L' := [some (.ref 0), some (.int 5)]) (st' := [.int 5, .ref 1]) rfl ?_
                  refine g_aa (i := 5) (a := 1) (n := 8) (v := 21) rfl rfl (by decide) (x_at (x_f1 hF) (k := 5) rfl) ?_
                  refine g_n 1 (pc' := 38) (L' := [some (.ref 0), some (.int 5)]) (st' := [.int 0]) rfl ?_
                  refine g_ret (ins := .ireturn) (len := 1) (r := (some (.int 0))) rfl rfl rfl ?_
                  refine ⟨⟨_, (x_obj_ne (by decide)).trans ((x_obj_ne (by decide)).trans ((x_obj_ne (by decide)).trans ((x_obj_ne (by decide)).trans (rfl))))⟩, ?_⟩
                  refine g_in (M := x_M415) (L := [some (.ref 281), some (.int 5), none]) x_pl415 rfl ?_
                  refine g_n 2 (pc' := 2) (L' := [some (.ref 281), some (.int 5), none]) (st' := [.int 5, .ref 281]) rfl ?_
                  refine g_call (ins := .invokevirtual 671) (len := 3) (j := 411) (as := [.ref 281, .int 5]) (rest := []) rfl rfl rfl rfl (fun _ => rfl) rfl ?_
                  refine g_in (M := x_M411) (L := [some (.ref 281), some (.int 5)]) x_pl411 rfl ?_
                  refine g_n 7 (pc' := 15) (L' := [some (.ref 281), some (.int 5)]) (st' := [.int 1]) rfl ?_
                  refine g_ret (ins := .ireturn) (len := 1) (r := (some (.int 1))) rfl rfl rfl ?_
                  refine g_n 20 (pc' := 65) (L' := [some (.ref 281), some (.int 5), some (.int 0)]) (st' := [.int 0]) rfl ?_
                  exact g_ret (ins := .ireturn) (len := 1) (r := (some (.int 0))) rfl rfl rfl ⟨_, rfl, rfl, (x_sv_set (x_sv_set (x_sv_set (x_sv_set (x_sv_set (x_sv_set (x_sv_rf _) rfl rfl) rfl rfl) rfl rfl) rfl rfl) rfl rfl) rfl rfl)⟩
                · have q29 : ¬ a = 5 := h27
                  have p30 : 6 ≤ a.toInt := x_lo_ne q29 p26 (by decide)
                  by_cases h31 : a = 6
                  · have e32 : a = 6 := h31
                    subst e32
                    refine g_aa (i := 6) (a := 1) (n := 8) (v := 23) rfl rfl (by decide) (x_at (x_f1 hF) (k := 6) rfl) ?_
                    refine g_n 2 (pc' := 19) (L' := [some (.ref 0), some (.int 6)]) (st' := [.ref 179, .ref 23]) rfl ?_
                    refine g_call (ins := .invokevirtual 153) (len := 3) (j := 7) (as := [.ref 23, .ref 179]) (rest := []) rfl rfl rfl rfl (fun _ => rfl) rfl ?_
                    refine g_in (M := x_M7) (L := [some (.ref 23), some (.ref 179)]) x_pl7 rfl ?_
                    refine g_n 1 (pc' := 1) (L' := [some (.ref 23), some (.ref 179)]) (st' := [.ref 23]) rfl ?_
                    refine g_call (ins := .invokevirtual 26) (len := 3) (j := 2) (as := [.ref 23]) (rest := []) rfl rfl rfl rfl (fun _ => rfl) rfl ?_
                    refine g_in (M := x_M2) (L := [some (.ref 23)]) x_pl2 rfl ?_
                    refine g_n 6 (pc' := 10) (L' := [some (.ref 23)]) (st' := []) rfl ?_
                    refine g_ret (ins := .return_) (len := 1) (r := none) rfl rfl rfl ?_
                    refine g_n 5 (pc' := 11) (L' := [some (.ref 23), some (.ref 179)]) (st' := [.int 0, .int 0, .ref 179, .ref 23]) rfl ?_
                    refine g_call (ins := .invokevirtual 29) (len := 3) (j := 6) (as := [.ref 23, .ref 179, .int 0, .int 0]) (rest := []) rfl rfl rfl rfl (fun _ => rfl) rfl ?_
                    refine g_in (M := x_M6) (L := [some (.ref 23), some (.ref 179), some (.int 0), some (.int 0), none, none]) x_pl6 rfl ?_
                    refine g_n 7 (pc' := 115) (L' := [some (.ref 23), some (.ref 179), some (.int 0), some (.int 0), some (.int 0), none]) (st' := []) rfl ?_
                    refine g_ret (ins := .return_) (len := 1) (r := none) rfl rfl rfl ?_
                    refine g_ret (ins := .return_) (len := 1) (r := none) rfl rfl rfl ?_
                    refine g_n 2 (pc' := 26) (L' := [some (.ref 0), some (.int 6)]) (st' := [.ref 179]) rfl ?_
                    refine g_call (ins := .invokevirtual 156) (len := 3) (j := 2) (as := [.ref 179]) (rest := []) rfl rfl rfl rfl (fun _ => rfl) rfl ?_
                    refine g_in (M := x_M2) (L := [some (.ref 179)]) x_pl2 rfl ?_
                    refine g_n 6 (pc' := 10) (L' := [some (.ref 179)]) (st' := []) rfl ?_
                    refine g_ret (ins := .return_) (len := 1) (r := none) rfl rfl rfl ?_
                    refine g_n 3 (pc' := 34) (L' := [some (.ref 0), some (.int 6)]) (st' := [.int 6, .ref 1]) rfl ?_
                    refine g_aa (i := 6) (a := 1) (n := 8) (v := 23) rfl rfl (by decide) (x_at (x_f1 hF) (k := 6) rfl) ?_
                    refine g_n 1 (pc' := 38) (L' := [some (.ref 0), some (.int 6)]) (st' := [.int 0]) rfl ?_
                    refine g_ret (ins := .ireturn) (len := 1) (r := (some (.int 0))) rfl rfl rfl ?_
                    refine ⟨⟨_, (x_obj_ne (by decide)).trans ((x_obj_ne (by decide)).trans ((x_obj_ne (by decide)).trans ((x_obj_ne (by decide)).trans (rfl))))⟩, ?_⟩
                    refine g_in (M := x_M415) (L := [some (.ref 281), some (.int 6), none]) x_pl415 rfl ?_
                    refine g_n 2 (pc' := 2) (L' := [some (.ref 281), some (.int 6), none]) (st' := [.int 6, .ref 281]) rfl ?_
                    refine g_call (ins := .invokevirtual 671) (len := 3) (j := 411) (as := [.ref 281, .int 6]) (rest := []) rfl rfl rfl rfl (fun _ => rfl) rfl ?_
                    refine g_in (M := x_M411) (L := [some (.ref 281), some (.int 6)]) x_pl411 rfl ?_
                    refine g_n 7 (pc' := 15) (L' := [some (.ref 281), some (.int 6)]) (st' := [.int 1]) rfl ?_
                    refine g_ret (ins := .ireturn) (len := 1) (r := (some (.int 1))) rfl rfl rfl ?_
                    refine g_n 20 (pc' := 65) (L' := [some (.ref 281), some (.int 6), some (.int 0)]) (st' := [.int 0]) rfl ?_
                    exact g_ret (ins := .ireturn) (len := 1) (r := (some (.int 0))) rfl rfl rfl ⟨_, rfl, rfl, (x_sv_set (x_sv_set (x_sv_set (x_sv_set (x_sv_set (x_sv_set (x_sv_rf _) rfl rfl) rfl rfl) rfl rfl) rfl rfl) rfl rfl) rfl rfl)⟩
                  · have q33 : ¬ a = 6 := h31
                    have p34 : 7 ≤ a.toInt := x_lo_ne q33 p30 (by decide)
                    have e35 : a = 7 := x_sing p34 p6 (by decide)
                    subst e35
                    refine g_aa (i := 7) (a := 1) (n := 8) (v := 25) rfl rfl (by decide) (x_at (x_f1 hF) (k := 7) rfl) ?_
                    refine g_n 2 (pc' := 19) (L' := [some (.ref 0), some (.int 7)]) (st' := [.ref 179, .ref 25]) rfl ?_
                    refine g_call (ins := .invokevirtual 153) (len := 3) (j := 7) (as := [.ref 25, .ref 179]) (rest := []) rfl rfl rfl rfl (fun _ => rfl) rfl ?_
                    refine g_in (M := x_M7) (L := [some (.ref 25), some (.ref 179)]) x_pl7 rfl ?_
                    refine g_n 1 (pc' := 1) (L' := [some (.ref 25), some (.ref 179)]) (st' := [.ref 25]) rfl ?_
                    refine g_call (ins := .invokevirtual 26) (len := 3) (j := 2) (as := [.ref 25]) (rest := []) rfl rfl rfl rfl (fun _ => rfl) rfl ?_
                    refine g_in (M := x_M2) (L := [some (.ref 25)]) x_pl2 rfl ?_
                    refine g_n 6 (pc' := 10) (L' := [some (.ref 25)]) (st' := []) rfl ?_
                    refine g_ret (ins := .return_) (len := 1) (r := none) rfl rfl rfl ?_
                    refine g_n 5 (pc' := 11) (L' := [some (.ref 25), some (.ref 179)]) (st' := [.int 0, .int 0, .ref 179, .ref 25]) rfl ?_
                    refine g_call (ins := .invokevirtual 29) (len := 3) (j := 6) (as := [.ref 25, .ref 179, .int 0, .int 0]) (rest := []) rfl rfl rfl rfl (fun _ => rfl) rfl ?_
                    refine g_in (M := x_M6) (L := [some (.ref 25), some (.ref 179), some (.int 0), some (.int 0), none, none]) x_pl6 rfl ?_
                    refine g_n 7 (pc' := 115) (L' := [some (.ref 25), some (.ref 179), some (.int 0), some (.int 0), some (.int 0), none]) (st' := []) rfl ?_
                    refine g_ret (ins := .return_) (len := 1) (r := none) rfl rfl rfl ?_
                    refine g_ret (ins := .return_) (len := 1) (r := none) rfl rfl rfl ?_
                    refine g_n 2 (pc' := 26) (L' := [some (.ref 0), some (.int 7)]) (st' := [.ref 179]) rfl ?_
                    refine g_call (ins := .invokevirtual 156) (len := 3) (j := 2) (as := [.ref 179]) (rest := []) rfl rfl rfl rfl (fun _ => rfl) rfl ?_
                    refine g_in (M := x_M2) (L := [some (.ref 179)]) x_pl2 rfl ?_
                    refine g_n 6 (pc' := 10) (L' := [some (.ref 179)]) (st' := []) rfl ?_
                    refine g_ret (ins := .return_) (len := 1) (r := none) rfl rfl rfl ?_
                    refine g_n 3 (pc' := 34) (L' := [some (.ref 0), some (.int 7)]) (st' := [.int 7, .ref 1]) rfl ?_
                    refine g_aa (i := 7) (a := 1) (n := 8) (v := 25) rfl rfl (by decide) (x_at (x_f1 hF) (k := 7) rfl) ?_
                    refine g_n 1 (pc' := 38) (L' := [some (.ref 0), some (.int 7)]) (st' := [.int 0]) rfl ?_
                    refine g_ret (ins := .ireturn) (len := 1) (r := (some (.int 0))) rfl rfl rfl ?_
                    refine ⟨⟨_, (x_obj_ne (by decide)).trans ((x_obj_ne (by decide)).trans ((x_obj_ne (by decide)).trans ((x_obj_ne (by decide)).trans (rfl))))⟩, ?_⟩
                    refine g_in (M := x_M415) (L := [some (.ref 281), some (.int 7), none]) x_pl415 rfl ?_
                    refine g_n 2 (pc' := 2) (L' := [some (.ref 281), some (.int 7), none]) (st' := [.int 7, .ref 281]) rfl ?_
                    refine g_call (ins := .invokevirtual 671) (len := 3) (j := 411) (as := [.ref 281, .int 7]) (rest := []) rfl rfl rfl rfl (fun _ => rfl) rfl ?_
                    refine g_in (M := x_M411) (L := [some (.ref 281), some (.int 7)]) x_pl411 rfl ?_
                    refine g_n 7 (pc' := 15) (L' := [some (.ref 281), some (.int 7)]) (st' := [.int 1]) rfl ?_
                    refine g_ret (ins := .ireturn) (len := 1) (r := (some (.int 1))) rfl rfl rfl ?_
                    refine g_n 20 (pc' := 65) (L' := [some (.ref 281), some (.int 7), some (.int 0)]) (st' := [.int 0]) rfl ?_
                    exact g_ret (ins := .ireturn) (len := 1) (r := (some (.int 0))) rfl rfl rfl ⟨_, rfl, rfl, (x_sv_set (x_sv_set (x_sv_set (x_sv_set (x_sv_set (x_sv_set (x_sv_rf _) rfl rfl) rfl rfl) rfl rfl) rfl rfl) rfl rfl) rfl rfl)⟩
set_option maxRecDepth 100000 in
set_option maxHeartbeats 4000000 in
theorem x_op3 {fi : Nat → Nat → Int32} {fl : Nat → Nat → Int64} {fr : Nat → Nat → Option Nat} (hF : x_F fl fr) (a : Int32) : x_ev 30 355 [.ref 0, .int a] (x_W fi fl fr) fun r S1 => (∃ fs, x_obj S1 281 = some (12, fs)) ∧ x_ev 30 416 [.ref 281, .int a] S1 (x_finI (x_W fi fl fr) r) := by
  refine g_in (M := x_M355) (L := [some (.ref 0), some (.int a)]) x_pl355 rfl ?_
  refine g_n 1 (pc' := 1) (L' := [some (.ref 0), some (.int a)]) (st' := [.int a]) rfl ?_
  refine g_call (ins := .invokestatic 150) (len := 3) (j := 347) (as := [.int a]) (rest := []) rfl rfl rfl rfl (fun _ => rfl) rfl ?_
  refine g_in (M := x_M347) (L := [some (.int a)]) x_pl347 rfl ?_
  refine g_n 1 (pc' := 1) (L' := [some (.int a)]) (st' := [.int a]) rfl ?_
  refine g_br (c := a < (0 : Int32)) (t := 14) (f := 4) (L' := [some (.int a)]) (st' := []) rfl (fun h1 => ?_) (fun h1 => ?_)
  · have p2 : a.toInt ≤ -1 := x_up_lt h1 (by decide)
    refine g_n 1 (pc' := 15) (L' := [some (.int a)]) (st' := [.int 0]) rfl ?_
    refine g_ret (ins := .ireturn) (len := 1) (r := (some (.int 0))) rfl rfl rfl ?_
    refine g_n 2 (pc' := 8) (L' := [some (.ref 0), some (.int a)]) (st' := [.int (-1)]) rfl ?_
    refine g_ret (ins := .ireturn) (len := 1) (r := (some (.int (-1)))) rfl rfl rfl ?_
    refine ⟨⟨_, rfl⟩, ?_⟩
    refine g_in (M := x_M416) (L := [some (.ref 281), some (.int a), none]) x_pl416 rfl ?_
    refine g_n 2 (pc' := 2) (L' := [some (.ref 281), some (.int a), none]) (st' := [.int a, .ref 281]) rfl ?_
    refine g_call (ins := .invokevirtual 671) (len := 3) (j := 411) (as := [.ref 281, .int a]) (rest := []) rfl rfl rfl rfl (fun _ => rfl) rfl ?_
    refine g_in (M := x_M411) (L := [some (.ref 281), some (.int a)]) x_pl411 rfl ?_
    refine g_n 1 (pc' := 1) (L' := [some (.ref 281), some (.int a)]) (st' := [.int a]) rfl ?_
    refine g_brT (c := a < (0 : Int32)) (t := 14) (f := 4) (L' := [some (.ref 281), some (.int a)]) (st' := []) rfl (x_Tlt (u := -1) (l := 0) p2 (by decide) (by decide)) ?_
    refine g_n 1 (pc' := 15) (L' := [some (.ref 281), some (.int a)]) (st' := [.int 0]) rfl ?_
    refine g_ret (ins := .ireturn) (len := 1) (r := (some (.int 0))) rfl rfl rfl ?_
    refine g_n 2 (pc' := 9) (L' := [some (.ref 281), some (.int a), none]) (st' := [.int (-1)]) rfl ?_
    exact g_ret (ins := .ireturn) (len := 1) (r := (some (.int (-1)))) rfl rfl rfl ⟨_, rfl, rfl, (x_sv_rf _)⟩
  · have p3 : 0 ≤ a.toInt := x_lo_le (x_nlt h1) (by decide)
    refine g_n 2 (pc' := 7) (L' := [some (.int a)]) (st' := [.int 8, .int a]) rfl ?_
    refine g_br (c := (8 : Int32) ≤ a) (t := 14) (f := 10) (L' := [some (.int a)]) (st' := []) rfl (fun h4 => ?_) (fun h4 => ?_)
    · have p5 : 8 ≤ a.toInt := x_lo_le h4 (by decide)
      refine g_n 1 (pc' := 15) (L' := [some (.int a)]) (st' := [.int 0]) rfl ?_
      refine g_ret (ins := .ireturn) (len := 1) (r := (some (.int 0))) rfl rfl rfl ?_
      refine g_n 2 (pc' := 8) (L' := [some (.ref 0), some (.int a)]) (st' := [.int (-1)]) rfl ?_
      refine g_ret (ins := .ireturn) (len := 1) (r := (some (.int (-1)))) rfl rfl rfl ?_
      refine ⟨⟨_, rfl⟩, ?_⟩
      refine g_in (M := x_M416) (L := [some (.ref 281), some (.int a), none]) x_pl416 rfl ?_
      refine g_n 2 (pc' := 2) (L' := [some (.ref 281), some (.int a), none]) (st' := [.int a, .ref 281]) rfl ?_
      refine g_call (ins := .invokevirtual 671) (len := 3) (j := 411) (as := [.ref 281, .int a]) (rest := []) rfl rfl rfl rfl (fun _ => rfl) rfl ?_
      refine g_in (M := x_M411) (L := [some (.ref 281), some (.int a)]) x_pl411 rfl ?_
      refine g_n 1 (pc' := 1) (L' := [some (.ref 281), some (.int a)]) (st' := [.int a]) rfl ?_
      refine g_brF (c := a < (0 : Int32)) (t := 14) (f := 4) (L' := [some (.ref 281), some (.int a)]) (st' := []) rfl (x_Flt (l := 8) (u := 0) p5 (by decide) (by decide)) ?_
      refine g_n 2 (pc' := 7) (L' := [some (.ref 281), some (.int a)]) (st' := [.int 8, .int a]) rfl ?_
      refine g_brT (c := (8 : Int32) ≤ a) (t := 14) (f := 10) (L' := [some (.ref 281), some (.int a)]) (st' := []) rfl (x_Tle (u := 8) (l := 8) (by decide) p5 (by decide)) ?_
      refine g_n 1 (pc' := 15) (L' := [some (.ref 281), some (.int a)]) (st' := [.int 0]) rfl ?_
      refine g_ret (ins := .ireturn) (len := 1) (r := (some (.int 0))) rfl rfl rfl ?_
      refine g_n 2 (pc' := 9) (L' := [some (.ref 281), some (.int a), none]) (st' := [.int (-1)]) rfl ?_
      exact g_ret (ins := .ireturn) (len := 1) (r := (some (.int (-1)))) rfl rfl rfl ⟨_, rfl, rfl, (x_sv_rf _)⟩
    · have p6 : a.toInt ≤ 7 := x_up_lt (x_nle h4) (by decide)
      refine g_n 2 (pc' := 15) (L' := [some (.int a)]) (st' := [.int 1]) rfl ?_
      refine g_ret (ins := .ireturn) (len := 1) (r := (some (.int 1))) rfl rfl rfl ?_
      refine g_n 7 (pc' := 21) (L' := [some (.ref 0), some (.int a)]) (st' := [.int a, .ref 1, .int 0]) rfl ?_
      by_cases h7 : a = 0
      · have e8 : a = 0 := h7
        subst e8
        refine g_aa (i := 0) (a := 1) (n := 8) (v := 11) rfl rfl (by decide) (x_at (x_f1 hF) (k := 0) rfl) ?_
        refine g_n 9 (pc' := 44) (L' := [some (.ref 0), some (.int 0)]) (st' := [.int 0, .ref 1, .ref 179]) rfl ?_
        refine g_aa (i := 0) (a := 1) (n := 8) (v := 11) rfl rfl (by decide) (x_at (x_f1 hF) (k := 0) rfl) ?_
        refine g_n 4 (pc' := 51) (L' := [some (.ref 0), some (.int 0)]) (st' := [.int 0, .ref 1, .int 0, .ref 11, .ref 179]) rfl ?_
        refine g_aa (i := 0) (a := 1) (n := 8) (v := 11) rfl rfl (by decide) (x_at (x_f1 hF) (k := 0) rfl) ?_
        refine g_n 1 (pc' := 55) (L' := [some (.ref 0), some (.int 0)]) (st' := [.int 0, .int 0, .ref 11, .ref 179]) rfl ?_
        refine g_call (ins := .invokevirtual 159) (len := 3) (j := 6) (as := [.ref 179, .ref 11, .int 0, .int 0]) (rest := []) rfl rfl rfl rfl (fun _ => rfl) rfl ?_
        refine g_in (M := x_M6) (L := [some (.ref 179), some (.ref 11), some (.int 0), some (.int 0), none, none]) x_pl6 rfl ?_
        refine g_n 7 (pc' := 115) (L' := [some (.ref 179), some (.ref 11), some (.int 0), some (.int 0), some (.int 0), none]) (st' := []) rfl ?_
        refine g_ret (ins := .return_) (len := 1) (r := none) rfl rfl rfl ?_
        refine g_n 3 (pc' := 65) (L' := [some (.ref 0), some (.int 0)]) (st' := [.int 0]) rfl ?_
        refine g_ret (ins := .ireturn) (len := 1) (r := (some (.int 0))) rfl rfl rfl ?_
        refine ⟨⟨_, rfl⟩, ?_⟩
        refine g_in (M := x_M416) (L := [some (.ref 281), some (.int 0), none]) x_pl416 rfl ?_
        refine g_n 2 (pc' := 2) (L' := [some (.ref 281), some (.int 0), none]) (st' := [.int 0, .ref 281]) rfl ?_
        refine g_call (ins := .invokevirtual 671) (len := 3) (j := 411) (as := [.ref 281, .int 0]) (rest := []) rfl rfl rfl rfl (fun _ => rfl) rfl ?_
        refine g_in (M := x_M411) (L := [some (.ref 281), some (.int 0)]) x_pl411 rfl ?_
        refine g_n 7 (pc' := 15) (L' := [some (.ref 281), some (.int 0)]) (st' := [.int 1]) rfl ?_
        refine g_ret (ins := .ireturn) (len := 1) (r := (some (.int 1))) rfl rfl rfl ?_
        refine g_n 29 (pc' := 90) (L' := [some (.ref 281), some (.int 0), some (.int 0)]) (st' := [.int 0]) rfl ?_
        exact g_ret (ins := .ireturn) (len := 1) (r := (some (.int 0))) rfl rfl rfl ⟨_, rfl, rfl, (x_sv_set (x_sv_rf _) rfl rfl)⟩
      · have q9 : ¬ a = 0 := h7
        have p10 : 1 ≤ a.toInt := x_lo_ne q9 p3 (by decide)
        by_cases h11 : a = 1
        · have e12 : a = 1 := h11
          subst e12
          refine g_aa (i := 1) (a := 1) (n := 8) (v := 13) rfl rfl (by decide) (x_at (x_f1 hF) (k := 1) rfl) ?_
          refine g_n 9 (pc' := 44) (L' := [some (.ref 0), some (.int 1)]) (st' := [.int 1, .ref 1, .ref 179]) rfl ?_
          refine g_aa (i := 1) (a := 1) (n := 8) (v := 13) rfl rfl (by decide) (x_at (x_f1 hF) (k := 1) rfl) ?_
          refine g_n 4 (pc' := 51) (L' := [some (.ref 0), some (.int 1)]) (st' := [.int 1, .ref 1, .int 0, .ref 13, .ref 179]) rfl ?_
          refine g_aa (i := 1) (a := 1) (n := 8) (v := 13) rfl rfl (by decide) (x_at (x_f1 hF) (k := 1) rfl) ?_
          refine g_n 1 (pc' := 55) (L' := [some (.ref 0), some (.int 1)]) (st' := [.int 0, .int 0, .ref 13, .ref 179]) rfl ?_
          refine g_call (ins := .invokevirtual 159) (len := 3) (j := 6) (as := [.ref 179, .ref 13, .int 0, .int 0]) (rest := []) rfl rfl rfl rfl (fun _ => rfl) rfl ?_
          refine g_in (M := x_M6) (L := [some (.ref 179), some (.ref 13), some (.int 0), some (.int 0), none, none]) x_pl6 rfl ?_
          refine g_n 7 (pc' := 115) (L' := [some (.ref 179), some (.ref 13), some (.int 0), some (.int 0), some (.int 0), none]) (st' := []) rfl ?_
          refine g_ret (ins := .return_) (len := 1) (r := none) rfl rfl rfl ?_
          refine g_n 3 (pc' := 65) (L' := [some (.ref 0), some (.int 1)]) (st' := [.int 0]) rfl ?_
          refine g_ret (ins := .ireturn) (len := 1) (r := (some (.int 0))) rfl rfl rfl ?_
          refine ⟨⟨_, rfl⟩, ?_⟩
          refine g_in (M := x_M416) (L := [some (.ref 281), some (.int 1), none]) x_pl416 rfl ?_
          refine g_n 2 (pc' := 2) (L' := [some (.ref 281), some (.int 1), none]) (st' := [.int 1, .ref 281]) rfl ?_
          refine g_call (ins := .invokevirtual 671) (len := 3) (j := 411) (as := [.ref 281, .int 1]) (rest := []) rfl rfl rfl rfl (fun _ => rfl) rfl ?_
          refine g_in (M := x_M411) (L := [some (.ref 281), some (.int 1)]) x_pl411 rfl ?_
          refine g_n 7 (pc' := 15) (L' := [some (.ref 281), some (.int 1)]) (st' := [.int 1]) rfl ?_
          refine g_ret (ins := .ireturn) (len := 1) (r := (some (.int 1))) rfl rfl rfl ?_
          refine g_n 29 (pc' := 90) (L' := [some (.ref 281), some (.int 1), some (.int 0)]) (st' := [.int 0]) rfl ?_
          exact g_ret (ins := .ireturn) (len := 1) (r := (some (.int 0))) rfl rfl rfl ⟨_, rfl, rfl, (x_sv_set (x_sv_rf _) rfl rfl)⟩
        · have q13 : ¬ a = 1 := h11
          have p14 : 2 ≤ a.toInt := x_lo_ne q13 p10 (by decide)
          by_cases h15 : a = 2
          · have e16 : a = 2 := h15
            subst e16
            refine g_aa (i := 2) (a := 1) (n := 8) (v := 15) rfl rfl (by decide) (x_at (x_f1 hF) (k := 2) rfl) ?_
            refine g_n 9 (pc' := 44) (L' := [some (.ref 0), some (.int 2)]) (st' := [.int 2, .ref 1, .ref 179]) rfl ?_
            refine g_aa (i := 2) (a := 1) (n := 8) (v := 15) rfl rfl (by decide) (x_at (x_f1 hF) (k := 2) rfl) ?_
            refine g_n 4 (pc' := 51) (L' := [some (.ref 0), some (.int 2)]) (st' := [.int 2, .ref 1, .int 0, .ref 15, .ref 179]) rfl ?_
            refine g_aa (i := 2) (a := 1) (n := 8) (v := 15) rfl rfl (by decide) (x_at (x_f1 hF) (k := 2) rfl) ?_
            refine g_n 1 (pc' := 55) (L' := [some (.ref 0), some (.int 2)]) (st' := [.int 0, .int 0, .ref 15, .ref 179]) rfl ?_
            refine g_call (ins := .invokevirtual 159) (len := 3) (j := 6) (as := [.ref 179, .ref 15, .int 0, .int 0]) (rest := []) rfl rfl rfl rfl (fun _ => rfl) rfl ?_
            refine g_in (M := x_M6) (L := [some (.ref 179), some (.ref 15), some (.int 0), some (.int 0), none, none]) x_pl6 rfl ?_
            refine g_n 7 (pc' := 115) (L' := [some (.ref 179), some (.ref 15), some (.int 0), some (.int 0), some (.int 0), none]) (st' := []) rfl ?_
            refine g_ret (ins := .return_) (len := 1) (r := none) rfl rfl rfl ?_
            refine g_n 3 (pc' := 65) (L' := [some (.ref 0), some (.int 2)]) (st' := [.int 0]) rfl ?_
            refine g_ret (ins := .ireturn) (len := 1) (r := (some (.int 0))) rfl rfl rfl ?_
            refine ⟨⟨_, rfl⟩, ?_⟩
            refine g_in (M := x_M416) (L := [some (.ref 281), some (.int 2), none]) x_pl416 rfl ?_
            refine g_n 2 (pc' := 2) (L' := [some (.ref 281), some (.int 2), none]) (st' := [.int 2, .ref 281]) rfl ?_
            refine g_call (ins := .invokevirtual 671) (len := 3) (j := 411) (as := [.ref 281, .int 2]) (rest := []) rfl rfl rfl rfl (fun _ => rfl) rfl ?_
            refine g_in (M := x_M411) (L := [some (.ref 281), some (.int 2)]) x_pl411 rfl ?_
            refine g_n 7 (pc' := 15) (L' := [some (.ref 281), some (.int 2)]) (st' := [.int 1]) rfl ?_
            refine g_ret (ins := .ireturn) (len := 1) (r := (some (.int 1))) rfl rfl rfl ?_
            refine g_n 29 (pc' := 90) (L' := [some (.ref 281), some (.int 2), some (.int 0)]) (st' := [.int 0]) rfl ?_
            exact g_ret (ins := .ireturn) (len := 1) (r := (some (.int 0))) rfl rfl rfl ⟨_, rfl, rfl, (x_sv_set (x_sv_rf _) rfl rfl)⟩
          · have q17 : ¬ a = 2 := h15
            have p18 : 3 ≤ a.toInt := x_lo_ne q17 p14 (by decide)
            by_cases h19 : a = 3
            · have e20 : a = 3 := h19
              subst e20
              refine g_aa (i := 3) (a := 1) (n := 8) (v := 17) rfl rfl (by decide) (x_at (x_f1 hF) (k := 3) rfl) ?_
              refine g_n 9 (pc' := 44) (L' := [some (.ref 0), some (.int 3)]) (st' := [.int 3, .ref 1, .ref 179]) rfl ?_
              refine g_aa (i := 3) (a := 1) (n := 8) (v := 17) rfl rfl (by decide) (x_at (x_f1 hF) (k := 3) rfl) ?_
              refine g_n 4 (pc' := 51) (L' := [some (.ref 0), some (.int 3)]) (st' := [.int 3, .ref 1, .int 0, .ref 17, .ref 179]) rfl ?_
              refine g_aa (i := 3) (a := 1) (n := 8) (v := 17) rfl rfl (by decide) (x_at (x_f1 hF) (k := 3) rfl) ?_
              refine g_n 1 (pc' := 55) (L' := [some (.ref 0), some (.int 3)]) (st' := [.int 0, .int 0, .ref 17, .ref 179]) rfl ?_
              refine g_call (ins := .invokevirtual 159) (len := 3) (j := 6) (as := [.ref 179, .ref 17, .int 0, .int 0]) (rest := []) rfl rfl rfl rfl (fun _ => rfl) rfl ?_
              refine g_in (M := x_M6) (L := [some (.ref 179), some (.ref 17), some (.int 0), some (.int 0), none, none]) x_pl6 rfl ?_
              refine g_n 7 (pc' := 115) (L' := [some (.ref 179), some (.ref 17), some (.int 0), some (.int 0), some (.int 0), none]) (st' := []) rfl ?_
              refine g_ret (ins := .return_) (len := 1) (r := none) rfl rfl rfl ?_
              refine g_n 3 (pc' := 65) (L' := [some (.ref 0), some (.int 3)]) (st' := [.int 0]) rfl ?_
              refine g_ret (ins := .ireturn) (len := 1) (r := (some (.int 0))) rfl rfl rfl ?_
              refine ⟨⟨_, rfl⟩, ?_⟩
              refine g_in (M := x_M416) (L := [some (.ref 281), some (.int 3), none]) x_pl416 rfl ?_
              refine g_n 2 (pc' := 2) (L' := [some (.ref 281), some (.int 3), none]) (st' := [.int 3, .ref 281]) rfl ?_
              refine g_call (ins := .invokevirtual 671) (len := 3) (j := 411) (as := [.ref 281, .int 3]) (rest := []) rfl rfl rfl rfl (fun _ => rfl) rfl ?_
              refine g_in (M := x_M411) (L := [some (.ref 281), some (.int 3)]) x_pl411 rfl ?_
              refine g_n 7 (pc' := 15) (L' := [some (.ref 281), some (.int 3)]) (st' := [.int 1]) rfl ?_
              refine g_ret (ins := .ireturn) (len := 1) (r := (some (.int 1))) rfl rfl rfl ?_
              refine g_n 29 (pc' := 90) (L' := [some (.ref 281), some (.int 3), some (.int 0)]) (st' := [.int 0]) rfl ?_
              exact g_ret (ins := .ireturn) (len := 1) (r := (some (.int 0))) rfl rfl rfl ⟨_, rfl, rfl, (x_sv_set (x_sv_rf _) rfl rfl)⟩
            · have q21 : ¬ a = 3 := h19
              have p22 : 4 ≤ a.toInt := x_lo_ne q21 p18 (by decide)
              by_cases h23 : a = 4
              · have e24 : a = 4 := h23
                subst e24
                refine g_aa (i := 4) (a := 1) (n := 8) (v := 19) rfl rfl (by decide) (x_at (x_f1 hF) (k := 4) rfl) ?_
                refine g_n 9 (pc' := 44) (L' := [some (.ref 0), some (.int 4)]) (st' := [.int 4, .ref 1, .ref 179]) rfl ?_
                refine g_aa (i := 4) (a := 1) (n := 8) (v := 19) rfl rfl (by decide) (x_at (x_f1 hF) (k := 4) rfl) ?_
                refine g_n 4 (pc' := 51) (L' := [some (.ref 0), some (.int 4)]) (st' := [.int 4, .ref 1, .int 0, .ref 19, .ref 179]) rfl ?_
                refine g_aa (i := 4) (a := 1) (n := 8) (v := 19) rfl rfl (by decide) (x_at (x_f1 hF) (k := 4) rfl) ?_
                refine g_n 1 (pc' := 55) (L' := [some (.ref 0), some (.int 4)]) (st' := [.int 0, .int 0, .ref 19, .ref 179]) rfl ?_
                refine g_call (ins := .invokevirtual 159) (len := 3) (j := 6) (as := [.ref 179, .ref 19, .int 0, .int 0]) (rest := []) rfl rfl rfl rfl (fun _ => rfl) rfl ?_
                refine g_in (M := x_M6) (L := [some (.ref 179), some (.ref 19), some (.int 0), some (.int 0), none, none]) x_pl6 rfl ?_
                refine g_n 7 (pc' := 115) (L' := [some (.ref 179), some (.ref 19), some (.int 0), some (.int 0), some (.int 0), none]) (st' := []) rfl ?_
                refine g_ret (ins := .return_) (len := 1) (r := none) rfl rfl rfl ?_
                refine g_n 3 (pc' := 65) (L' := [some (.ref 0), some (.int 4)]) (st' := [.int 0]) rfl ?_
                refine g_ret (ins := .ireturn) (len := 1) (r := (some (.int 0))) rfl rfl rfl ?_
                refine ⟨⟨_, rfl⟩, ?_⟩
                refine g_in (M := x_M416) (L := [some (.ref 281), some (.int 4), none]) x_pl416 rfl ?_
                refine g_n 2 (pc' := 2) (L' := [some (.ref 281), some (.int 4), none]) (st' := [.int 4, .ref 281]) rfl ?_
                refine g_call (ins := .invokevirtual 671) (len := 3) (j := 411) (as := [.ref 281, .int 4]) (rest := []) rfl rfl rfl rfl (fun _ => rfl) rfl ?_
                refine g_in (M := x_M411) (L := [some (.ref 281), some (.int 4)]) x_pl411 rfl ?_
                refine g_n 7 (pc' := 15) (L' := [some (.ref 281), some (.int 4)]) (st' := [.int 1]) rfl ?_
                refine g_ret (ins := .ireturn) (len := 1) (r := (some (.int 1))) rfl rfl rfl ?_
                refine g_n 29 (pc' := 90) (L' := [some (.ref 281), some (.int 4), some (.int 0)]) (st' := [.int 0]) rfl ?_
                exact g_ret (ins := .ireturn) (len := 1) (r := (some (.int 0))) rfl rfl rfl ⟨_, rfl, rfl, (x_sv_set (x_sv_rf _) rfl rfl)⟩
              · have q25 : ¬ a = 4 := h23
                have p26 : 5 ≤ a.toInt := x_lo_ne q25 p22 (by decide)
                by_cases h27 : a = 5
                · have e28 : a = 5 := h27
                  subst e28
                  refine g_aa (i := 5) (a := 1) (n := 8) (v := 21) rfl rfl (by decide) (x_at (x_f1 hF) (k := 5) rfl) ?_
                  refine g_n 9 (pc' := 44) (L' := [some (.ref 0), some (.int 5)]) (st' := [.int 5, .ref 1, .ref 179]) rfl ?_
                  refine g_aa (i := 5) (a := 1) (n := 8) (v := 21) rfl rfl (by decide) (x_at (x_f1 hF) (k := 5) rfl) ?_
                  refine g_n 4 (pc' := 51) (L' := [some (.ref 0), some (.int 5)]) (st' := [.int 5, .ref 1, .int 0, .ref 21, .ref 179]) rfl ?_
                  refine g_aa (i := 5) (a := 1) (n := 8) (v := 21) rfl rfl (by decide) (x_at (x_f1 hF) (k := 5) rfl) ?_
                  refine g_n 1 (pc' := 55) (L' := [some (.ref 0), some (.int 5)]) (st' := [.int 0, .int 0, .ref 21, .ref 179]) rfl ?_
                  refine g_call (ins := .invokevirtual 159) (len := 3) (j := 6) (as := [.ref 179, .ref 21, .int 0, .int 0]) (rest := []) rfl rfl rfl rfl (fun _ => rfl) rfl ?_
                  refine g_in (M := x_M6) (L := [some (.ref 179), some (.ref 21), some (.int 0), some (.int 0), none, none]) x_pl6 rfl ?_
                  refine g_n 7 (pc' := 115) (L' := [some (.ref 179), some (.ref 21), some (.int 0), some (.int 0), some (.int 0), none]) (st' := []) rfl ?_
                  refine g_ret (ins := .return_) (len := 1) (r := none) rfl rfl rfl ?_
                  refine g_n 3 (pc' := 65) (L' := [some (.ref 0), some (.int 5)]) (st' := [.int 0]) rfl ?_
                  refine g_ret (ins := .ireturn) (len := 1) (r := (some (.int 0))) rfl rfl rfl ?_
                  refine ⟨⟨_, rfl⟩, ?_⟩
                  refine g_in (M := x_M416) (L := [some (.ref 281), some (.int 5), none]) x_pl416 rfl ?_
                  refine g_n 2 (pc' := 2) (L' := [some (.ref 281), some (.int 5), none]) (st' := [.int 5, .ref 281]) rfl ?_
                  refine g_call (ins := .invokevirtual 671) (len := 3) (j := 411) (as := [.ref 281, .int 5]) (rest := []) rfl rfl rfl rfl (fun _ => rfl) rfl ?_
                  refine g_in (M := x_M411) (L := [some (.ref 281), some (.int 5)]) x_pl411 rfl ?_
                  refine g_n 7 (pc' := 15) (L' := [some (.ref 281), some (.int 5)]) (st' := [.int 1]) rfl ?_
                  refine g_ret (ins := .ireturn) (len := 1) (r := (some (.int 1))) rfl rfl rfl ?_
                  refine g_n 29 (pc' := 90) (L' := [some (.ref 281), some (.int 5), some (.int 0)]) (st' := [.int 0]) rfl ?_
                  exact g_ret (ins := .ireturn) (len := 1) (r := (some (.int 0))) rfl rfl rfl ⟨_, rfl, rfl, (x_sv_set (x_sv_rf _) rfl rfl)⟩
                · have q29 : ¬ a = 5 := h27
                  have p30 : 6 ≤ a.toInt := x_lo_ne q29 p26 (by decide)
                  by_cases h31 : a = 6
                  · have e32 : a = 6 := h31
                    subst e32
                    refine g_aa (i := 6) (a := 1) (n := 8) (v := 23) rfl rfl (by decide) (x_at (x_f1 hF) (k := 6) rfl) ?_
                    refine g_n 9 (pc' := 44) (L' := [some (.ref 0), some (.int 6)]) (st' := [.int 6, .ref 1, .ref 179]) rfl ?_
                    refine g_aa (i := 6) (a := 1) (n := 8) (v := 23) rfl rfl (by decide) (x_at (x_f1 hF) (k := 6) rfl) ?_
                    refine g_n 4 (pc' := 51) (L' := [some (.ref 0), some (.int 6)]) (st' := [.int 6, .ref 1, .int 0, .ref 23, .ref 179]) rfl ?_
                    refine g_aa (i := 6) (a := 1) (n := 8) (v := 23) rfl rfl (by decide) (x_at (x_f1 hF) (k := 6) rfl) ?_
                    refine g_n 1 (pc' := 55) (L' := [some (.ref 0), some (.int 6)]) (st' := [.int 0, .int 0, .ref 23, .ref 179]) rfl ?_
                    refine g_call (ins := .invokevirtual 159) (len := 3) (j := 6) (as := [.ref 179, .ref 23, .int 0, .int 0]) (rest := []) rfl rfl rfl rfl (fun _ => rfl) rfl ?_
                    refine g_in (M := x_M6) (L := [some (.ref 179), some (.ref 23), some (.int 0), some (.int 0), none, none]) x_pl6 rfl ?_
                    refine g_n 7 (pc' := 115) (L' := [some (.ref 179), some (.ref 23), some (.int 0), some (.int 0), some (.int 0), none]) (st' := []) rfl ?_
                    refine g_ret (ins := .return_) (len := 1) (r := none) rfl rfl rfl ?_
                    refine g_n 3 (pc' := 65) (L' := [some (.ref 0), some (.int 6)]) (st' := [.int 0]) rfl ?_
                    refine g_ret (ins := .ireturn) (len := 1) (r := (some (.int 0))) rfl rfl rfl ?_
                    refine ⟨⟨_, rfl⟩, ?_⟩
                    refine g_in (M := x_M416) (L := [some (.ref 281), some (.int 6), none]) x_pl416 rfl ?_
                    refine g_n 2 (pc' := 2) (L' := [some (.ref 281), some (.int 6), none]) (st' := [.int 6, .ref 281]) rfl ?_
                    refine g_call (ins := .invokevirtual 671) (len := 3) (j := 411) (as := [.ref 281, .int 6]) (rest := []) rfl rfl rfl rfl (fun _ => rfl) rfl ?_
                    refine g_in (M := x_M411) (L := [some (.ref 281), some (.int 6)]) x_pl411 rfl ?_
                    refine g_n 7 (pc' := 15) (L' := [some (.ref 281), some (.int 6)]) (st' := [.int 1]) rfl ?_
                    refine g_ret (ins := .ireturn) (len := 1) (r := (some (.int 1))) rfl rfl rfl ?_
                    refine g_n 29 (pc' := 90) (L' := [some (.ref 281), some (.int 6), some (.int 0)]) (st' := [.int 0]) rfl ?_
                    exact g_ret (ins := .ireturn) (len := 1) (r := (some (.int 0))) rfl rfl rfl ⟨_, rfl, rfl, (x_sv_set (x_sv_rf _) rfl rfl)⟩
                  · have q33 : ¬ a = 6 := h31
                    have p34 : 7 ≤ a.toInt := x_lo_ne q33 p30 (by decide)
                    have e35 : a = 7 := x_sing p34 p6 (by decide)
                    subst e35
                    refine g_aa (i := 7) (a := 1) (n := 8) (v := 25) rfl rfl (by decide) (x_at (x_f1 hF) (k := 7) rfl) ?_
                    refine g_n 9 (pc' := 44) (L' := [some (.ref 0), some (.int 7)]) (st' := [.int 7, .ref 1, .ref 179]) rfl ?_
                    refine g_aa (i := 7) (a := 1) (n := 8) (v := 25) rfl rfl (by decide) (x_at (x_f1 hF) (k := 7) rfl) ?_
                    refine g_n 4 (pc' := 51) (L' := [some (.ref 0), some (.int 7)]) (st' := [.int 7, .ref 1, .int 0, .ref 25, .ref 179]) rfl ?_
                    refine g_aa (i := 7) (a := 1) (n := 8) (v := 25) rfl rfl (by decide) (x_at (x_f1 hF) (k := 7) rfl) ?_
                    refine g_n 1 (pc' := 55) (L' := [some (.ref 0), some (.int 7)]) (st' := [.int 0, .int 0, .ref 25, .ref 179]) rfl ?_
                    refine g_call (ins := .invokevirtual 159) (len := 3) (j := 6) (as := [.ref 179, .ref 25, .int 0, .int 0]) (rest := []) rfl rfl rfl rfl (fun _ => rfl) rfl ?_
                    refine g_in (M := x_M6) (L := [some (.ref 179), some (.ref 25), some (.int 0), some (.int 0), none, none]) x_pl6 rfl ?_
                    refine g_n 7 (pc' := 115) (L' := [some (.ref 179), some (.ref 25), some (.int 0), some (.int 0), some (.int 0), none]) (st' := []) rfl ?_
                    refine g_ret (ins := .return_) (len := 1) (r := none) rfl rfl rfl ?_
                    refine g_n 3 (pc' := 65) (L' := [some (.ref 0), some (.int 7)]) (st' := [.int 0]) rfl ?_
                    refine g_ret (ins := .ireturn) (len := 1) (r := (some (.int 0))) rfl rfl rfl ?_
                    refine ⟨⟨_, rfl⟩, ?_⟩
                    refine g_in (M := x_M416) (L := [some (.ref 281), some (.int 7), none]) x_pl416 rfl ?_
                    refine g_n 2 (pc' := 2) (L' := [some (.ref 281), some (.int 7), none]) (st' := [.int 7, .ref 281]) rfl ?_
                    refine g_call (ins := .invokevirtual 671) (len := 3) (j := 411) (as := [.ref 281, .int 7]) (rest := []) rfl rfl rfl rfl (fun _ => rfl) rfl ?_
                    refine g_in (M := x_M411) (L := [some (.ref 281), some (.int 7)]) x_pl411 rfl ?_
                    refine g_n 7 (pc' := 15) (L' := [some (.ref 281), some (.int 7)]) (st' := [.int 1]) rfl ?_
                    refine g_ret (ins := .ireturn) (len := 1) (r := (some (.int 1))) rfl rfl rfl ?_
                    refine g_n 29 (pc' := 90) (L' := [some (.ref 281), some (.int 7), some (.int 0)]) (st' := [.int 0]) rfl ?_
                    exact g_ret (ins := .ireturn) (len := 1) (r := (some (.int 0))) rfl rfl rfl ⟨_, rfl, rfl, (x_sv_set (x_sv_rf _) rfl rfl)⟩
set_option maxRecDepth 100000 in
set_option maxHeartbeats 4000000 in
theorem x_op4 {fi : Nat → Nat → Int32} {fl : Nat → Nat → Int64} {fr : Nat → Nat → Option Nat} (hF : x_F fl fr) (a : Int32) : x_ev 30 356 [.ref 0, .int a] (x_W fi fl fr) fun r S1 => (∃ fs, x_obj S1 281 = some (12, fs)) ∧ x_ev 30 417 [.ref 281, .int a] S1 (x_finI (x_W fi fl fr) r) := by
  refine g_in (M := x_M356) (L := [some (.ref 0), some (.int a)]) x_pl356 rfl ?_
  refine g_n 1 (pc' := 1) (L' := [some (.ref 0), some (.int a)]) (st' := [.int a]) rfl ?_
  refine g_call (ins := .invokestatic 150) (len := 3) (j := 347) (as := [.int a]) (rest := []) rfl rfl rfl rfl (fun _ => rfl) rfl ?_
  refine g_in (M := x_M347) (L := [some (.int a)]) x_pl347 rfl ?_
  refine g_n 1 (pc' := 1) (L' := [some (.int a)]) (st' := [.int a]) rfl ?_
  refine g_br (c := a < (0 : Int32)) (t := 14) (f := 4) (L' := [some (.int a)]) (st' := []) rfl (fun h1 => ?_) (fun h1 => ?_)
  · have p2 : a.toInt ≤ -1 := x_up_lt h1 (by decide)
    refine g_n 1 (pc' := 15) (L' := [some (.int a)]) (st' := [.int 0]) rfl ?_
    refine g_ret (ins := .ireturn) (len := 1) (r := (some (.int 0))) rfl rfl rfl ?_
    refine g_n 2 (pc' := 20) (L' := [some (.ref 0), some (.int a)]) (st' := [.int (-1)]) rfl ?_
    refine g_ret (ins := .ireturn) (len := 1) (r := (some (.int (-1)))) rfl rfl rfl ?_
    refine ⟨⟨_, rfl⟩, ?_⟩
    refine g_in (M := x_M417) (L := [some (.ref 281), some (.int a)]) x_pl417 rfl ?_
    refine g_n 2 (pc' := 2) (L' := [some (.ref 281), some (.int a)]) (st' := [.int a, .ref 281]) rfl ?_
    refine g_call (ins := .invokevirtual 671) (len := 3) (j := 411) (as := [.ref 281, .int a]) (rest := []) rfl rfl rfl rfl (fun _ => rfl) rfl ?_
    refine g_in (M := x_M411) (L := [some (.ref 281), some (.int a)]) x_pl411 rfl ?_
    refine g_n 1 (pc' := 1) (L' := [some (.ref 281), some (.int a)]) (st' := [.int a]) rfl ?_
    refine g_brT (c := a < (0 : Int32)) (t := 14) (f := 4) (L' := [some (.ref 281), some (.int a)]) (st' := []) rfl (x_Tlt (u := -1) (l := 0) p2 (by decide) (by decide)) ?_
    refine g_n 1 (pc' := 15) (L' := [some (.ref 281), some (.int a)]) (st' := [.int 0]) rfl ?_
    refine g_ret (ins := .ireturn) (len := 1) (r := (some (.int 0))) rfl rfl rfl ?_
    refine g_n 2 (pc' := 18) (L' := [some (.ref 281), some (.int a)]) (st' := [.int (-1)]) rfl ?_
    exact g_ret (ins := .ireturn) (len := 1) (r := (some (.int (-1)))) rfl rfl rfl ⟨_, rfl, rfl, (x_sv_rf _)⟩
  · have p3 : 0 ≤ a.toInt := x_lo_le (x_nlt h1) (by decide)
    refine g_n 2 (pc' := 7) (L' := [some (.int a)]) (st' := [.int 8, .int a]) rfl ?_
    refine g_br (c := (8 : Int32) ≤ a) (t := 14) (f := 10) (L' := [some (.int a)]) (st' := []) rfl (fun h4 => ?_) (fun h4 => ?_)
    · have p5 : 8 ≤ a.toInt := x_lo_le h4 (by decide)
      refine g_n 1 (pc' := 15) (L' := [some (.int a)]) (st' := [.int 0]) rfl ?_
      refine g_ret (ins := .ireturn) (len := 1) (r := (some (.int 0))) rfl rfl rfl ?_
      refine g_n 2 (pc' := 20) (L' := [some (.ref 0), some (.int a)]) (st' := [.int (-1)]) rfl ?_
      refine g_ret (ins := .ireturn) (len := 1) (r := (some (.int (-1)))) rfl rfl rfl ?_
      refine ⟨⟨_, rfl⟩, ?_⟩
      refine g_in (M := x_M417) (L := [some (.ref 281), some (.int a)]) x_pl417 rfl ?_
      refine g_n 2 (pc' := 2) (L' := [some (.ref 281), some (.int a)]) (st' := [.int a, .ref 281]) rfl ?_
      refine g_call (ins := .invokevirtual 671) (len := 3) (j := 411) (as := [.ref 281, .int a]) (rest := []) rfl rfl rfl rfl (fun _ => rfl) rfl ?_
      refine g_in (M := x_M411) (L := [some (.ref 281), some (.int a)]) x_pl411 rfl ?_
      refine g_n 1 (pc' := 1) (L' := [some (.ref 281), some (.int a)]) (st' := [.int a]) rfl ?_
      refine g_brF (c := a < (0 : Int32)) (t := 14) (f := 4) (L' := [some (.ref 281), some (.int a)]) (st' := []) rfl (x_Flt (l := 8) (u := 0) p5 (by decide) (by decide)) ?_
      refine g_n 2 (pc' := 7) (L' := [some (.ref 281), some (.int a)]) (st' := [.int 8, .int a]) rfl ?_
      refine g_brT (c := (8 : Int32) ≤ a) (t := 14) (f := 10) (L' := [some (.ref 281), some (.int a)]) (st' := []) rfl (x_Tle (u := 8) (l := 8) (by decide) p5 (by decide)) ?_
      refine g_n 1 (pc' := 15) (L' := [some (.ref 281), some (.int a)]) (st' := [.int 0]) rfl ?_
      refine g_ret (ins := .ireturn) (len := 1) (r := (some (.int 0))) rfl rfl rfl ?_
      refine g_n 2 (pc' := 18) (L' := [some (.ref 281), some (.int a)]) (st' := [.int (-1)]) rfl ?_
      exact g_ret (ins := .ireturn) (len := 1) (r := (some (.int (-1)))) rfl rfl rfl ⟨_, rfl, rfl, (x_sv_rf _)⟩
    · have p6 : a.toInt ≤ 7 := x_up_lt (x_nle h4) (by decide)
      refine g_n 2 (pc' := 15) (L' := [some (.int a)]) (st' := [.int 1]) rfl ?_
      refine g_ret (ins := .ireturn) (len := 1) (r := (some (.int 1))) rfl rfl rfl ?_
      refine g_n 4 (pc' := 12) (L' := [some (.ref 0), some (.int a)]) (st' := [.int a, .ref 1]) rfl ?_
      by_cases h7 : a = 0
      · have e8 : a = 0 := h7
        subst e8
        refine g_aa (i := 0) (a := 1) (n := 8) (v := 11) rfl rfl (by decide) (x_at (x_f1 hF) (k := 0) rfl) ?_
        refine g_n 2 (pc' := 20) (L' := [some (.ref 0), some (.int 0)]) (st' := [.int 0]) rfl ?_
        refine g_ret (ins := .ireturn) (len := 1) (r := (some (.int 0))) rfl rfl rfl ?_
        refine ⟨⟨_, rfl⟩, ?_⟩
        refine g_in (M := x_M417) (L := [some (.ref 281), some (.int 0)]) x_pl417 rfl ?_
        refine g_n 2 (pc' := 2) (L' := [some (.ref 281), some (.int 0)]) (st' := [.int 0, .ref 281]) rfl ?_
        refine g_call (ins := .invokevirtual 671) (len := 3) (j := 411) (as := [.ref 281, .int 0]) (rest := []) rfl rfl rfl rfl (fun _ => rfl) rfl ?_
        refine g_in (M := x_M411) (L := [some (.ref 281), some (.int 0)]) x_pl411 rfl ?_
        refine g_n 7 (pc' := 15) (L' := [some (.ref 281), some (.int 0)]) (st' := [.int 1]) rfl ?_
        refine g_ret (ins := .ireturn) (len := 1) (r := (some (.int 1))) rfl rfl rfl ?_
        refine g_n 6 (pc' := 18) (L' := [some (.ref 281), some (.int 0)]) (st' := [.int 0]) rfl ?_
        exact g_ret (ins := .ireturn) (len := 1) (r := (some (.int 0))) rfl rfl rfl ⟨_, rfl, rfl, (x_sv_rf _)⟩
      · have q9 : ¬ a = 0 := h7
        have p10 : 1 ≤ a.toInt := x_lo_ne q9 p3 (by decide)
        by_cases h11 : a = 1
        · have e12 : a = 1 := h11
          subst e12
          refine g_aa (i := 1) (a := 1) (n := 8) (v := 13) rfl rfl (by decide) (x_at (x_f1 hF) (k := 1) rfl) ?_
          refine g_n 2 (pc' := 20) (L' := [some (.ref 0), some (.int 1)]) (st' := [.int 0]) rfl ?_
          refine g_ret (ins := .ireturn) (len := 1) (r := (some (.int 0))) rfl rfl rfl ?_
          refine ⟨⟨_, rfl⟩, ?_⟩
          refine g_in (M := x_M417) (L := [some (.ref 281), some (.int 1)]) x_pl417 rfl ?_
          refine g_n 2 (pc' := 2) (L' := [some (.ref 281), some (.int 1)]) (st' := [.int 1, .ref 281]) rfl ?_
          refine g_call (ins := .invokevirtual 671) (len := 3) (j := 411) (as := [.ref 281, .int 1]) (rest := []) rfl rfl rfl rfl (fun _ => rfl) rfl ?_
          refine g_in (M := x_M411) (L := [some (.ref 281), some (.int 1)]) x_pl411 rfl ?_
          refine g_n 7 (pc' := 15) (L' := [some (.ref 281), some (.int 1)]) (st' := [.int 1]) rfl ?_
          refine g_ret (ins := .ireturn) (len := 1) (r := (some (.int 1))) rfl rfl rfl ?_
          refine g_n 6 (pc' := 18) (L' := [some (.ref 281), some (.int 1)]) (st' := [.int 0]) rfl ?_
          exact g_ret (ins := .ireturn) (len := 1) (r := (some (.int 0))) rfl rfl rfl ⟨_, rfl, rfl, (x_sv_rf _)⟩
        · have q13 : ¬ a = 1 := h11
          have p14 : 2 ≤ a.toInt := x_lo_ne q13 p10 (by decide)
          by_cases h15 : a = 2
          · have e16 : a = 2 := h15
            subst e16
            refine g_aa (i := 2) (a := 1) (n := 8) (v := 15) rfl rfl (by decide) (x_at (x_f1 hF) (k := 2) rfl) ?_
            refine g_n 2 (pc' := 20) (L' := [some (.ref 0), some (.int 2)]) (st' := [.int 0]) rfl ?_
            refine g_ret (ins := .ireturn) (len := 1) (r := (some (.int 0))) rfl rfl rfl ?_
            refine ⟨⟨_, rfl⟩, ?_⟩
            refine g_in (M := x_M417) (L := [some (.ref 281), some (.int 2)]) x_pl417 rfl ?_
            refine g_n 2 (pc' := 2) (L' := [some (.ref 281), some (.int 2)]) (st' := [.int 2, .ref 281]) rfl ?_
            refine g_call (ins := .invokevirtual 671) (len := 3) (j := 411) (as := [.ref 281, .int 2]) (rest := []) rfl rfl rfl rfl (fun _ => rfl) rfl ?_
            refine g_in (M := x_M411) (L := [some (.ref 281), some (.int 2)]) x_pl411 rfl ?_
            refine g_n 7 (pc' := 15) (L' := [some (.ref 281), some (.int 2)]) (st' := [.int 1]) rfl ?_
            refine g_ret (ins := .ireturn) (len := 1) (r := (some (.int 1))) rfl rfl rfl ?_
            refine g_n 6 (pc' := 18) (L' := [some (.ref 281), some (.int 2)]) (st' := [.int 0]) rfl ?_
            exact g_ret (ins := .ireturn) (len := 1) (r := (some (.int 0))) rfl rfl rfl ⟨_, rfl, rfl, (x_sv_rf _)⟩
          · have q17 : ¬ a = 2 := h15
            have p18 : 3 ≤ a.toInt := x_lo_ne q17 p14 (by decide)
            by_cases h19 : a = 3
            · have e20 : a = 3 := h19
              subst e20
              refine g_aa (i := 3) (a := 1) (n := 8) (v := 17) rfl rfl (by decide) (x_at (x_f1 hF) (k := 3) rfl) ?_
              refine g_n 2 (pc' := 20) (L' := [some (.ref 0), some (.int 3)]) (st' := [.int 0]) rfl ?_
              refine g_ret (ins := .ireturn) (len := 1) (r := (some (.int 0))) rfl rfl rfl ?_
              refine ⟨⟨_, rfl⟩, ?_⟩
              refine g_in (M := x_M417) (L := [some (.ref 281), some (.int 3)]) x_pl417 rfl ?_
              refine g_n 2 (pc' := 2) (L' := [some (.ref 281), some (.int 3)]) (st' := [.int 3, .ref 281]) rfl ?_
              refine g_call (ins := .invokevirtual 671) (len := 3) (j := 411) (as := [.ref 281, .int 3]) (rest := []) rfl rfl rfl rfl (fun _ => rfl) rfl ?_
              refine g_in (M := x_M411) (L := [some (.ref 281), some (.int 3)]) x_pl411 rfl ?_
              refine g_n 7 (pc' := 15) (L' := [some (.ref 281), some (.int 3)]) (st' := [.int 1]) rfl ?_
              refine g_ret (ins := .ireturn) (len := 1) (r := (some (.int 1))) rfl rfl rfl ?_
              refine g_n 6 (pc' := 18) (L' := [some (.ref 281), some (.int 3)]) (st' := [.int 0]) rfl ?_
              exact g_ret (ins := .ireturn) (len := 1) (r := (some (.int 0))) rfl rfl rfl ⟨_, rfl, rfl, (x_sv_rf _)⟩
            · have q21 : ¬ a = 3 := h19
              have p22 : 4 ≤ a.toInt := x_lo_ne q21 p18 (by decide)
              by_cases h23 : a = 4
              · have e24 : a = 4 := h23
                subst e24
                refine g_aa (i := 4) (a := 1) (n := 8) (v := 19) rfl rfl (by decide) (x_at (x_f1 hF) (k := 4) rfl) ?_
                refine g_n 2 (pc' := 20) (L' := [some (.ref 0), some (.int 4)]) (st' := [.int 0]) rfl ?_
                refine g_ret (ins := .ireturn) (len := 1) (r := (some (.int 0))) rfl rfl rfl ?_
                refine ⟨⟨_, rfl⟩, ?_⟩
                refine g_in (M := x_M417) (L := [some (.ref 281), some (.int 4)]) x_pl417 rfl ?_
                refine g_n 2 (pc' := 2) (L' := [some (.ref 281), some (.int 4)]) (st' := [.int 4, .ref 281]) rfl ?_
                refine g_call (ins := .invokevirtual 671) (len := 3) (j := 411) (as := [.ref 281, .int 4]) (rest := []) rfl rfl rfl rfl (fun _ => rfl) rfl ?_
                refine g_in (M := x_M411) (L := [some (.ref 281), some (.int 4)]) x_pl411 rfl ?_
                refine g_n 7 (pc' := 15) (L' := [some (.ref 281), some (.int 4)]) (st' := [.int 1]) rfl ?_
                refine g_ret (ins := .ireturn) (len := 1) (r := (some (.int 1))) rfl rfl rfl ?_
                refine g_n 6 (pc' := 18) (L' := [some (.ref 281), some (.int 4)]) (st' := [.int 0]) rfl ?_
                exact g_ret (ins := .ireturn) (len := 1) (r := (some (.int 0))) rfl rfl rfl ⟨_, rfl, rfl, (x_sv_rf _)⟩
              · have q25 : ¬ a = 4 := h23
                have p26 : 5 ≤ a.toInt := x_lo_ne q25 p22 (by decide)
                by_cases h27 : a = 5
                · have e28 : a = 5 := h27
                  subst e28
                  refine g_aa (i := 5) (a := 1) (n := 8) (v := 21) rfl rfl (by decide) (x_at (x_f1 hF) (k := 5) rfl) ?_
                  refine g_n 2 (pc' := 20) (L' := [some (.ref 0), some (.int 5)]) (st' := [.int 0]) rfl ?_
                  refine g_ret (ins := .ireturn) (len := 1) (r := (some (.int 0))) rfl rfl rfl ?_
                  refine ⟨⟨_, rfl⟩, ?_⟩
                  refine g_in (M := x_M417) (L := [some (.ref 281), some (.int 5)]) x_pl417 rfl ?_
                  refine g_n 2 (pc' := 2) (L' := [some (.ref 281), some (.int 5)]) (st' := [.int 5, .ref 281]) rfl ?_
                  refine g_call (ins := .invokevirtual 671) (len := 3) (j := 411) (as := [.ref 281, .int 5]) (rest := []) rfl rfl rfl rfl (fun _ => rfl) rfl ?_
                  refine g_in (M := x_M411) (L := [some (.ref 281), some (.int 5)]) x_pl411 rfl ?_
                  refine g_n 7 (pc' := 15) (L' := [some (.ref 281), some (.int 5)]) (st' := [.int 1]) rfl ?_
                  refine g_ret (ins := .ireturn) (len := 1) (r := (some (.int 1))) rfl rfl rfl ?_
                  refine g_n 6 (pc' := 18) (L' := [some (.ref 281), some (.int 5)]) (st' := [.int 0]) rfl ?_
                  exact g_ret (ins := .ireturn) (len := 1) (r := (some (.int 0))) rfl rfl rfl ⟨_, rfl, rfl, (x_sv_rf _)⟩
                · have q29 : ¬ a = 5 := h27
                  have p30 : 6 ≤ a.toInt := x_lo_ne q29 p26 (by decide)
                  by_cases h31 : a = 6
                  · have e32 : a = 6 := h31
                    subst e32
                    refine g_aa (i := 6) (a := 1) (n := 8) (v := 23) rfl rfl (by decide) (x_at (x_f1 hF) (k := 6) rfl) ?_
                    refine g_n 2 (pc' := 20) (L' := [some (.ref 0), some (.int 6)]) (st' := [.int 0]) rfl ?_
                    refine g_ret (ins := .ireturn) (len := 1) (r := (some (.int 0))) rfl rfl rfl ?_
                    refine ⟨⟨_, rfl⟩, ?_⟩
                    refine g_in (M := x_M417) (L := [some (.ref 281), some (.int 6)]) x_pl417 rfl ?_
                    refine g_n 2 (pc' := 2) (L' := [some (.ref 281), some (.int 6)]) (st' := [.int 6, .ref 281]) rfl ?_
                    refine g_call (ins := .invokevirtual 671) (len := 3) (j := 411) (as := [.ref 281, .int 6]) (rest := []) rfl rfl rfl rfl (fun _ => rfl) rfl ?_
                    refine g_in (M := x_M411) (L := [some (.ref 281), some (.int 6)]) x_pl411 rfl ?_
                    refine g_n 7 (pc' := 15) (L' := [some (.ref 281), some (.int 6)]) (st' := [.int 1]) rfl ?_
                    refine g_ret (ins := .ireturn) (len := 1) (r := (some (.int 1))) rfl rfl rfl ?_
                    refine g_n 6 (pc' := 18) (L' := [some (.ref 281), some (.int 6)]) (st' := [.int 0]) rfl ?_
                    exact g_ret (ins := .ireturn) (len := 1) (r := (some (.int 0))) rfl rfl rfl ⟨_, rfl, rfl, (x_sv_rf _)⟩
                  · have q33 : ¬ a = 6 := h31
                    have p34 : 7 ≤ a.toInt := x_lo_ne q33 p30 (by decide)
                    have e35 : a = 7 := x_sing p34 p6 (by decide)
                    subst e35
                    refine g_aa (i := 7) (a := 1) (n := 8) (v := 25) rfl rfl (by decide) (x_at (x_f1 hF) (k := 7) rfl) ?_
                    refine g_n 2 (pc' := 20) (L' := [some (.ref 0), some (.int 7)]) (st' := [.int 0]) rfl ?_
                    refine g_ret (ins := .ireturn) (len := 1) (r := (some (.int 0))) rfl rfl rfl ?_
                    refine ⟨⟨_, rfl⟩, ?_⟩
                    refine g_in (M := x_M417) (L := [some (.ref 281), some (.int 7)]) x_pl417 rfl ?_
                    refine g_n 2 (pc' := 2) (L' := [some (.ref 281), some (.int 7)]) (st' := [.int 7, .ref 281]) rfl ?_
                    refine g_call (ins := .invokevirtual 671) (len := 3) (j := 411) (as := [.ref 281, .int 7]) (rest := []) rfl rfl rfl rfl (fun _ => rfl) rfl ?_
                    refine g_in (M := x_M411) (L := [some (.ref 281), some (.int 7)]) x_pl411 rfl ?_
                    refine g_n 7 (pc' := 15) (L' := [some (.ref 281), some (.int 7)]) (st' := [.int 1]) rfl ?_
                    refine g_ret (ins := .ireturn) (len := 1) (r := (some (.int 1))) rfl rfl rfl ?_
                    refine g_n 6 (pc' := 18) (L' := [some (.ref 281), some (.int 7)]) (st' := [.int 0]) rfl ?_
                    exact g_ret (ins := .ireturn) (len := 1) (r := (some (.int 0))) rfl rfl rfl ⟨_, rfl, rfl, (x_sv_rf _)⟩
