/-! First calls on the fresh objects. -/
set_option maxRecDepth 100000 in
set_option maxHeartbeats 4000000 in
theorem x_op18 {fi : Nat → Nat → Int32} {fl : Nat → Nat → Int64} {fr : Nat → Nat → Option Nat} (hF : x_F fl fr) (a b : Int32) : x_ev 30 374 [.ref 0, .int a, .int b] (x_W fi fl fr) fun r S1 => (∃ fs, x_obj S1 281 = some (12, fs)) ∧ x_ev 30 556 [.ref 281, .int a, .int b] S1 (x_finI (x_W fi fl fr) r) := by
  refine g_in (M := x_M374) (L := [some (.ref 0), some (.int a), some (.int b)]) x_pl374 rfl ?_
  refine g_n 1 (pc' := 1) (L' := [some (.ref 0), some (.int a), some (.int b)]) (st' := [.int a]) rfl ?_
  refine g_call (ins := .invokestatic 280) (len := 3) (j := 349) (as := [.int a]) (rest := []) rfl rfl rfl rfl (fun _ => rfl) rfl ?_
  refine g_in (M := x_M349) (L := [some (.int a)]) x_pl349 rfl ?_
  refine g_n 1 (pc' := 1) (L' := [some (.int a)]) (st' := [.int a]) rfl ?_
  refine g_br (c := a < (0 : Int32)) (t := 14) (f := 4) (L' := [some (.int a)]) (st' := []) rfl (fun h1 => ?_) (fun h1 => ?_)
  · have p2 : a.toInt ≤ -1 := x_up_lt h1 (by decide)
    refine g_n 1 (pc' := 15) (L' := [some (.int a)]) (st' := [.int 0]) rfl ?_
    refine g_ret (ins := .ireturn) (len := 1) (r := (some (.int 0))) rfl rfl rfl ?_
    refine g_n 2 (pc' := 15) (L' := [some (.ref 0), some (.int a), some (.int b)]) (st' := [.int (-1)]) rfl ?_
    refine g_ret (ins := .ireturn) (len := 1) (r := (some (.int (-1)))) rfl rfl rfl ?_
    refine ⟨⟨_, rfl⟩, ?_⟩
    refine g_in (M := x_M556) (L := [some (.ref 281), some (.int a), some (.int b)]) x_pl556 rfl ?_
    refine g_n 2 (pc' := 2) (L' := [some (.ref 281), some (.int a), some (.int b)]) (st' := [.int a, .ref 281]) rfl ?_
    refine g_call (ins := .invokevirtual 1213) (len := 3) (j := 541) (as := [.ref 281, .int a]) (rest := []) rfl rfl rfl rfl (fun _ => rfl) rfl ?_
    refine g_in (M := x_M541) (L := [some (.ref 281), some (.int a)]) x_pl541 rfl ?_
    refine g_n 1 (pc' := 1) (L' := [some (.ref 281), some (.int a)]) (st' := [.int a]) rfl ?_
    refine g_brT (c := a < (0 : Int32)) (t := 14) (f := 4) (L' := [some (.ref 281), some (.int a)]) (st' := []) rfl (x_Tlt (u := -1) (l := 0) p2 (by decide) (by decide)) ?_
    refine g_n 1 (pc' := 15) (L' := [some (.ref 281), some (.int a)]) (st' := [.int 0]) rfl ?_
    refine g_ret (ins := .ireturn) (len := 1) (r := (some (.int 0))) rfl rfl rfl ?_
    refine g_n 2 (pc' := 17) (L' := [some (.ref 281), some (.int a), some (.int b)]) (st' := [.int (-1)]) rfl ?_
    exact g_ret (ins := .ireturn) (len := 1) (r := (some (.int (-1)))) rfl rfl rfl ⟨_, rfl, rfl, (x_sv_rf _)⟩
  · have p3 : 0 ≤ a.toInt := x_lo_le (x_nlt h1) (by decide)
    refine g_n 2 (pc' := 7) (L' := [some (.int a)]) (st' := [.int 12, .int a]) rfl ?_
    refine g_br (c := (12 : Int32) ≤ a) (t := 14) (f := 10) (L' := [some (.int a)]) (st' := []) rfl (fun h4 => ?_) (fun h4 => ?_)
    · have p5 : 12 ≤ a.toInt := x_lo_le h4 (by decide)
      refine g_n 1 (pc' := 15) (L' := [some (.int a)]) (st' := [.int 0]) rfl ?_
      refine g_ret (ins := .ireturn) (len := 1) (r := (some (.int 0))) rfl rfl rfl ?_
      refine g_n 2 (pc' := 15) (L' := [some (.ref 0), some (.int a), some (.int b)]) (st' := [.int (-1)]) rfl ?_
      refine g_ret (ins := .ireturn) (len := 1) (r := (some (.int (-1)))) rfl rfl rfl ?_
      refine ⟨⟨_, rfl⟩, ?_⟩
      refine g_in (M := x_M556) (L := [some (.ref 281), some (.int a), some (.int b)]) x_pl556 rfl ?_
      refine g_n 2 (pc' := 2) (L' := [some (.ref 281), some (.int a), some (.int b)]) (st' := [.int a, .ref 281]) rfl ?_
      refine g_call (ins := .invokevirtual 1213) (len := 3) (j := 541) (as := [.ref 281, .int a]) (rest := []) rfl rfl rfl rfl (fun _ => rfl) rfl ?_
      refine g_in (M := x_M541) (L := [some (.ref 281), some (.int a)]) x_pl541 rfl ?_
      refine g_n 1 (pc' := 1) (L' := [some (.ref 281), some (.int a)]) (st' := [.int a]) rfl ?_
      refine g_brF (c := a < (0 : Int32)) (t := 14) (f := 4) (L' := [some (.ref 281), some (.int a)]) (st' := []) rfl (x_Flt (l := 12) (u := 0) p5 (by decide) (by decide)) ?_
      refine g_n 2 (pc' := 7) (L' := [some (.ref 281), some (.int a)]) (st' := [.int 12, .int a]) rfl ?_
      refine g_brT (c := (12 : Int32) ≤ a) (t := 14) (f := 10) (L' := [some (.ref 281), some (.int a)]) (st' := []) rfl (x_Tle (u := 12) (l := 12) (by decide) p5 (by decide)) ?_
      refine g_n 1 (pc' := 15) (L' := [some (.ref 281), some (.int a)]) (st' := [.int 0]) rfl ?_
      refine g_ret (ins := .ireturn) (len := 1) (r := (some (.int 0))) rfl rfl rfl ?_
      refine g_n 2 (pc' := 17) (L' := [some (.ref 281), some (.int a), some (.int b)]) (st' := [.int (-1)]) rfl ?_
      exact g_ret (ins := .ireturn) (len := 1) (r := (some (.int (-1)))) rfl rfl rfl ⟨_, rfl, rfl, (x_sv_rf _)⟩
    · have p6 : a.toInt ≤ 11 := x_up_lt (x_nle h4) (by decide)
      refine g_n 2 (pc' := 15) (L' := [some (.int a)]) (st' := [.int 1]) rfl ?_
      refine g_ret (ins := .ireturn) (len := 1) (r := (some (.int 1))) rfl rfl rfl ?_
      refine g_n 2 (pc' := 8) (L' := [some (.ref 0), some (.int a), some (.int b)]) (st' := [.int b]) rfl ?_
      refine g_call (ins := .invokestatic 150) (len := 3) (j := 347) (as := [.int b]) (rest := []) rfl rfl rfl rfl (fun _ => rfl) rfl ?_
      refine g_in (M := x_M347) (L := [some (.int b)]) x_pl347 rfl ?_
      refine g_n 1 (pc' := 1) (L' := [some (.int b)]) (st' := [.int b]) rfl ?_
      refine g_br (c := b < (0 : Int32)) (t := 14) (f := 4) (L' := [some (.int b)]) (st' := []) rfl (fun h7 => ?_) (fun h7 => ?_)
      · have p8 : b.toInt ≤ -1 := x_up_lt h7 (by decide)
        refine g_n 1 (pc' := 15) (L' := [some (.int b)]) (st' := [.int 0]) rfl ?_
        refine g_ret (ins := .ireturn) (len := 1) (r := (some (.int 0))) rfl rfl rfl ?_
        refine g_n 2 (pc' := 15) (L' := [some (.ref 0), some (.int a), some (.int b)]) (st' := [.int (-1)]) rfl ?_
        refine g_ret (ins := .ireturn) (len := 1) (r := (some (.int (-1)))) rfl rfl rfl ?_
        refine ⟨⟨_, rfl⟩, ?_⟩
        refine g_in (M := x_M556) (L := [some (.ref 281), some (.int a), some (.int b)]) x_pl556 rfl ?_
        refine g_n 2 (pc' := 2) (L' := [some (.ref 281), some (.int a), some (.int b)]) (st' := [.int a, .ref 281]) rfl ?_
        refine g_call (ins := .invokevirtual 1213) (len := 3) (j := 541) (as := [.ref 281, .int a]) (rest := []) rfl rfl rfl rfl (fun _ => rfl) rfl ?_
        refine g_in (M := x_M541) (L := [some (.ref 281), some (.int a)]) x_pl541 rfl ?_
        refine g_n 1 (pc' := 1) (L' := [some (.ref 281), some (.int a)]) (st' := [.int a]) rfl ?_
        refine g_brF (c := a < (0 : Int32)) (t := 14) (f := 4) (L' := [some (.ref 281), some (.int a)]) (st' := []) rfl (x_Flt (l := 0) (u := 0) p3 (by decide) (by decide)) ?_
        refine g_n 2 (pc' := 7) (L' := [some (.ref 281), some (.int a)]) (st' := [.int 12, .int a]) rfl ?_
        refine g_brF (c := (12 : Int32) ≤ a) (t := 14) (f := 10) (L' := [some (.ref 281), some (.int a)]) (st' := []) rfl (x_Fle (l := 12) (u := 11) (by decide) p6 (by decide)) ?_
        refine g_n 2 (pc' := 15) (L' := [some (.ref 281), some (.int a)]) (st' := [.int 1]) rfl ?_
        refine g_ret (ins := .ireturn) (len := 1) (r := (some (.int 1))) rfl rfl rfl ?_
        refine g_n 3 (pc' := 10) (L' := [some (.ref 281), some (.int a), some (.int b)]) (st' := [.int b, .ref 281]) rfl ?_
        refine g_call (ins := .invokevirtual 671) (len := 3) (j := 411) (as := [.ref 281, .int b]) (rest := []) rfl rfl rfl rfl (fun _ => rfl) rfl ?_
        refine g_in (M := x_M411) (L := [some (.ref 281), some (.int b)]) x_pl411 rfl ?_
        refine g_n 1 (pc' := 1) (L' := [some (.ref 281), some (.int b)]) (st' := [.int b]) rfl ?_
        refine g_brT (c := b < (0 : Int32)) (t := 14) (f := 4) (L' := [some (.ref 281), some (.int b)]) (st' := []) rfl (x_Tlt (u := -1) (l := 0) p8 (by decide) (by decide)) ?_
        refine g_n 1 (pc' := 15) (L' := [some (.ref 281), some (.int b)]) (st' := [.int 0]) rfl ?_
        refine g_ret (ins := .ireturn) (len := 1) (r := (some (.int 0))) rfl rfl rfl ?_
        refine g_n 2 (pc' := 17) (L' := [some (.ref 281), some (.int a), some (.int b)]) (st' := [.int (-1)]) rfl ?_
        exact g_ret (ins := .ireturn) (len := 1) (r := (some (.int (-1)))) rfl rfl rfl ⟨_, rfl, rfl, (x_sv_rf _)⟩
      · have p9 : 0 ≤ b.toInt := x_lo_le (x_nlt h7) (by decide)
        refine g_n 2 (pc' := 7) (L' := [some (.int b)]) (st' := [.int 8, .int b]) rfl ?_
        refine g_br (c := (8 : Int32) ≤ b) (t := 14) (f := 10) (L' := [some (.int b)]) (st' := []) rfl (fun h10 => ?_) (fun h10 => ?_)
        · have p11 : 8 ≤ b.toInt := x_lo_le h10 (by decide)
          refine g_n 1 (pc' := 15) (L' := [some (.int b)]) (st' := [.int 0]) rfl ?_
          refine g_ret (ins := .ireturn) (len := 1) (r := (some (.int 0))) rfl rfl rfl ?_
          refine g_n 2 (pc' := 15) (L' := [some (.ref 0), some (.int a), some (.int b)]) (st' := [.int (-1)]) rfl ?_
          refine g_ret (ins := .ireturn) (len := 1) (r := (some (.int (-1)))) rfl rfl rfl ?_
          refine ⟨⟨_, rfl⟩, ?_⟩
          refine g_in (M := x_M556) (L := [some (.ref 281), some (.int a), some (.int b)]) x_pl556 rfl ?_
          refine g_n 2 (pc' := 2) (L' := [some (.ref 281), some (.int a), some (.int b)]) (st' := [.int a, .ref 281]) rfl ?_
          refine g_call (ins := .invokevirtual 1213) (len := 3) (j := 541) (as := [.ref 281, .int a]) (rest := []) rfl rfl rfl rfl (fun _ => rfl) rfl ?_
          refine g_in (M := x_M541) (L := [some (.ref 281), some (.int a)]) x_pl541 rfl ?_
          refine g_n 1 (pc' := 1) (L' := [some (.ref 281), some (.int a)]) (st' := [.int a]) rfl ?_
          refine g_brF (c := a < (0 : Int32)) (t := 14) (f := 4) (L' := [some (.ref 281), some (.int a)]) (st' := []) rfl (x_Flt (l := 0) (u := 0) p3 (by decide) (by decide)) ?_
          refine g_n 2 (pc' := 7) (L' := [some (.ref 281), some (.int a)]) (st' := [.int 12, .int a]) rfl ?_
          refine g_brF (c := (12 : Int32) ≤ a) (t := 14) (f := 10) (L' := [some (.ref 281), some (.int a)]) (st' := []) rfl (x_Fle (l := 12) (u := 11) (by decide) p6 (by decide)) ?_
          refine g_n 2 (pc' := 15) (L' := [some (.ref 281), some (.int a)]) (st' := [.int 1]) rfl ?_
          refine g_ret (ins := .ireturn) (len := 1) (r := (some (.int 1))) rfl rfl rfl ?_
          refine g_n 3 (pc' := 10) (L' := [some (.ref 281), some (.int a), some (.int b)]) (st' := [.int b, .ref 281]) rfl ?_
          refine g_call (ins := .invokevirtual 671) (len := 3) (j := 411) (as := [.ref 281, .int b]) (rest := []) rfl rfl rfl rfl (fun _ => rfl) rfl ?_
          refine g_in (M := x_M411) (L := [some (.ref 281), some (.int b)]) x_pl411 rfl ?_
          refine g_n 1 (pc' := 1) (L' := [some (.ref 281), some (.int b)]) (st' := [.int b]) rfl ?_
          refine g_brF (c := b < (0 : Int32)) (t := 14) (f := 4) (L' := [some (.ref 281), some (.int b)]) (st' := []) rfl (x_Flt (l := 8) (u := 0) p11 (by decide) (by decide)) ?_
          refine g_n 2 (pc' := 7) (L' := [some (.ref 281), some (.int b)]) (st' := [.int 8, .int b]) rfl ?_
          refine g_brT (c := (8 : Int32) ≤ b) (t := 14) (f := 10) (L' := [some (.ref 281), some (.int b)]) (st' := []) rfl (x_Tle (u := 8) (l := 8) (by decide) p11 (by decide)) ?_
          refine g_n 1 (pc' := 15) (L' := [some (.ref 281), some (.int b)]) (st' := [.int 0]) rfl ?_
          refine g_ret (ins := .ireturn) (len := 1) (r := (some (.int 0))) rfl rfl rfl ?_
          refine g_n 2 (pc' := 17) (L' := [some (.ref 281), some (.int a), some (.int b)]) (st' := [.int (-1)]) rfl ?_
          exact g_ret (ins := .ireturn) (len := 1) (r := (some (.int (-1)))) rfl rfl rfl ⟨_, rfl, rfl, (x_sv_rf _)⟩
        · have p12 : b.toInt ≤ 7 := x_up_lt (x_nle h10) (by decide)
          refine g_n 2 (pc' := 15) (L' := [some (.int b)]) (st' := [.int 1]) rfl ?_
          refine g_ret (ins := .ireturn) (len := 1) (r := (some (.int 1))) rfl rfl rfl ?_
          refine g_n 4 (pc' := 21) (L' := [some (.ref 0), some (.int a), some (.int b)]) (st' := [.int a, .ref 3]) rfl ?_
          by_cases h13 : a = 0
          · have e14 : a = 0 := h13
            subst e14
            refine g_aa (i := 0) (a := 3) (n := 12) (v := 119) rfl rfl (by decide) (x_at (x_f3 hF) (k := 0) rfl) ?_
            refine g_n 3 (pc' := 30) (L' := [some (.ref 0), some (.int 0), some (.int b)]) (st' := [.int (-2)]) rfl ?_
            refine g_ret (ins := .ireturn) (len := 1) (r := (some (.int (-2)))) rfl rfl rfl ?_
            refine ⟨⟨_, rfl⟩, ?_⟩
            refine g_in (M := x_M556) (L := [some (.ref 281), some (.int 0), some (.int b)]) x_pl556 rfl ?_
            refine g_n 2 (pc' := 2) (L' := [some (.ref 281), some (.int 0), some (.int b)]) (st' := [.int 0, .ref 281]) rfl ?_
            refine g_call (ins := .invokevirtual 1213) (len := 3) (j := 541) (as := [.ref 281, .int 0]) (rest := []) rfl rfl rfl rfl (fun _ => rfl) rfl ?_
            refine g_in (M := x_M541) (L := [some (.ref 281), some (.int 0)]) x_pl541 rfl ?_
            refine g_n 7 (pc' := 15) (L' := [some (.ref 281), some (.int 0)]) (st' := [.int 1]) rfl ?_
            refine g_ret (ins := .ireturn) (len := 1) (r := (some (.int 1))) rfl rfl rfl ?_
            refine g_n 3 (pc' := 10) (L' := [some (.ref 281), some (.int 0), some (.int b)]) (st' := [.int b, .ref 281]) rfl ?_
            refine g_call (ins := .invokevirtual 671) (len := 3) (j := 411) (as := [.ref 281, .int b]) (rest := []) rfl rfl rfl rfl (fun _ => rfl) rfl ?_
            refine g_in (M := x_M411) (L := [some (.ref 281), some (.int b)]) x_pl411 rfl ?_
            refine g_n 1 (pc' := 1) (L' := [some (.ref 281), some (.int b)]) (st' := [.int b]) rfl ?_
            refine g_brF (c := b < (0 : Int32)) (t := 14) (f := 4) (L' := [some (.ref 281), some (.int b)]) (st' := []) rfl (x_Flt (l := 0) (u := 0) p9 (by decide) (by decide)) ?_
            refine g_n 2 (pc' := 7) (L' := [some (.ref 281), some (.int b)]) (st' := [.int 8, .int b]) rfl ?_
            refine g_brF (c := (8 : Int32) ≤ b) (t := 14) (f := 10) (L' := [some (.ref 281), some (.int b)]) (st' := []) rfl (x_Fle (l := 8) (u := 7) (by decide) p12 (by decide)) ?_
            refine g_n 2 (pc' := 15) (L' := [some (.ref 281), some (.int b)]) (st' := [.int 1]) rfl ?_
            refine g_ret (ins := .ireturn) (len := 1) (r := (some (.int 1))) rfl rfl rfl ?_
            refine g_n 7 (pc' := 29) (L' := [some (.ref 281), some (.int 0), some (.int b)]) (st' := [.int (-2)]) rfl ?_
            exact g_ret (ins := .ireturn) (len := 1) (r := (some (.int (-2)))) rfl rfl rfl ⟨_, rfl, rfl, (x_sv_rf _)⟩
          · have q15 : ¬ a = 0 := h13
            have p16 : 1 ≤ a.toInt := x_lo_ne q15 p3 (by decide)
            by_cases h17 : a = 1
            · have e18 : a = 1 := h17
              subst e18
              refine g_aa (i := 1) (a := 3) (n := 12) (v := 124) rfl rfl (by decide) (x_at (x_f3 hF) (k := 1) rfl) ?_
              refine g_n 3 (pc' := 30) (L' := [some (.ref 0), some (.int 1), some (.int b)]) (st' := [.int (-2)]) rfl ?_
              refine g_ret (ins := .ireturn) (len := 1) (r := (some (.int (-2)))) rfl rfl rfl ?_
              refine ⟨⟨_, rfl⟩, ?_⟩
              refine g_in (M := x_M556) (L := [some (.ref 281), some (.int 1), some (.int b)]) x_pl556 rfl ?_
              refine g_n 2 (pc' := 2) (L' := [some (.ref 281), some (.int 1), some (.int b)]) (st' := [.int 1, .ref 281]) rfl ?_
              refine g_call (ins := .invokevirtual 1213) (len := 3) (j := 541) (as := [.ref 281, .int 1]) (rest := []) rfl rfl rfl rfl (fun _ => rfl) rfl ?_
              refine g_in (M := x_M541) (L := [some (.ref 281), some (.int 1)]) x_pl541 rfl ?_
              refine g_n 7 (pc' := 15) (L' := [some (.ref 281), some (.int 1)]) (st' := [.int 1]) rfl ?_
              refine g_ret (ins := .ireturn) (len := 1) (r := (some (.int 1))) rfl rfl rfl ?_
              refine g_n 3 (pc' := 10) (L' := [some (.ref 281), some (.int 1), some (.int b)]) (st' := [.int b, .ref 281]) rfl ?_
              refine g_call (ins := .invokevirtual 671) (len := 3) (j := 411) (as := [.ref 281, .int b]) (rest := []) rfl rfl rfl rfl (fun _ => rfl) rfl ?_
              refine g_in (M := x_M411) (L := [some (.ref 281), some (.int b)]) x_pl411 rfl ?_
              refine g_n 1 (pc' := 1) (L' := [some (.ref 281), some (.int b)]) (st' := [.int b]) rfl ?_
              refine g_brF (c := b < (0 : Int32)) (t := 14) (f := 4) (L' := [some (.ref 281), some (.int b)]) (st' := []) rfl (x_Flt (l := 0) (u := 0) p9 (by decide) (by decide)) ?_
              refine g_n 2 (pc' := 7) (L' := [some (.ref 281), some (.int b)]) (st' := [.int 8, .int b]) rfl ?_
              refine g_brF (c := (8 : Int32) ≤ b) (t := 14) (f := 10) (L' := [some (.ref 281), some (.int b)]) (st' := []) rfl (x_Fle (l := 8) (u := 7) (by decide) p12 (by decide)) ?_
              refine g_n 2 (pc' := 15) (L' := [some (.ref 281), some (.int b)]) (st' := [.int 1]) rfl ?_
              refine g_ret (ins := .ireturn) (len := 1) (r := (some (.int 1))) rfl rfl rfl ?_
              refine g_n 7 (pc' := 29) (L' := [some (.ref 281), some (.int 1), some (.int b)]) (st' := [.int (-2)]) rfl ?_
              exact g_ret (ins := .ireturn) (len := 1) (r := (some (.int (-2)))) rfl rfl rfl ⟨_, rfl, rfl, (x_sv_rf _)⟩
            · have q19 : ¬ a = 1 := h17
              have p20 : 2 ≤ a.toInt := x_lo_ne q19 p16 (by decide)
              by_cases h21 : a = 2
              · have e22 : a = 2 := h21
                subst e22
                refine g_aa (i := 2) (a := 3) (n := 12) (v := 129) rfl rfl (by decide) (x_at (x_f3 hF) (k := 2) rfl) ?_
                refine g_n 3 (pc' := 30) (L' := [some (.ref 0), some (.int 2), some (.int b)]) (st' := [.int (-2)]) rfl ?_
                refine g_ret (ins := .ireturn) (len := 1) (r := (some (.int (-2)))) rfl rfl rfl ?_
                refine ⟨⟨_, rfl⟩, ?_⟩
                refine g_in (M := x_M556) (L := [some (.ref 281), some (.int 2), some (.int b)]) x_pl556 rfl ?_
                refine g_n 2 (pc' := 2) (L' := [some (.ref 281), some (.int 2), some (.int b)]) (st' := [.int 2, .ref 281]) rfl ?_
                refine g_call (ins := .invokevirtual 1213) (len := 3) (j := 541) (as := [.ref 281, .int 2]) (rest := []) rfl rfl rfl rfl (fun _ => rfl) rfl ?_
                refine g_in (M := x_M541) (L := [some (.ref 281), some (.int 2)]) x_pl541 rfl ?_
                refine g_n 7 (pc' := 15) (L' := [some (.ref 281), some (.int 2)]) (st' := [.int 1]) rfl ?_
                refine g_ret (ins := .ireturn) (len := 1) (r := (some (.int 1))) rfl rfl rfl ?_
                refine g_n 3 (pc' := 10) (L' := [some (.ref 281), some (.int 2), some (.int b)]) (st' := [.int b, .ref 281]) rfl ?_
                refine g_call (ins := .invokevirtual 671) (len := 3) (j := 411) (as := [.ref 281, .int b]) (rest := []) rfl rfl rfl rfl (fun _ => rfl) rfl ?_
                refine g_in (M := x_M411) (L := [some (.ref 281), some (.int b)]) x_pl411 rfl ?_
                refine g_n 1 (pc' := 1) (L' := [some (.ref 281), some (.int b)]) (st' := [.int b]) rfl ?_
                refine g_brF (c := b < (0 : Int32)) (t := 14) (f := 4) (L' := [some (.ref 281), some (.int b)]) (st' := []) rfl (x_Flt (l := 0) (u := 0) p9 (by decide) (by decide)) ?_
                refine g_n 2 (pc' := 7) (L' := [some (.ref 281), some (.int b)]) (st' := [.int 8, .int b]) rfl ?_
                refine g_brF (c := (8 : Int32) ≤ b) (t := 14) (f := 10) (L' := [some (.ref 281), some (.int b)]) (st' := []) rfl (x_Fle (l := 8) (u := 7) (by decide) p12 (by decide)) ?_
                refine g_n 2 (pc' := 15) (L' := [some (.ref 281), some (.int b)]) (st' := [.int 1]) rfl ?_
                refine g_ret (ins := .ireturn) (len := 1) (r := (some (.int 1))) rfl rfl rfl ?_
                refine g_n 7 (pc' := 29) (L' := [some (.ref 281), some (.int 2), some (.int b)]) (st' := [.int (-2)]) rfl ?_
                exact g_ret (ins := .ireturn) (len := 1) (r := (some (.int (-2)))) rfl rfl rfl ⟨_, rfl, rfl, (x_sv_rf _)⟩
              · have q23 : ¬ a = 2 := h21
                have p24 : 3 ≤ a.toInt := x_lo_ne q23 p20 (by decide)
                by_cases h25 : a = 3
                · have e26 : a = 3 := h25
                  subst e26
                  refine g_aa (i := 3) (a := 3) (n := 12) (v := 134) rfl rfl (by decide) (x_at (x_f3 hF) (k := 3) rfl) ?_
                  refine g_n 3 (pc' := 30) (L' := [some (.ref 0), some (.int 3), some (.int b)]) (st' := [.int (-2)]) rfl ?_
                  refine g_ret (ins := .ireturn) (len := 1) (r := (some (.int (-2)))) rfl rfl rfl ?_
                  refine ⟨⟨_, rfl⟩, ?_⟩
                  refine g_in (M := x_M556) (L := [some (.ref 281), some (.int 3), some (.int b)]) x_pl556 rfl ?_
                  refine g_n 2 (pc' := 2) (L' := [some (.ref 281), some (.int 3), some (.int b)]) (st' := [.int 3, .ref 281]) rfl ?_
                  refine g_call (ins := .invokevirtual 1213) (len := 3) (j := 541) (as := [.ref 281, .int 3]) (rest := []) rfl rfl rfl rfl (fun _ => rfl) rfl ?_
                  refine g_in (M := x_M541) (L := [some (.ref 281), some (.int 3)]) x_pl541 rfl ?_
                  refine g_n 7 (pc' := 15) (L' := [some (.ref 281), some (.int 3)]) (st' := [.int 1]) rfl ?_
                  refine g_ret (ins := .ireturn) (len := 1) (r := (some (.int 1))) rfl rfl rfl ?_
                  refine g_n 3 (pc' := 10) (L' := [some (.ref 281), some (.int 3), some (.int b)]) (st' := [.int b, .ref 281]) rfl ?_
                  refine g_call (ins := .invokevirtual 671) (len := 3) (j := 411) (as := [.ref 281, .int b]) (rest := []) rfl rfl rfl rfl (fun _ => rfl) rfl ?_
                  refine g_in (M := x_M411) (L := [some (.ref 281), some (.int b)]) x_pl411 rfl ?_
                  refine g_n 1 (pc' := 1) (L' := [some (.ref 281), some (.int b)]) (st' := [.int b]) rfl ?_
                  refine g_brF (c := b < (0 : Int32)) (t := 14) (f := 4) (L' := [some (.ref 281), some (.int b)]) (st' := []) rfl (x_Flt (l := 0) (u := 0) p9 (by decide) (by decide)) ?_
                  refine g_n 2 (pc' := 7) (L' := [some (.ref 281), some (.int b)]) (st' := [.int 8, .int b]) rfl ?_
                  refine g_brF (c := (8 : Int32) ≤ b) (t := 14) (f := 10) (L' := [some (.ref 281), some (.int b)]) (st' := []) rfl (x_Fle (l := 8) (u := 7) (by decide) p12 (by decide)) ?_
                  refine g_n 2 (pc' := 15) (L' := [some (.ref 281), some (.int b)]) (st' := [.int 1]) rfl ?_
                  refine g_ret (ins := .ireturn) (len := 1) (r := (some (.int 1))) rfl rfl rfl ?_
                  refine g_n 7 (pc' := 29) (L' := [some (.ref 281), some (.int 3), some (.int b)]) (st' := [.int (-2)]) rfl ?_
                  exact g_ret (ins := .ireturn) (len := 1) (r := (some (.int (-2)))) rfl rfl rfl ⟨_, rfl, rfl, (x_sv_rf _)⟩
                · have q27 : ¬ a = 3 := h25
                  have p28 : 4 ≤ a.toInt := x_lo_ne q27 p24 (by decide)
                  by_cases h29 : a = 4
                  · have e30 : a = 4 := h29
                    subst e30
                    refine g_aa (i := 4) (a := 3) (n := 12) (v := 139) rfl rfl (by decide) (x_at (x_f3 hF) (k := 4) rfl) ?_
                    refine g_n 3 (pc' := 30) (L' := [some (.ref 0), some (.int 4), some (.int b)]) (st' := [.int (-2)]) rfl ?_
                    refine g_ret (ins := .ireturn) (len := 1) (r := (some (.int (-2)))) rfl rfl rfl ?_
                    refine ⟨⟨_, rfl⟩, ?_⟩
                    refine g_in (M := x_M556) (L := [some (.ref 281), some (.int 4), some (.int b)]) x_pl556 rfl ?_
                    refine g_n 2 (pc' := 2) (L' := [some (.ref 281), some (.int 4), some (.int b)]) (st' := [.int 4, .ref 281]) rfl ?_
                    refine g_call (ins := .invokevirtual 1213) (len := 3) (j := 541) (as := [.ref 281, .int 4]) (rest := []) rfl rfl rfl rfl (fun _ => rfl) rfl ?_
                    refine g_in (M := x_M541) (L := [some (.ref 281), some (.int 4)]) x_pl541 rfl ?_
                    refine g_n 7 (pc' := 15) (L' := [some (.ref 281), some (.int 4)]) (st' := [.int 1]) rfl ?_
                    refine g_ret (ins := .ireturn) (len := 1) (r := (some (.int 1))) rfl rfl rfl ?_
                    refine g_n 3 (pc' := 10) (L' := [some (.ref 281), some (.int 4), some (.int b)]) (st' := [.int b, .ref 281]) rfl ?_
                    refine g_call (ins := .invokevirtual 671) (len := 3) (j := 411) (as := [.ref 281, .int b]) (rest := []) rfl rfl rfl rfl (fun _ => rfl) rfl ?_
                    refine g_in (M := x_M411) (L := [some (.ref 281), some (.int b)]) x_pl411 rfl ?_
                    refine g_n 1 (pc' := 1) (L' := [some (.ref 281), some (.int b)]) (st' := [.int b]) rfl ?_
                    refine g_brF (c := b < (0 : Int32)) (t := 14) (f := 4) (L' := [some (.ref 281), some (.int b)]) (st' := []) rfl (x_Flt (l := 0) (u := 0) p9 (by decide) (by decide)) ?_
                    refine g_n 2 (pc' := 7) (L' := [some (.ref 281), some (.int b)]) (st' := [.int 8, .int b]) rfl ?_
                    refine g_brF (c := (8 : Int32) ≤ b) (t := 14) (f := 10) (L' := [some (.ref 281), some (.int b)]) (st' := []) rfl (x_Fle (l := 8) (u := 7) (by decide) p12 (by decide)) ?_
                    refine g_n 2 (pc' := 15) (L' := [some (.ref 281), some (.int b)]) (st' := [.int 1]) rfl ?_
                    refine g_ret (ins := .ireturn) (len := 1) (r := (some (.int 1))) rfl rfl rfl ?_
                    refine g_n 7 (pc' := 29) (L' := [some (.ref 281), some (.int 4), some (.int b)]) (st' := [.int (-2)]) rfl ?_
                    exact g_ret (ins := .ireturn) (len := 1) (r := (some (.int (-2)))) rfl rfl rfl ⟨_, rfl, rfl, (x_sv_rf _)⟩
                  · have q31 : ¬ a = 4 := h29
                    have p32 : 5 ≤ a.toInt := x_lo_ne q31 p28 (by decide)
                    by_cases h33 : a = 5
                    · have e34 : a = 5 := h33
                      subst e34
                      refine g_aa (i := 5) (a := 3) (n := 12) (v := 144) rfl rfl (by decide) (x_at (x_f3 hF) (k := 5) rfl) ?_
                      refine g_n 3 (pc' := 30) (L' := [some (.ref 0), some (.int 5), some (.int b)]) (st' := [.int (-2)]) rfl ?_
                      refine g_ret (ins := .ireturn) (len := 1) (r := (some (.int (-2)))) rfl rfl rfl ?_
                      refine ⟨⟨_, rfl⟩, ?_⟩
                      refine g_in (M := x_M556) (L := [some (.ref 281), some (.int 5), some (.int b)]) x_pl556 rfl ?_
                      refine g_n 2 (pc' := 2) (L' := [some (.ref 281), some (.int 5), some (.int b)]) (st' := [.int 5, .ref 281]) rfl ?_
                      refine g_call (ins := .invokevirtual 1213) (len := 3) (j := 541) (as := [.ref 281, .int 5]) (rest := []) rfl rfl rfl rfl (fun _ => rfl) rfl ?_
                      refine g_in (M := x_M541) (L := [some (.ref 281), some (.int 5)]) x_pl541 rfl ?_
                      refine g_n 7 (pc' := 15) (L' := [some (.ref 281), some (.int 5)]) (st' := [.int 1]) rfl ?_
                      refine g_ret (ins := .ireturn) (len := 1) (r := (some (.int 1))) rfl rfl rfl ?_
                      refine g_n 3 (pc' := 10) (L' := [some (.ref 281), some (.int 5), some (.int b)]) (st' := [.int b, .ref 281]) rfl ?_
                      refine g_call (ins := .invokevirtual 671) (len := 3) (j := 411) (as := [.ref 281, .int b]) (rest := []) rfl rfl rfl rfl (fun _ => rfl) rfl ?_
                      refine g_in (M := x_M411) (L := [some (.ref 281), some (.int b)]) x_pl411 rfl ?_
                      refine g_n 1 (pc' := 1) (L' := [some (.ref 281), some (.int b)]) (st' := [.int b]) rfl ?_
                      refine g_brF (c := b < (0 : Int32)) (t := 14) (f := 4) (L' := [some (.ref 281), some (.int b)]) (st' := []) rfl (x_Flt (l := 0) (u := 0) p9 (by decide) (by decide)) ?_
                      refine g_n 2 (pc' := 7) (L' := [some (.ref 281), some (.int b)]) (st' := [.int 8, .int b]) rfl ?_
                      refine g_brF (c := (8 : Int32) ≤ b) (t := 14) (f := 10) (L' := [some (.ref 281), some (.int b)]) (st' := []) rfl (x_Fle (l := 8) (u := 7) (by decide) p12 (by decide)) ?_
                      refine g_n 2 (pc' := 15) (L' := [some (.ref 281), some (.int b)]) (st' := [.int 1]) rfl ?_
                      refine g_ret (ins := .ireturn) (len := 1) (r := (some (.int 1))) rfl rfl rfl ?_
                      refine g_n 7 (pc' := 29) (L' := [some (.ref 281), some (.int 5), some (.int b)]) (st' := [.int (-2)]) rfl ?_
                      exact g_ret (ins := .ireturn) (len := 1) (r := (some (.int (-2)))) rfl rfl rfl ⟨_, rfl, rfl, (x_sv_rf _)⟩
                    · have q35 : ¬ a = 5 := h33
                      have p36 : 6 ≤ a.toInt := x_lo_ne q35 p32 (by decide)
                      by_cases h37 : a = 6
                      · have e38 : a = 6 := h37
                        subst e38
                        refine g_aa (i := 6) (a := 3) (n := 12) (v := 149) rfl rfl (by decide) (x_at (x_f3 hF) (k := 6) rfl) ?_
                        refine g_n 3 (pc' := 30) (L' := [some (.ref 0), some (.int 6), some (.int b)]) (st' := [.int (-2)]) rfl ?_
                        refine g_ret (ins := .ireturn) (len := 1) (r := (some (.int (-2)))) rfl rfl rfl ?_
                        refine ⟨⟨_, rfl⟩, ?_⟩
                        refine g_in (M := x_M556) (L := [some (.ref 281), some (.int 6), some (.int b)]) x_pl556 rfl ?_
                        refine g_n 2 (pc' := 2) (L' := [some (.ref 281), some (.int 6), some (.int b)]) (st' := [.int 6, .ref 281]) rfl ?_
                        refine g_call (ins := .invokevirtual 1213) (len := 3) (j := 541) (as := [.ref 281, .int 6]) (rest := []) rfl rfl rfl rfl (fun _ => rfl) rfl ?_
                        refine g_in (M := x_M541) (L := [some (.ref 281), some (.int 6)]) x_pl541 rfl ?_
                        refine g_n 7 (pc' := 15) (L' := [some (.ref 281), some (.int 6)]) (st' := [.int 1]) rfl ?_
                        refine g_ret (ins := .ireturn) (len := 1) (r := (some (.int 1))) rfl rfl rfl ?_
                        refine g_n 3 (pc' := 10) (L' := [some (.ref 281), some (.int 6), some (.int b)]) (st' := [.int b, .ref 281]) rfl ?_
                        refine g_call (ins := .invokevirtual 671) (len := 3) (j := 411) (as := [.ref 281, .int b]) (rest := []) rfl rfl rfl rfl (fun _ => rfl) rfl ?_
                        refine g_in (M := x_M411) (L := [some (.ref 281), some (.int b)]) x_pl411 rfl ?_
                        refine g_n 1 (pc' := 1) (L' := [some (.ref 281), some (.int b)]) (st' := [.int b]) rfl ?_
                        refine g_brF (c := b < (0 : Int32)) (t := 14) (f := 4) (L' := [some (.ref 281), some (.int b)]) (st' := []) rfl (x_Flt (l := 0) (u := 0) p9 (by decide) (by decide)) ?_
                        refine g_n 2 (pc' := 7) (L' := [some (.ref 281), some (.int b)]) (st' := [.int 8, .int b]) rfl ?_
                        refine g_brF (c := (8 : Int32) ≤ b) (t := 14) (f := 10) (L' := [some (.ref 281), some (.int b)]) (st' := []) rfl (x_Fle (l := 8) (u := 7) (by decide) p12 (by decide)) ?_
                        refine g_n 2 (pc' := 15) (L' := [some (.ref 281), some (.int b)]) (st' := [.int 1]) rfl ?_
                        refine g_ret (ins := .ireturn) (len := 1) (r := (some (.int 1))) rfl rfl rfl ?_
                        refine g_n 7 (pc' := 29) (L' := [some (.ref 281), some (.int 6), some (.int b)]) (st' := [.int (-2)]) rfl ?_
                        exact g_ret (ins := .ireturn) (len := 1) (r := (some (.int (-2)))) rfl rfl rfl ⟨_, rfl, rfl, (x_sv_rf _)⟩
                      · have q39 : ¬ a = 6 := h37
                        have p40 : 7 ≤ a.toInt := x_lo_ne q39 p36 (by decide)
                        by_cases h41 : a = 7
                        · have e42 : a = 7 := h41
                          subst e42
                          refine g_aa (i := 7) (a := 3) (n := 12) (v := 154) rfl rfl (by decide) (x_at (x_f3 hF) (k := 7) rfl) ?_
                          refine g_n 3 (pc' := 30) (L' := [some (.ref 0), some (.int 7), some (.int b)]) (st' := [.int (-2)]) rfl ?_
                          refine g_ret (ins := .ireturn) (len := 1) (r := (some (.int (-2)))) rfl rfl rfl ?_
                          refine ⟨⟨_, rfl⟩, ?_⟩
                          refine g_in (M := x_M556) (L := [some (.ref 281), some (.int 7), some (.int b)]) x_pl556 rfl ?_
                          refine g_n 2 (pc' := 2) (L' := [some (.ref 281), some (.int 7), some (.int b)]) (st' := [.int 7, .ref 281]) rfl ?_
                          refine g_call (ins := .invokevirtual 1213) (len := 3) (j := 541) (as := [.ref 281, .int 7]) (rest := []) rfl rfl rfl rfl (fun _ => rfl) rfl ?_
                          refine g_in (M := x_M541) (L := [some (.ref 281), some (.int 7)]) x_pl541 rfl ?_
                          refine g_n 7 (pc' := 15) (L' := [some (.ref 281), some (.int 7)]) (st' := [.int 1]) rfl ?_
                          refine g_ret (ins := .ireturn) (len := 1) (r := (some (.int 1))) rfl rfl rfl ?_
                          refine g_n 3 (pc' := 10) (L' := [some (.ref 281), some (.int 7), some (.int b)]) (st' := [.int b, .ref 281]) rfl ?_
                          refine g_call (ins := .invokevirtual 671) (len := 3) (j := 411) (as := [.ref 281, .int b]) (rest := []) rfl rfl rfl rfl (fun _ => rfl) rfl ?_
                          refine g_in (M := x_M411) (L := [some (.ref 281), some (.int b)]) x_pl411 rfl ?_
                          refine g_n 1 (pc' := 1) (L' := [some (.ref 281), some (.int b)]) (st' := [.int b]) rfl ?_
                          refine g_brF (c := b < (0 : Int32)) (t := 14) (f := 4) (L' := [some (.ref 281), some (.int b)]) (st' := []) rfl (x_Flt (l := 0) (u := 0) p9 (by decide) (by decide)) ?_
                          refine g_n 2 (pc' := 7) (L' := [some (.ref 281), some (.int b)]) (st' := [.int 8, .int b]) rfl ?_
                          refine g_brF (c := (8 : Int32) ≤ b) (t := 14) (f := 10) (L' := [some (.ref 281), some (.int b)]) (st' := []) rfl (x_Fle (l := 8) (u := 7) (by decide) p12 (by decide)) ?_
                          refine g_n 2 (pc' := 15) (L' := [some (.ref 281), some (.int b)]) (st' := [.int 1]) rfl ?_
                          refine g_ret (ins := .ireturn) (len := 1) (r := (some (.int 1))) rfl rfl rfl ?_
                          refine g_n 7 (pc' := 29) (L' := [some (.ref 281), some (.int 7), some (.int b)]) (st' := [.int (-2)]) rfl ?_
                          exact g_ret (ins := .ireturn) (len := 1) (r := (some (.int (-2)))) rfl rfl rfl ⟨_, rfl, rfl, (x_sv_rf _)⟩
                        · have q43 : ¬ a = 7 := h41
                          have p44 : 8 ≤ a.toInt := x_lo_ne q43 p40 (by decide)
                          by_cases h45 : a = 8
                          · have e46 : a = 8 := h45
                            subst e46
                            refine g_aa (i := 8) (a := 3) (n := 12) (v := 159) rfl rfl (by decide) (x_at (x_f3 hF) (k := 8) rfl) ?_
                            refine g_n 3 (pc' := 30) (L' := [some (.ref 0), some (.int 8), some (.int b)]) (st' := [.int (-2)]) rfl ?_
                            refine g_ret (ins := .ireturn) (len := 1) (r := (some (.int (-2)))) rfl rfl rfl ?_
                            refine ⟨⟨_, rfl⟩, ?_⟩
                            refine g_in (M := x_M556) (L := [some (.ref 281), some (.int 8), some (.int b)]) x_pl556 rfl ?_
                            refine g_n 2 (pc' := 2) (L' := [some (.ref 281), some (.int 8), some (.int b)]) (st' := [.int 8, .ref 281]) rfl ?_
                            refine g_call (ins := .invokevirtual 1213) (len := 3) (j := 541) (as := [.ref 281, .int 8]) (rest := []) rfl rfl rfl rfl (fun _ => rfl) rfl ?_
                            refine g_in (M := x_M541) (L := [some (.ref 281), some (.int 8)]) x_pl541 rfl ?_
                            refine g_n 7 (pc' := 15) (L' := [some (.ref 281), some (.int 8)]) (st' := [.int 1]) rfl ?_
                            refine g_ret (ins := .ireturn) (len := 1) (r := (some (.int 1))) rfl rfl rfl ?_
                            refine g_n 3 (pc' := 10) (L' := [some (.ref 281), some (.int 8), some (.int b)]) (st' := [.int b, .ref 281]) rfl ?_
                            refine g_call (ins := .invokevirtual 671) (len := 3) (j := 411) (as := [.ref 281, .int b]) (rest := []) rfl rfl rfl rfl (fun _ => rfl) rfl ?_
                            refine g_in (M := x_M411) (L := [some (.ref 281), some (.int b)]) x_pl411 rfl ?_
                            refine g_n 1 (pc' := 1) (L' := [some (.ref 281), some (.int b)]) (st' := [.int b]) rfl ?_
                            refine g_brF (c := b < (0 : Int32)) (t := 14) (f := 4) (L' := [some (.ref 281), some (.int b)]) (st' := []) rfl (x_Flt (l := 0) (u := 0) p9 (by decide) (by decide)) ?_
                            refine g_n 2 (pc' := 7) (L' := [some (.ref 281), some (.int b)]) (st' := [.int 8, .int b]) rfl ?_
                            refine g_brF (c := (8 : Int32) ≤ b) (t := 14) (f := 10) (L' := [some (.ref 281), some (.int b)]) (st' := []) rfl (x_Fle (l := 8) (u := 7) (by decide) p12 (by decide)) ?_
                            refine g_n 2 (pc' := 15) (L' := [some (.ref 281), some (.int b)]) (st' := [.int 1]) rfl ?_
                            refine g_ret (ins := .ireturn) (len := 1) (r := (some (.int 1))) rfl rfl rfl ?_
                            refine g_n 7 (pc' := 29) (L' := [some (.ref 281), some (.int 8), some (.int b)]) (st' := [.int (-2)]) rfl ?_
                            exact g_ret (ins := .ireturn) (len := 1) (r := (some (.int (-2)))) rfl rfl rfl ⟨_, rfl, rfl, (x_sv_rf _)⟩
                          · have q47 : ¬ a = 8 := h45
                            have p48 : 9 ≤ a.toInt := x_lo_ne q47 p44 (by decide)
                            by_cases h49 : a = 9
                            · have e50 : a = 9 := h49
                              subst e50
                              refine g_aa (i := 9) (a := 3) (n := 12) (v := 164) rfl rfl (by decide) (x_at (x_f3 hF) (k := 9) rfl) ?_
                              refine g_n 3 (pc' := 30) (L' := [some (.ref 0), some (.int 9), some (.int b)]) (st' := [.int (-2)]) rfl ?_
                              refine g_ret (ins := .ireturn) (len := 1) (r := (some (.int (-2)))) rfl rfl rfl ?_
                              refine ⟨⟨_, rfl⟩, ?_⟩
                              refine g_in (M := x_M556) (L := [some (.ref 281), some (.int 9), some (.int b)]) x_pl556 rfl ?_
                              refine g_n 2 (pc' := 2) (L' := [some (.ref 281), some (.int 9), some (.int b)]) (st' := [.int 9, .ref 281]) rfl ?_
                              refine g_call (ins := .invokevirtual 1213) (len := 3) (j := 541) (as := [.ref 281, .int 9]) (rest := []) rfl rfl rfl rfl (fun _ => rfl) rfl ?_
                              refine g_in (M := x_M541) (L := [some (.ref 281), some (.int 9)]) x_pl541 rfl ?_
                              refine g_n 7 (pc' := 15) (L' := [some (.ref 281), some (.int 9)]) (st' := [.int 1]) rfl ?_
                              refine g_ret (ins := .ireturn) (len := 1) (r := (some (.int 1))) rfl rfl rfl ?_
                              refine g_n 3 (pc' := 10) (L' := [some (.ref 281), some (.int 9), some (.int b)]) (st' := [.int b, .ref 281]) rfl ?_
                              refine g_call (ins := .invokevirtual 671) (len := 3) (j := 411) (as := [.ref 281, .int b]) (rest := []) rfl rfl rfl rfl (fun _ => rfl) rfl ?_
                              refine g_in (M := x_M411) (L := [some (.ref 281), some (.int b)]) x_pl411 rfl ?_
                              refine g_n 1 (pc' := 1) (L' := [some (.ref 281), some (.int b)]) (st' := [.int b]) rfl ?_
                              refine g_brF (c := b < (0 : Int32)) (t := 14) (f := 4) (L' := [some (.ref 281), some (.int b)]) (st' := []) rfl (x_Flt (l := 0) (u := 0) p9 (by decide) (by decide)) ?_
                              refine g_n 2 (pc' := 7) (L' := [some (.ref 281), some (.int b)]) (st' := [.int 8, .int b]) rfl ?_
                              refine g_brF (c := (8 : Int32) ≤ b) (t := 14) (f := 10) (L' := [some (.ref 281), some (.int b)]) (st' := []) rfl (x_Fle (l := 8) (u := 7) (by decide) p12 (by decide)) ?_
                              refine g_n 2 (pc' := 15) (L' := [some (.ref 281), some (.int b)]) (st' := [.int 1]) rfl ?_
                              refine g_ret (ins := .ireturn) (len := 1) (r := (some (.int 1))) rfl rfl rfl ?_
                              refine g_n 7 (pc' := 29) (L' := [some (.ref 281), some (.int 9), some (.int b)]) (st' := [.int (-2)]) rfl ?_
                              exact g_ret (ins := .ireturn) (len := 1) (r := (some (.int (-2)))) rfl rfl rfl ⟨_, rfl, rfl, (x_sv_rf _)⟩
                            · have q51 : ¬ a = 9 := h49
                              have p52 : 10 ≤ a.toInt := x_lo_ne q51 p48 (by decide)
                              by_cases h53 : a = 10
                              · have e54 : a = 10 := h53
                                subst e54
                                refine g_aa (i := 10) (a := 3) (n := 12) (v := 169) rfl rfl (by decide) (x_at (x_f3 hF) (k := 10) rfl) ?_
                                refine g_n 3 (pc' := 30) (L' := [some (.ref 0), some (.int 10), some (.int b)]) (st' := [.int (-2)]) rfl ?_
                                refine g_ret (ins := .ireturn) (len := 1) (r := (some (.int (-2)))) rfl rfl rfl ?_
                                refine ⟨⟨_, rfl⟩, ?_⟩
                                refine g_in (M := x_M556) (L := [some (.ref 281), some (.int 10), some (.int b)]) x_pl556 rfl ?_
                                refine g_n 2 (pc' := 2) (L' := [some (.ref 281), some (.int 10), some (.int b)]) (st' := [.int 10, .ref 281]) rfl ?_
                                refine g_call (ins := .invokevirtual 1213) (len := 3) (j := 541) (as := [.ref 281, .int 10]) (rest := []) rfl rfl rfl rfl (fun _ => rfl) rfl ?_
                                refine g_in (M := x_M541) (L := [some (.ref 281), some (.int 10)]) x_pl541 rfl ?_
                                refine g_n 7 (pc' := 15) (L' := [some (.ref 281), some (.int 10)]) (st' := [.int 1]) rfl ?_
                                refine g_ret (ins := .ireturn) (len := 1) (r := (some (.int 1))) rfl rfl rfl ?_
                                refine g_n 3 (pc' := 10) (L' := [some (.ref 281), some (.int 10), some (.int b)]) (st' := [.int b, .ref 281]) rfl ?_
                                refine g_call (ins := .invokevirtual 671) (len := 3) (j := 411) (as := [.ref 281, .int b]) (rest := []) rfl rfl rfl rfl (fun _ => rfl) rfl ?_
                                refine g_in (M := x_M411) (L := [some (.ref 281), some (.int b)]) x_pl411 rfl ?_
                                refine g_n 1 (pc' := 1) (L' := [some (.ref 281), some (.int b)]) (st' := [.int b]) rfl ?_
                                refine g_brF (c := b < (0 : Int32)) (t := 14) (f := 4) (L' := [some (.ref 281), some (.int b)]) (st' := []) rfl (x_Flt (l := 0) (u := 0) p9 (by decide) (by decide)) ?_
                                refine g_n 2 (pc' := 7) (L' := [some (.ref 281), some (.int b)]) (st' := [.int 8, .int b]) rfl ?_
                                refine g_brF (c := (8 : Int32) ≤ b) (t := 14) (f := 10) (L' := [some (.ref 281), some (.int b)]) (st' := []) rfl (x_Fle (l := 8) (u := 7) (by decide) p12 (by decide)) ?_
                                refine g_n 2 (pc' := 15) (L' := [some (.ref 281), some (.int b)]) (st' := [.int 1]) rfl ?_
                                refine g_ret (ins := .ireturn) (len := 1) (r := (some (.int 1))) rfl rfl rfl ?_
                                refine g_n 7 (pc' := 29) (L' := [some (.ref 281), some (.int 10), some (.int b)]) (st' := [.int (-2)]) rfl ?_
                                exact g_ret (ins := .ireturn) (len := 1) (r := (some (.int (-2)))) rfl rfl rfl ⟨_, rfl, rfl, (x_sv_rf _)⟩
                              · have q55 : ¬ a = 10 := h53
                                have p56 : 11 ≤ a.toInt := x_lo_ne q55 p52 (by decide)
                                have e57 : a = 11 := x_sing p56 p6 (by decide)
                                subst e57
                                refine g_aa (i := 11) (a := 3) (n := 12) (v := 174) rfl rfl (by decide) (x_at (x_f3 hF) (k := 11) rfl) ?_
                                refine g_n 3 (pc' := 30) (L' := [some (.ref 0), some (.int 11), some (.int b)]) (st' := [.int (-2)]) rfl ?_
                                refine g_ret (ins := .ireturn) (len := 1) (r := (some (.int (-2)))) rfl rfl rfl ?_
                                refine ⟨⟨_, rfl⟩, ?_⟩
                                refine g_in (M := x_M556) (L := [some (.ref 281), some (.int 11), some (.int b)]) x_pl556 rfl ?_
                                refine g_n 2 (pc' := 2) (L' := [some (.ref 281), some (.int 11), some (.int b)]) (st' := [.int 11, .ref 281]) rfl ?_
                                refine g_call (ins := .invokevirtual 1213) (len := 3) (j := 541) (as := [.ref 281, .int 11]) (rest := []) rfl rfl rfl rfl (fun _ => rfl) rfl ?_
                                refine g_in (M := x_M541) (L := [some (.ref 281), some (.int 11)]) x_pl541 rfl ?_
                                refine g_n 7 (pc' := 15) (L' := [some (.ref 281), some (.int 11)]) (st' := [.int 1]) rfl ?_
                                refine g_ret (ins := .ireturn) (len := 1) (r := (some (.int 1))) rfl rfl rfl ?_
                                refine g_n 3 (pc' := 10) (L' := [some (.ref 281), some (.int 11), some (.int b)]) (st' := [.int b, .ref 281]) rfl ?_
                                refine g_call (ins := .invokevirtual 671) (len := 3) (j := 411) (as := [.ref 281, .int b]) (rest := []) rfl rfl rfl rfl (fun _ => rfl) rfl ?_
                                refine g_in (M := x_M411) (L := [some (.ref 281), some (.int b)]) x_pl411 rfl ?_
                                refine g_n 1 (pc' := 1) (L' := [some (.ref 281), some (.int b)]) (st' := [.int b]) rfl ?_
                                refine g_brF (c := b < (0 : Int32)) (t := 14) (f := 4) (L' := [some (.ref 281), some (.int b)]) (st' := []) rfl (x_Flt (l := 0) (u := 0) p9 (by decide) (by decide)) ?_
                                refine g_n 2 (pc' := 7) (L' := [some (.ref 281), some (.int b)]) (st' := [.int 8, .int b]) rfl ?_
                                refine g_brF (c := (8 : Int32) ≤ b) (t := 14) (f := 10) (L' := [some (.ref 281), some (.int b)]) (st' := []) rfl (x_Fle (l := 8) (u := 7) (by decide) p12 (by decide)) ?_
                                refine g_n 2 (pc' := 15) (L' := [some (.ref 281), some (.int b)]) (st' := [.int 1]) rfl ?_
                                refine g_ret (ins := .ireturn) (len := 1) (r := (some (.int 1))) rfl rfl rfl ?_
                                refine g_n 7 (pc' := 29) (L' := [some (.ref 281), some (.int 11), some (.int b)]) (st' := [.int (-2)]) rfl ?_
                                exact g_ret (ins := .ireturn) (len := 1) (r := (some (.int (-2)))) rfl rfl rfl ⟨_, rfl, rfl, (x_sv_rf _)⟩
set_option maxRecDepth 100000 in
set_option maxHeartbeats 4000000 in
theorem x_op19 {fi : Nat → Nat → Int32} {fl : Nat → Nat → Int64} {fr : Nat → Nat → Option Nat} (hF : x_F fl fr) (a b : Int32) : x_ev 30 375 [.ref 0, .int a, .int b] (x_W fi fl fr) fun r S1 => (∃ fs, x_obj S1 281 = some (12, fs)) ∧ x_ev 30 589 [.ref 281, .int a, .int b] S1 (x_finI (x_W fi fl fr) r) := by
  refine g_in (M := x_M375) (L := [some (.ref 0), some (.int a), some (.int b), none]) x_pl375 rfl ?_
  refine g_n 1 (pc' := 1) (L' := [some (.ref 0), some (.int a), some (.int b), none]) (st' := [.int a]) rfl ?_
  refine g_call (ins := .invokestatic 280) (len := 3) (j := 349) (as := [.int a]) (rest := []) rfl rfl rfl rfl (fun _ => rfl) rfl ?_
  refine g_in (M := x_M349) (L := [some (.int a)]) x_pl349 rfl ?_
  refine g_n 1 (pc' := 1) (L' := [some (.int a)]) (st' := [.int a]) rfl ?_
  refine g_br (c := a < (0 : Int32)) (t := 14) (f := 4) (L' := [some (.int a)]) (st' := []) rfl (fun h1 => ?_) (fun h1 => ?_)
  · have p2 : a.toInt ≤ -1 := x_up_lt h1 (by decide)
    refine g_n 1 (pc' := 15) (L' := [some (.int a)]) (st' := [.int 0]) rfl ?_
    refine g_ret (ins := .ireturn) (len := 1) (r := (some (.int 0))) rfl rfl rfl ?_
    refine g_n 2 (pc' := 17) (L' := [some (.ref 0), some (.int a), some (.int b), none]) (st' := [.int (-1)]) rfl ?_
    refine g_ret (ins := .ireturn) (len := 1) (r := (some (.int (-1)))) rfl rfl rfl ?_
    refine ⟨⟨_, rfl⟩, ?_⟩
    refine g_in (M := x_M589) (L := [some (.ref 281), some (.int a), some (.int b)]) x_pl589 rfl ?_
    refine g_n 2 (pc' := 2) (L' := [some (.ref 281), some (.int a), some (.int b)]) (st' := [.int a, .ref 281]) rfl ?_
    refine g_call (ins := .invokevirtual 1213) (len := 3) (j := 541) (as := [.ref 281, .int a]) (rest := []) rfl rfl rfl rfl (fun _ => rfl) rfl ?_
    refine g_in (M := x_M541) (L := [some (.ref 281), some (.int a)]) x_pl541 rfl ?_
    refine g_n 1 (pc' := 1) (L' := [some (.ref 281), some (.int a)]) (st' := [.int a]) rfl ?_
    refine g_brT (c := a < (0 : Int32)) (t := 14) (f := 4) (L' := [some (.ref 281), some (.int a)]) (st' := []) rfl (x_Tlt (u := -1) (l := 0) p2 (by decide) (by decide)) ?_
    refine g_n 1 (pc' := 15) (L' := [some (.ref 281), some (.int a)]) (st' := [.int 0]) rfl ?_
    refine g_ret (ins := .ireturn) (len := 1) (r := (some (.int 0))) rfl rfl rfl ?_
    refine g_n 2 (pc' := 18) (L' := [some (.ref 281), some (.int a), some (.int b)]) (st' := [.int (-1)]) rfl ?_
    exact g_ret (ins := .ireturn) (len := 1) (r := (some (.int (-1)))) rfl rfl rfl ⟨_, rfl, rfl, (x_sv_rf _)⟩
  · have p3 : 0 ≤ a.toInt := x_lo_le (x_nlt h1) (by decide)
    refine g_n 2 (pc' := 7) (L' := [some (.int a)]) (st' := [.int 12, .int a]) rfl ?_
    refine g_br (c := (12 : Int32) ≤ a) (t := 14) (f := 10) (L' := [some (.int a)]) (st' := []) rfl (fun h4 => ?_) (fun h4 => ?_)
    · have p5 : 12 ≤ a.toInt := x_lo_le h4 (by decide)
      refine g_n 1 (pc' := 15) (L' := [some (.int a)]) (st' := [.int 0]) rfl ?_
      refine g_ret (ins := .ireturn) (len := 1) (r := (some (.int 0))) rfl rfl rfl ?_
      refine g_n 2 (pc' := 17) (L' := [some (.ref 0), some (.int a), some (.int b), none]) (st' := [.int (-1)]) rfl ?_
      refine g_ret (ins := .ireturn) (len := 1) (r := (some (.int (-1)))) rfl rfl rfl ?_
      refine ⟨⟨_, rfl⟩, ?_⟩
      refine g_in (M := x_M589) (L := [some (.ref 281), some (.int a), some (.int b)]) x_pl589 rfl ?_
      refine g_n 2 (pc' := 2) (L' := [some (.ref 281), some (.int a), some (.int b)]) (st' := [.int a, .ref 281]) rfl ?_
      refine g_call (ins := .invokevirtual 1213) (len := 3) (j := 541) (as := [.ref 281, .int a]) (rest := []) rfl rfl rfl rfl (fun _ => rfl) rfl ?_
      refine g_in (M := x_M541) (L := [some (.ref 281), some (.int a)]) x_pl541 rfl ?_
      refine g_n 1 (pc' := 1) (L' := [some (.ref 281), some (.int a)]) (st' := [.int a]) rfl ?_
      refine g_brF (c := a < (0 : Int32)) (t := 14) (f := 4) (L' := [some (.ref 281), some (.int a)]) (st' := []) rfl (x_Flt (l := 12) (u := 0) p5 (by decide) (by decide)) ?_
      refine g_n 2 (pc' := 7) (L' := [some (.ref 281), some (.int a)]) (st' := [.int 12, .int a]) rfl ?_
      refine g_brT (c := (12 : Int32) ≤ a) (t := 14) (f := 10) (L' := [some (.ref 281), some (.int a)]) (st' := []) rfl (x_Tle (u := 12) (l := 12) (by decide) p5 (by decide)) ?_
      refine g_n 1 (pc' := 15) (L' := [some (.ref 281), some (.int a)]) (st' := [.int 0]) rfl ?_
      refine g_ret (ins := .ireturn) (len := 1) (r := (some (.int 0))) rfl rfl rfl ?_
      refine g_n 2 (pc' := 18) (L' := [some (.ref 281), some (.int a), some (.int b)]) (st' := [.int (-1)]) rfl ?_
      exact g_ret (ins := .ireturn) (len := 1) (r := (some (.int (-1)))) rfl rfl rfl ⟨_, rfl, rfl, (x_sv_rf _)⟩
    · have p6 : a.toInt ≤ 11 := x_up_lt (x_nle h4) (by decide)
      refine g_n 2 (pc' := 15) (L' := [some (.int a)]) (st' := [.int 1]) rfl ?_
      refine g_ret (ins := .ireturn) (len := 1) (r := (some (.int 1))) rfl rfl rfl ?_
      refine g_n 2 (pc' := 8) (L' := [some (.ref 0), some (.int a), some (.int b), none]) (st' := [.int b]) rfl ?_
      refine g_br (c := b < (0 : Int32)) (t := 16) (f := 11) (L' := [some (.ref 0), some (.int a), some (.int b), none]) (st' := []) rfl (fun h7 => ?_) (fun h7 => ?_)
      · have p8 : b.toInt ≤ -1 := x_up_lt h7 (by decide)
        refine g_n 1 (pc' := 17) (L' := [some (.ref 0), some (.int a), some (.int b), none]) (st' := [.int (-1)]) rfl ?_
        refine g_ret (ins := .ireturn) (len := 1) (r := (some (.int (-1)))) rfl rfl rfl ?_
        refine ⟨⟨_, rfl⟩, ?_⟩
        refine g_in (M := x_M589) (L := [some (.ref 281), some (.int a), some (.int b)]) x_pl589 rfl ?_
        refine g_n 2 (pc' := 2) (L' := [some (.ref 281), some (.int a), some (.int b)]) (st' := [.int a, .ref 281]) rfl ?_
        refine g_call (ins := .invokevirtual 1213) (len := 3) (j := 541) (as := [.ref 281, .int a]) (rest := []) rfl rfl rfl rfl (fun _ => rfl) rfl ?_
        refine g_in (M := x_M541) (L := [some (.ref 281), some (.int a)]) x_pl541 rfl ?_
        refine g_n 1 (pc' := 1) (L' := [some (.ref 281), some (.int a)]) (st' := [.int a]) rfl ?_
        refine g_brF (c := a < (0 : Int32)) (t := 14) (f := 4) (L' := [some (.ref 281), some (.int a)]) (st' := []) rfl (x_Flt (l := 0) (u := 0) p3 (by decide) (by decide)) ?_
        refine g_n 2 (pc' := 7) (L' := [some (.ref 281), some (.int a)]) (st' := [.int 12, .int a]) rfl ?_
        refine g_brF (c := (12 : Int32) ≤ a) (t := 14) (f := 10) (L' := [some (.ref 281), some (.int a)]) (st' := []) rfl (x_Fle (l := 12) (u := 11) (by decide) p6 (by decide)) ?_
        refine g_n 2 (pc' := 15) (L' := [some (.ref 281), some (.int a)]) (st' := [.int 1]) rfl ?_
        refine g_ret (ins := .ireturn) (len := 1) (r := (some (.int 1))) rfl rfl rfl ?_
        refine g_n 2 (pc' := 9) (L' := [some (.ref 281), some (.int a), some (.int b)]) (st' := [.int b]) rfl ?_
        refine g_brT (c := b < (0 : Int32)) (t := 17) (f := 12) (L' := [some (.ref 281), some (.int a), some (.int b)]) (st' := []) rfl (x_Tlt (u := -1) (l := 0) p8 (by decide) (by decide)) ?_
        refine g_n 1 (pc' := 18) (L' := [some (.ref 281), some (.int a), some (.int b)]) (st' := [.int (-1)]) rfl ?_
        exact g_ret (ins := .ireturn) (len := 1) (r := (some (.int (-1)))) rfl rfl rfl ⟨_, rfl, rfl, (x_sv_rf _)⟩
      · have p9 : 0 ≤ b.toInt := x_lo_le (x_nlt h7) (by decide)
        refine g_n 2 (pc' := 13) (L' := [some (.ref 0), some (.int a), some (.int b), none]) (st' := [.int 5, .int b]) rfl ?_
        refine g_br (c := b ≤ (5 : Int32)) (t := 18) (f := 16) (L' := [some (.ref 0), some (.int a), some (.int b), none]) (st' := []) rfl (fun h10 => ?_) (fun h10 => ?_)
        · have p11 : b.toInt ≤ 5 := x_up_le h10 (by decide)
          refine g_n 3 (pc' := 23) (L' := [some (.ref 0), some (.int a), some (.int b), none]) (st' := [.int a, .ref 3]) rfl ?_
          by_cases h12 : a = 0
          · have e13 : a = 0 := h12
            subst e13
            refine g_aa (i := 0) (a := 3) (n := 12) (v := 119) rfl rfl (by decide) (x_at (x_f3 hF) (k := 0) rfl) ?_
            refine g_n 5 (pc' := 34) (L' := [some (.ref 0), some (.int 0), some (.int b), some (.ref 119)]) (st' := [.int (-2)]) rfl ?_
            refine g_ret (ins := .ireturn) (len := 1) (r := (some (.int (-2)))) rfl rfl rfl ?_
            refine ⟨⟨_, rfl⟩, ?_⟩
            refine g_in (M := x_M589) (L := [some (.ref 281), some (.int 0), some (.int b)]) x_pl589 rfl ?_
            refine g_n 2 (pc' := 2) (L' := [some (.ref 281), some (.int 0), some (.int b)]) (st' := [.int 0, .ref 281]) rfl ?_
            refine g_call (ins := .invokevirtual 1213) (len := 3) (j := 541) (as := [.ref 281, .int 0]) (rest := []) rfl rfl rfl rfl (fun _ => rfl) rfl ?_
            refine g_in (M := x_M541) (L := [some (.ref 281), some (.int 0)]) x_pl541 rfl ?_
            refine g_n 7 (pc' := 15) (L' := [some (.ref 281), some (.int 0)]) (st' := [.int 1]) rfl ?_
            refine g_ret (ins := .ireturn) (len := 1) (r := (some (.int 1))) rfl rfl rfl ?_
            refine g_n 2 (pc' := 9) (L' := [some (.ref 281), some (.int 0), some (.int b)]) (st' := [.int b]) rfl ?_
            refine g_brF (c := b < (0 : Int32)) (t := 17) (f := 12) (L' := [some (.ref 281), some (.int 0), some (.int b)]) (st' := []) rfl (x_Flt (l := 0) (u := 0) p9 (by decide) (by decide)) ?_
            refine g_n 2 (pc' := 14) (L' := [some (.ref 281), some (.int 0), some (.int b)]) (st' := [.int 5, .int b]) rfl ?_
            refine g_brT (c := b ≤ (5 : Int32)) (t := 19) (f := 17) (L' := [some (.ref 281), some (.int 0), some (.int b)]) (st' := []) rfl (x_Tle (u := 5) (l := 5) p11 (by decide) (by decide)) ?_
            refine g_n 6 (pc' := 30) (L' := [some (.ref 281), some (.int 0), some (.int b)]) (st' := [.int (-2)]) rfl ?_
            exact g_ret (ins := .ireturn) (len := 1) (r := (some (.int (-2)))) rfl rfl rfl ⟨_, rfl, rfl, (x_sv_rf _)⟩
          · have q14 : ¬ a = 0 := h12
            have p15 : 1 ≤ a.toInt := x_lo_ne q14 p3 (by decide)
            by_cases h16 : a = 1
            · have e17 : a = 1 := h16
              subst e17
              refine g_aa (i := 1) (a := 3) (n := 12) (v := 124) rfl rfl (by decide) (x_at (x_f3 hF) (k := 1) rfl) ?_
              refine g_n 5 (pc' := 34) (L' := [some (.ref 0), some (.int 1), some (.int b), some (.ref 124)]) (st' := [.int (-2)]) rfl ?_
              refine g_ret (ins := .ireturn) (len := 1) (r := (some (.int (-2)))) rfl rfl rfl ?_
              refine ⟨⟨_, rfl⟩, ?_⟩
              refine g_in (M := x_M589) (L := [some (.ref 281), some (.int 1), some (.int b)]) x_pl589 rfl ?_
              refine g_n 2 (pc' := 2) (L' := [some (.ref 281), some (.int 1), some (.int b)]) (st' := [.int 1, .ref 281]) rfl ?_
              refine g_call (ins := .invokevirtual 1213) (len := 3) (j := 541) (as := [.ref 281, .int 1]) (rest := []) rfl rfl rfl rfl (fun _ => rfl) rfl ?_
              refine g_in (M := x_M541) (L := [some (.ref 281), some (.int 1)]) x_pl541 rfl ?_
              refine g_n 7 (pc' := 15) (L' := [some (.ref 281), some (.int 1)]) (st' := [.int 1]) rfl ?_
              refine g_ret (ins := .ireturn) (len := 1) (r := (some (.int 1))) rfl rfl rfl ?_
              refine g_n 2 (pc' := 9) (L' := [some (.ref 281), some (.int 1), some (.int b)]) (st' := [.int b]) rfl ?_
              refine g_brF (c := b < (0 : Int32)) (t := 17) (f := 12) (L' := [some (.ref 281), some (.int 1), some (.int b)]) (st' := []) rfl (x_Flt (l := 0) (u := 0) p9 (by decide) (by decide)) ?_
              refine g_n 2 (pc' := 14) (L' := [some (.ref 281), some (.int 1), some (.int b)]) (st' := [.int 5, .int b]) rfl ?_
              refine g_brT (c := b ≤ (5 : Int32)) (t := 19) (f := 17) (L' := [some (.ref 281), some (.int 1), some (.int b)]) (st' := []) rfl (x_Tle (u := 5) (l := 5) p11 (by decide) (by decide)) ?_
              refine g_n 6 (pc' := 30) (L' := [some (.ref 281), some (.int 1), some (.int b)]) (st' := [.int (-2)]) rfl ?_
              exact g_ret (ins := .ireturn) (len := 1) (r := (some (.int (-2)))) rfl rfl rfl ⟨_, rfl, rfl, (x_sv_rf _)⟩
            · have q18 : ¬ a = 1 := h16
              have p19 : 2 ≤ a.toInt := x_lo_ne q18 p15 (by decide)
              by_cases h20 : a = 2
              · have e21 : a = 2 := h20
                subst e21
                refine g_aa (i := 2) (a := 3) (n := 12) (v := 129) rfl rfl (by decide) (x_at (x_f3 hF) (k := 2) rfl) ?_
                refine g_n 5 (pc' := 34) (L' := [some (.ref 0), some (.int 2), some (.int b), some (.ref 129)]) (st' := [.int (-2)]) rfl ?_
                refine g_ret (ins := .ireturn) (len := 1) (r := (some (.int (-2)))) rfl rfl rfl ?_
                refine ⟨⟨_, rfl⟩, ?_⟩
                refine g_in (M := x_M589) (L := [some (.ref 281), some (.int 2), some (.int b)]) x_pl589 rfl ?_
                refine g_n 2 (pc' := 2) (L' := [some (.ref 281), some (.int 2), some (.int b)]) (st' := [.int 2, .ref 281]) rfl ?_
                refine g_call (ins := .invokevirtual 1213) (len := 3) (j := 541) (as := [.ref 281, .int 2]) (rest := []) rfl rfl rfl rfl (fun _ => rfl) rfl ?_
                refine g_in (M := x_M541) (L := [some (.ref 281), some (.int 2)]) x_pl541 rfl ?_
                refine g_n 7 (pc' := 15) (L' := [some (.ref 281), some (.int 2)]) (st' := [.int 1]) rfl ?_
                refine g_ret (ins := .ireturn) (len := 1) (r := (some (.int 1))) rfl rfl rfl ?_
                refine g_n 2 (pc' := 9) (L' := [some (.ref 281), some (.int 2), some (.int b)]) (st' := [.int b]) rfl ?_
                refine g_brF (c := b < (0 : Int32)) (t := 17) (f := 12) (L' := [some (.ref 281), some (.int 2), some (.int b)]) (st' := []) rfl (x_Flt (l := 0) (u := 0) p9 (by decide) (by decide)) ?_
                refine g_n 2 (pc' := 14) (L' := [some (.ref 281), some (.int 2), some (.int b)]) (st' := [.int 5, .int b]) rfl ?_
                refine g_brT (c := b ≤ (5 : Int32)) (t := 19) (f := 17) (L' := [some (.ref 281), some (.int 2), some (.int b)]) (st' := []) rfl (x_Tle (u := 5) (l := 5) p11 (by decide) (by decide)) ?_
                refine g_n 6 (pc' := 30) (L' := [some (.ref 281), some (.int 2), some (.int b)]) (st' := [.int (-2)]) rfl ?_
                exact g_ret (ins := .ireturn) (len := 1) (r := (some (.int (-2)))) rfl rfl rfl ⟨_, rfl, rfl, (x_sv_rf _)⟩
              · have q22 : ¬ a = 2 := h20
                have p23 : 3 ≤ a.toInt := x_lo_ne q22 p19 (by decide)
                by_cases h24 : a = 3
                · have e25 : a = 3 := h24
                  subst e25
                  refine g_aa (i := 3) (a := 3) (n := 12) (v := 134) rfl rfl (by decide) (x_at (x_f3 hF) (k := 3) rfl) ?_
                  refine g_n 5 (pc' := 34) (L' := [some (.ref 0), some (.int 3), some (.int b), some (.ref 134)]) (st' := [.int (-2)]) rfl ?_
                  refine g_ret (ins := .ireturn) (len := 1) (r := (some (.int (-2)))) rfl rfl rfl ?_
                  refine ⟨⟨_, rfl⟩, ?_⟩
                  refine g_in (M := x_M589) (L := [some (.ref 281), some (.int 3), some (.int b)]) x_pl589 rfl ?_
                  refine g_n 2 (pc' := 2) (L' := [some (.ref 281), some (.int 3), some (.int b)]) (st' := [.int 3, .ref 281]) rfl ?_
                  refine g_call (ins := .invokevirtual 1213) (len := 3) (j := 541) (as := [.ref 281, .int 3]) (rest := []) rfl rfl rfl rfl (fun _ => rfl) rfl ?_
                  refine g_in (M := x_M541) (L := [some (.ref 281), some (.int 3)]) x_pl541 rfl ?_
                  refine g_n 7 (pc' := 15) (L' := [some (.ref 281), some (.int 3)]) (st' := [.int 1]) rfl ?_
                  refine g_ret (ins := .ireturn) (len := 1) (r := (some (.int 1))) rfl rfl rfl ?_
                  refine g_n 2 (pc' := 9) (L' := [some (.ref 281), some (.int 3), some (.int b)]) (st' := [.int b]) rfl ?_
                  refine g_brF (c := b < (0 : Int32)) (t := 17) (f := 12) (L' := [some (.ref 281), some (.int 3), some (.int b)]) (st' := []) rfl (x_Flt (l := 0) (u := 0) p9 (by decide) (by decide)) ?_
                  refine g_n 2 (pc' := 14) (L' := [some (.ref 281), some (.int 3), some (.int b)]) (st' := [.int 5, .int b]) rfl ?_
                  refine g_brT (c := b ≤ (5 : Int32)) (t := 19) (f := 17) (L' := [some (.ref 281), some (.int 3), some (.int b)]) (st' := []) rfl (x_Tle (u := 5) (l := 5) p11 (by decide) (by decide)) ?_
                  refine g_n 6 (pc' := 30) (L' := [some (.ref 281), some (.int 3), some (.int b)]) (st' := [.int (-2)]) rfl ?_
                  exact g_ret (ins := .ireturn) (len := 1) (r := (some (.int (-2)))) rfl rfl rfl ⟨_, rfl, rfl, (x_sv_rf _)⟩
                · have q26 : ¬ a = 3 := h24
                  have p27 : 4 ≤ a.toInt := x_lo_ne q26 p23 (by decide)
                  by_cases h28 : a = 4
                  · have e29 : a = 4 := h28
                    subst e29
                    refine g_aa (i := 4) (a := 3) (n := 12) (v := 139) rfl rfl (by decide) (x_at (x_f3 hF) (k := 4) rfl) ?_
                    refine g_n 5 (pc' := 34) (L' := [some (.ref 0), some (.int 4), some (.int b), some (.ref 139)]) (st' := [.int (-2)]) rfl ?_
                    refine g_ret (ins := .ireturn) (len := 1) (r := (some (.int (-2)))) rfl rfl rfl ?_
                    refine ⟨⟨_, rfl⟩, ?_⟩
                    refine g_in (M := x_M589) (L := [some (.ref 281), some (.int 4), some (.int b)]) x_pl589 rfl ?_
                    refine g_n 2 (pc' := 2) (L' := [some (.ref 281), some (.int 4), some (.int b)]) (st' := [.int 4, .ref 281]) rfl ?_
                    refine g_call (ins := .invokevirtual 1213) (len := 3) (j := 541) (as := [.ref 281, .int 4]) (rest := []) rfl rfl rfl rfl (fun _ => rfl) rfl ?_
                    refine g_in (M := x_M541) (L := [some (.ref 281), some (.int 4)]) x_pl541 rfl ?_
                    refine g_n 7 (pc' := 15) (L' := [some (.ref 281), some (.int 4)]) (st' := [.int 1]) rfl ?_
                    refine g_ret (ins := .ireturn) (len := 1) (r := (some (.int 1))) rfl rfl rfl ?_
                    refine g_n 2 (pc' := 9) (L' := [some (.ref 281), some (.int 4), some (.int b)]) (st' := [.int b]) rfl ?_
                    refine g_brF (c := b < (0 : Int32)) (t := 17) (f := 12) (L' := [some (.ref 281), some (.int 4), some (.int b)]) (st' := []) rfl (x_Flt (l := 0) (u := 0) p9 (by decide) (by decide)) ?_
                    refine g_n 2 (pc' := 14) (L' := [some (.ref 281), some (.int 4), some (.int b)]) (st' := [.int 5, .int b]) rfl ?_
                    refine g_brT (c := b ≤ (5 : Int32)) (t := 19) (f := 17) (L' := [some (.ref 281), some (.int 4), some (.int b)]) (st' := []) rfl (x_Tle (u := 5) (l := 5) p11 (by decide) (by decide)) ?_
                    refine g_n 6 (pc' := 30) (L' := [some (.ref 281), some (.int 4), some (.int b)]) (st' := [.int (-2)]) rfl ?_
                    exact g_ret (ins := .ireturn) (len := 1) (r := (some (.int (-2)))) rfl rfl rfl ⟨_, rfl, rfl, (x_sv_rf _)⟩
                  · have q30 : ¬ a = 4 := h28
                    have p31 : 5 ≤ a.toInt := x_lo_ne q30 p27 (by decide)
                    by_cases h32 : a = 5
                    · have e33 : a = 5 := h32
                      subst e33
                      refine g_aa (i := 5) (a := 3) (n := 12) (v := 144) rfl rfl (by decide) (x_at (x_f3 hF) (k := 5) rfl) ?_
                      refine g_n 5 (pc' := 34) (L' := [some (.ref 0), some (.int 5), some (.int b), some (.ref 144)]) (st' := [.int (-2)]) rfl ?_
                      refine g_ret (ins := .ireturn) (len := 1) (r := (some (.int (-2)))) rfl rfl rfl ?_
                      refine ⟨⟨_, rfl⟩, ?_⟩
                      refine g_in (M := x_M589) (L := [some (.ref 281), some (.int 5), some (.int b)]) x_pl589 rfl ?_
                      refine g_n 2 (pc' := 2) (L' := [some (.ref 281), some (.int 5), some (.int b)]) (st' := [.int 5, .ref 281]) rfl ?_
                      refine g_call (ins := .invokevirtual 1213) (len := 3) (j := 541) (as := [.ref 281, .int 5]) (rest := []) rfl rfl rfl rfl (fun _ => rfl) rfl ?_
                      refine g_in (M := x_M541) (L := [some (.ref 281), some (.int 5)]) x_pl541 rfl ?_
                      refine g_n 7 (pc' := 15) (L' := [some (.ref 281), some (.int 5)]) (st' := [.int 1]) rfl ?_
                      refine g_ret (ins := .ireturn) (len := 1) (r := (some (.int 1))) rfl rfl rfl ?_
                      refine g_n 2 (pc' := 9) (L' := [some (.ref 281), some (.int 5), some (.int b)]) (st' := [.int b]) rfl ?_
                      refine g_brF (c := b < (0 : Int32)) (t := 17) (f := 12) (L' := [some (.ref 281), some (.int 5), some (.int b)]) (st' := []) rfl (x_Flt (l := 0) (u := 0) p9 (by decide) (by decide)) ?_
                      refine g_n 2 (pc' := 14) (L' := [some (.ref 281), some (.int 5), some (.int b)]) (st' := [.int 5, .int b]) rfl ?_
                      refine g_brT (c := b ≤ (5 : Int32)) (t := 19) (f := 17) (L' := [some (.ref 281), some (.int 5), some (.int b)]) (st' := []) rfl (x_Tle (u := 5) (l := 5) p11 (by decide) (by decide)) ?_
                      refine g_n 6 (pc' := 30) (L' := [some (.ref 281), some (.int 5), some (.int b)]) (st' := [.int (-2)]) rfl ?_
                      exact g_ret (ins := .ireturn) (len := 1) (r := (some (.int (-2)))) rfl rfl rfl ⟨_, rfl, rfl, (x_sv_rf _)⟩
                    · have q34 : ¬ a = 5 := h32
                      have p35 : 6 ≤ a.toInt := x_lo_ne q34 p31 (by decide)
                      by_cases h36 : a = 6
                      · have e37 : a = 6 := h36
                        subst e37
                        refine g_aa (i := 6) (a := 3) (n := 12) (v := 149) rfl rfl (by decide) (x_at (x_f3 hF) (k := 6) rfl) ?_
                        refine g_n 5 (pc' := 34) (L' := [some (.ref 0), some (.int 6), some (.int b), some (.ref 149)]) (st' := [.int (-2)]) rfl ?_
                        refine g_ret (ins := .ireturn) (len := 1) (r := (some (.int (-2)))) rfl rfl rfl ?_
                        refine ⟨⟨_, rfl⟩, ?_⟩
                        refine g_in (M := x_M589) (L := [some (.ref 281), some (.int 6), some (.int b)]) x_pl589 rfl ?_
                        refine g_n 2 (pc' := 2) (L' := [some (.ref 281), some (.int 6), some (.int b)]) (st' := [.int 6, .ref 281]) rfl ?_
                        refine g_call (ins := .invokevirtual 1213) (len := 3) (j := 541) (as := [.ref 281, .int 6]) (rest := []) rfl rfl rfl rfl (fun _ => rfl) rfl ?_
                        refine g_in (M := x_M541) (L := [some (.ref 281), some (.int 6)]) x_pl541 rfl ?_
                        refine g_n 7 (pc' := 15) (L' := [some (.ref 281), some (.int 6)]) (st' := [.int 1]) rfl ?_
                        refine g_ret (ins := .ireturn) (len := 1) (r := (some (.int 1))) rfl rfl rfl ?_
                        refine g_n 2 (pc' := 9) (L' := [some (.ref 281), some (.int 6), some (.int b)]) (st' := [.int b]) rfl ?_
                        refine g_brF (c := b < (0 : Int32)) (t := 17) (f := 12) (L' := [some (.ref 281), some (.int 6), some (.int b)]) (st' := []) rfl (x_Flt (l := 0) (u := 0) p9 (by decide) (by decide)) ?_
                        refine g_n 2 (pc' := 14) (L' := [some (.ref 281), some (.int 6), some (.int b)]) (st' := [.int 5, .int b]) rfl ?_
                        refine g_brT (c := b ≤ (5 : Int32)) (t := 19) (f := 17) (L' := [some (.ref 281), some (.int 6), some (.int b)]) (st' := []) rfl (x_Tle (u := 5) (l := 5) p11 (by decide) (by decide)) ?_
                        refine g_n 6 (pc' := 30) (L' := [some (.ref 281), some (.int 6), some (.int b)]) (st' := [.int (-2)]) rfl ?_
                        exact g_ret (ins := .ireturn) (len := 1) (r := (some (.int (-2)))) rfl rfl rfl ⟨_, rfl, rfl, (x_sv_rf _)⟩
                      · have q38 : ¬ a = 6 := h36
                        have p39 : 7 ≤ a.toInt := x_lo_ne q38 p35 (by decide)
                        by_cases h40 : a = 7
                        · have e41 : a = 7 := h40
                          subst e41
                          refine g_aa (i := 7) (a := 3) (n := 12) (v := 154) rfl rfl (by decide) (x_at (x_f3 hF) (k := 7) rfl) ?_
                          refine g_n 5 (pc' := 34) (L' := [some (.ref 0), some (.int 7), some (.int b), some (.ref 154)]) (st' := [.int (-2)]) rfl ?_
                          refine g_ret (ins := .ireturn) (len := 1) (r := (some (.int (-2)))) rfl rfl rfl ?_
                          refine ⟨⟨_, rfl⟩, ?_⟩
                          refine g_in (M := x_M589) (L := [some (.ref 281), some (.int 7), some (.int b)]) x_pl589 rfl ?_
                          refine g_n 2 (pc' := 2) (L' := [some (.ref 281), some (.int 7), some (.int b)]) (st' := [.int 7, .ref 281]) rfl ?_
                          refine g_call (ins := .invokevirtual 1213) (len := 3) (j := 541) (as := [.ref 281, .int 7]) (rest := []) rfl rfl rfl rfl (fun _ => rfl) rfl ?_
                          refine g_in (M := x_M541) (L := [some (.ref 281), some (.int 7)]) x_pl541 rfl ?_
                          refine g_n 7 (pc' := 15) (L' := [some (.ref 281), some (.int 7)]) (st' := [.int 1]) rfl ?_
                          refine g_ret (ins := .ireturn) (len := 1) (r := (some (.int 1))) rfl rfl rfl ?_
                          refine g_n 2 (pc' := 9) (L' := [some (.ref 281), some (.int 7), some (.int b)]) (st' := [.int b]) rfl ?_
                          refine g_brF (c := b < (0 : Int32)) (t := 17) (f := 12) (L' := [some (.ref 281), some (.int 7), some (.int b)]) (st' := []) rfl (x_Flt (l := 0) (u := 0) p9 (by decide) (by decide)) ?_
                          refine g_n 2 (pc' := 14) (L' := [some (.ref 281), some (.int 7), some (.int b)]) (st' := [.int 5, .int b]) rfl ?_
                          refine g_brT (c := b ≤ (5 : Int32)) (t := 19) (f := 17) (L' := [some (.ref 281), some (.int 7), some (.int b)]) (st' := []) rfl (x_Tle (u := 5) (l := 5) p11 (by decide) (by decide)) ?_
                          refine g_n 6 (pc' := 30) (L' := [some (.ref 281), some (.int 7), some (.int b)]) (st' := [.int (-2)]) rfl ?_
                          exact g_ret (ins := .ireturn) (len := 1) (r := (some (.int (-2)))) rfl rfl rfl ⟨_, rfl, rfl, (x_sv_rf _)⟩
                        · have q42 : ¬ a = 7 := h40
                          have p43 : 8 ≤ a.toInt := x_lo_ne q42 p39 (by decide)
                          by_cases h44 : a = 8
                          · have e45 : a = 8 := h44
                            subst e45
                            refine g_aa (i := 8) (a := 3) (n := 12) (v := 159) rfl rfl (by decide) (x_at (x_f3 hF) (k := 8) rfl) ?_
                            refine g_n 5 (pc' := 34) (L' := [some (.ref 0), some (.int 8), some (.int b), some (.ref 159)]) (st' := [.int (-2)]) rfl ?_
                            refine g_ret (ins := .ireturn) (len := 1) (r := (some (.int (-2)))) rfl rfl rfl ?_
                            refine ⟨⟨_, rfl⟩, ?_⟩
                            refine g_in (M := x_M589) (L := [some (.ref 281), some (.int 8), some (.int b)]) x_pl589 rfl ?_
                            refine g_n 2 (pc' := 2) (L' := [some (.ref 281), some (.int 8), some (.int b)]) (st' := [.int 8, .ref 281]) rfl ?_
                            refine g_call (ins := .invokevirtual 1213) (len := 3) (j := 541) (as := [.ref 281, .int 8]) (rest := []) rfl rfl rfl rfl (fun _ => rfl) rfl ?_
                            refine g_in (M := x_M541) (L := [some (.ref 281), some (.int 8)]) x_pl541 rfl ?_
                            refine g_n 7 (pc' := 15) (L' := [some (.ref 281), some (.int 8)]) (st' := [.int 1]) rfl ?_
                            refine g_ret (ins := .ireturn) (len := 1) (r := (some (.int 1))) rfl rfl rfl ?_
                            refine g_n 2 (pc' := 9) (L' := [some (.ref 281), some (.int 8), some (.int b)]) (st' := [.int b]) rfl ?_
                            refine g_brF (c := b < (0 : Int32)) (t := 17) (f := 12) (L' := [some (.ref 281), some (.int 8), some (.int b)]) (st' := []) rfl (x_Flt (l := 0) (u := 0) p9 (by decide) (by decide)) ?_
                            refine g_n 2 (pc' := 14) (L' := [some (.ref 281), some (.int 8), some (.int b)]) (st' := [.int 5, .int b]) rfl ?_
                            refine g_brT (c := b ≤ (5 : Int32)) (t := 19) (f := 17) (L' := [some (.ref 281), some (.int 8), some (.int b)]) (st' := []) rfl (x_Tle (u := 5) (l := 5) p11 (by decide) (by decide)) ?_
                            refine g_n 6 (pc' := 30) (L' := [some (.ref 281), some (.int 8), some (.int b)]) (st' := [.int (-2)]) rfl ?_
                            exact g_ret (ins := .ireturn) (len := 1) (r := (some (.int (-2)))) rfl rfl rfl ⟨_, rfl, rfl, (x_sv_rf _)⟩
                          · have q46 : ¬ a = 8 := h44
                            have p47 : 9 ≤ a.toInt := x_lo_ne q46 p43 (by decide)
                            by_cases h48 : a = 9
                            · have e49 : a = 9 := h48
                              subst e49
                              refine g_aa (i := 9) (a := 3) (n := 12) (v := 164) rfl rfl (by decide) (x_at (x_f3 hF) (k := 9) rfl) ?_
                              refine g_n 5 (pc' := 34) (L' := [some (.ref 0), some (.int 9), some (.int b), some (.ref 164)]) (st' := [.int (-2)]) rfl ?_
                              refine g_ret (ins := .ireturn) (len := 1) (r := (some (.int (-2)))) rfl rfl rfl ?_
                              refine ⟨⟨_, rfl⟩, ?_⟩
                              refine g_in (M := x_M589) (L := [some (.ref 281), some (.int 9), some (.int b)]) x_pl589 rfl ?_
                              refine g_n 2 (pc' := 2) (L' := [some (.ref 281), some (.int 9), some (.int b)]) (st' := [.int 9, .ref 281]) rfl ?_
                              refine g_call (ins := .invokevirtual 1213) (len := 3) (j := 541) (as := [.ref 281, .int 9]) (rest := []) rfl rfl rfl rfl (fun _ => rfl) rfl ?_
                              refine g_in (M := x_M541) (L := [some (.ref 281), some (.int 9)]) x_pl541 rfl ?_
                              refine g_n 7 (pc' := 15) (L' := [some (.ref 281), some (.int 9)]) (st' := [.int 1]) rfl ?_
                              refine g_ret (ins := .ireturn) (len := 1) (r := (some (.int 1))) rfl rfl rfl ?_
                              refine g_n 2 (pc' := 9) (L' := [some (.ref 281), some (.int 9), some (.int b)]) (st' := [.int b]) rfl ?_
                              refine g_brF (c := b < (0 : Int32)) (t := 17) (f := 12) (L' := [some (.ref 281), some (.int 9), some (.int b)]) (st' := []) rfl (x_Flt (l := 0) (u := 0) p9 (by decide) (by decide)) ?_
                              refine g_n 2 (pc' := 14) (L' := [some (.ref 281), some (.int 9), some (.int b)]) (st' := [.int 5, .int b]) rfl ?_
                              refine g_brT (c := b ≤ (5 : Int32)) (t := 19) (f := 17) (L' := [some (.ref 281), some (.int 9), some (.int b)]) (st' := []) rfl (x_Tle (u := 5) (l := 5) p11 (by decide) (by decide)) ?_
                              refine g_n 6 (pc' := 30) (L' := [some (.ref 281), some (.int 9), some (.int b)]) (st' := [.int (-2)]) rfl ?_
                              exact g_ret (ins := .ireturn) (len := 1) (r := (some (.int (-2)))) rfl rfl rfl ⟨_, rfl, rfl, (x_sv_rf _)⟩
                            · have q50 : ¬ a = 9 := h48
                              have p51 : 10 ≤ a.toInt := x_lo_ne q50 p47 (by decide)
                              by_cases h52 : a = 10
                              · have e53 : a = 10 := h52
                                subst e53
                                refine g_aa (i := 10) (a := 3) (n := 12) (v := 169) rfl rfl (by decide) (x_at (x_f3 hF) (k := 10) rfl) ?_
                                refine g_n 5 (pc' := 34) (L' := [some (.ref 0), some (.int 10), some (.int b), some (.ref 169)]) (st' := [.int (-2)]) rfl ?_
                                refine g_ret (ins := .ireturn) (len := 1) (r := (some (.int (-2)))) rfl rfl rfl ?_
                                refine ⟨⟨_, rfl⟩, ?_⟩
                                refine g_in (M := x_M589) (L := [some (.ref 281), some (.int 10), some (.int b)]) x_pl589 rfl ?_
                                refine g_n 2 (pc' := 2) (L' := [some (.ref 281), some (.int 10), some (.int b)]) (st' := [.int 10, .ref 281]) rfl ?_
                                refine g_call (ins := .invokevirtual 1213) (len := 3) (j := 541) (as := [.ref 281, .int 10]) (rest := []) rfl rfl rfl rfl (fun _ => rfl) rfl ?_
                                refine g_in (M := x_M541) (L := [some (.ref 281), some (.int 10)]) x_pl541 rfl ?_
                                refine g_n 7 (pc' := 15) (L' := [some (.ref 281), some (.int 10)]) (st' := [.int 1]) rfl ?_
                                refine g_ret (ins := .ireturn) (len := 1) (r := (some (.int 1))) rfl rfl rfl ?_
                                refine g_n 2 (pc' := 9) (L' := [some (.ref 281), some (.int 10), some (.int b)]) (st' := [.int b]) rfl ?_
                                refine g_brF (c := b < (0 : Int32)) (t := 17) (f := 12) (L' := [some (.ref 281), some (.int 10), some (.int b)]) (st' := []) rfl (x_Flt (l := 0) (u := 0) p9 (by decide) (by decide)) ?_
                                refine g_n 2 (pc' := 14) (L' := [some (.ref 281), some (.int 10), some (.int b)]) (st' := [.int 5, .int b]) rfl ?_
                                refine g_brT (c := b ≤ (5 : Int32)) (t := 19) (f := 17) (L' := [some (.ref 281), some (.int 10), some (.int b)]) (st' := []) rfl (x_Tle (u := 5) (l := 5) p11 (by decide) (by decide)) ?_
                                refine g_n 6 (pc' := 30) (L' := [some (.ref 281), some (.int 10), some (.int b)]) (st' := [.int (-2)]) rfl ?_
                                exact g_ret (ins := .ireturn) (len := 1) (r := (some (.int (-2)))) rfl rfl rfl ⟨_, rfl, rfl, (x_sv_rf _)⟩
                              · have q54 : ¬ a = 10 := h52
                                have p55 : 11 ≤ a.toInt := x_lo_ne q54 p51 (by decide)
                                have e56 : a = 11 := x_sing p55 p6 (by decide)
                                subst e56
                                refine g_aa (i := 11) (a := 3) (n := 12) (v := 174) rfl rfl (by decide) (x_at (x_f3 hF) (k := 11) rfl) ?_
                                refine g_n 5 (pc' := 34) (L' := [some (.ref 0), some (.int 11), some (.int b), some (.ref 174)]) (st' := [.int (-2)]) rfl ?_
                                refine g_ret (ins := .ireturn) (len := 1) (r := (some (.int (-2)))) rfl rfl rfl ?_
                                refine ⟨⟨_, rfl⟩, ?_⟩
                                refine g_in (M := x_M589) (L := [some (.ref 281), some (.int 11), some (.int b)]) x_pl589 rfl ?_
                                refine g_n 2 (pc' := 2) (L' := [some (.ref 281), some (.int 11), some (.int b)]) (st' := [.int 11, .ref 281]) rfl ?_
                                refine g_call (ins := .invokevirtual 1213) (len := 3) (j := 541) (as := [.ref 281, .int 11]) (rest := []) rfl rfl rfl rfl (fun _ => rfl) rfl ?_
                                refine g_in (M := x_M541) (L := [some (.ref 281), some (.int 11)]) x_pl541 rfl ?_
                                refine g_n 7 (pc' := 15) (L' := [some (.ref 281), some (.int 11)]) (st' := [.int 1]) rfl ?_
                                refine g_ret (ins := .ireturn) (len := 1) (r := (some (.int 1))) rfl rfl rfl ?_
                                refine g_n 2 (pc' := 9) (L' := [some (.ref 281), some (.int 11), some (.int b)]) (st' := [.int b]) rfl ?_
                                refine g_brF (c := b < (0 : Int32)) (t := 17) (f := 12) (L' := [some (.ref 281), some (.int 11), some (.int b)]) (st' := []) rfl (x_Flt (l := 0) (u := 0) p9 (by decide) (by decide)) ?_
                                refine g_n 2 (pc' := 14) (L' := [some (.ref 281), some (.int 11), some (.int b)]) (st' := [.int 5, .int b]) rfl ?_
                                refine g_brT (c := b ≤ (5 : Int32)) (t := 19) (f := 17) (L' := [some (.ref 281), some (.int 11), some (.int b)]) (st' := []) rfl (x_Tle (u := 5) (l := 5) p11 (by decide) (by decide)) ?_
                                refine g_n 6 (pc' := 30) (L' := [some (.ref 281), some (.int 11), some (.int b)]) (st' := [.int (-2)]) rfl ?_
                                exact g_ret (ins := .ireturn) (len := 1) (r := (some (.int (-2)))) rfl rfl rfl ⟨_, rfl, rfl, (x_sv_rf _)⟩
        · have p57 : 6 ≤ b.toInt := x_lo_lt (x_nle h10) (by decide)
          refine g_n 1 (pc' := 17) (L' := [some (.ref 0), some (.int a), some (.int b), none]) (st' := [.int (-1)]) rfl ?_
          refine g_ret (ins := .ireturn) (len := 1) (r := (some (.int (-1)))) rfl rfl rfl ?_
          refine ⟨⟨_, rfl⟩, ?_⟩
          refine g_in (M := x_M589) (L := [some (.ref 281), some (.int a), some (.int b)]) x_pl589 rfl ?_
          refine g_n 2 (pc' := 2) (L' := [some (.ref 281), some (.int a), some (.int b)]) (st' := [.int a, .ref 281]) rfl ?_
          refine g_call (ins := .invokevirtual 1213) (len := 3) (j := 541) (as := [.ref 281, .int a]) (rest := []) rfl rfl rfl rfl (fun _ => rfl) rfl ?_
          refine g_in (M := x_M541) (L := [some (.ref 281), some (.int a)]) x_pl541 rfl ?_
          refine g_n 1 (pc' := 1) (L' := [some (.ref 281), some (.int a)]) (st' := [.int a]) rfl ?_
          refine g_brF (c := a < (0 : Int32)) (t := 14) (f := 4) (L' := [some (.ref 281), some (.int a)]) (st' := []) rfl (x_Flt (l := 0) (u := 0) p3 (by decide) (by decide)) ?_
          refine g_n 2 (pc' := 7) (L' := [some (.ref 281), some (.int a)]) (st' := [.int 12, .int a]) rfl ?_
          refine g_brF (c := (12 : Int32) ≤ a) (t := 14) (f := 10) (L' := [some (.ref 281), some (.int a)]) (st' := []) rfl (x_Fle (l := 12) (u := 11) (by decide) p6 (by decide)) ?_
          refine g_n 2 (pc' := 15) (L' := [some (.ref 281), some (.int a)]) (st' := [.int 1]) rfl ?_
          refine g_ret (ins := .ireturn) (len := 1) (r := (some (.int 1))) rfl rfl rfl ?_
          refine g_n 2 (pc' := 9) (L' := [some (.ref 281), some (.int a), some (.int b)]) (st' := [.int b]) rfl ?_
          refine g_brF (c := b < (0 : Int32)) (t := 17) (f := 12) (L' := [some (.ref 281), some (.int a), some (.int b)]) (st' := []) rfl (x_Flt (l := 6) (u := 0) p57 (by decide) (by decide)) ?_
          refine g_n 2 (pc' := 14) (L' := [some (.ref 281), some (.int a), some (.int b)]) (st' := [.int 5, .int b]) rfl ?_
          refine g_brF (c := b ≤ (5 : Int32)) (t := 19) (f := 17) (L' := [some (.ref 281), some (.int a), some (.int b)]) (st' := []) rfl (x_Fle (l := 6) (u := 5) p57 (by decide) (by decide)) ?_
          refine g_n 1 (pc' := 18) (L' := [some (.ref 281), some (.int a), some (.int b)]) (st' := [.int (-1)]) rfl ?_
          exact g_ret (ins := .ireturn) (len := 1) (r := (some (.int (-1)))) rfl rfl rfl ⟨_, rfl, rfl, (x_sv_rf _)⟩
