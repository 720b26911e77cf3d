/-! First calls on the fresh objects. -/
set_option maxRecDepth 100000 in
set_option maxHeartbeats 4000000 in
theorem x_op25 {fi : Nat → Nat → Int32} {fl : Nat → Nat → Int64} {fr : Nat → Nat → Option Nat} (hF : x_F fl fr) (a b : Int32) : x_ev 30 384 [.ref 0, .int a, .int b] (x_W fi fl fr) fun r S1 => (∃ fs, x_obj S1 281 = some (12, fs)) ∧ x_ev 30 673 [.ref 281, .int a, .int b] S1 (x_finI (x_W fi fl fr) r) := by
  refine g_in (M := x_M384) (L := [some (.ref 0), some (.int a), some (.int b), none]) x_pl384 rfl ?_
  refine g_n 1 (pc' := 1) (L' := [some (.ref 0), some (.int a), some (.int b), none]) (st' := [.int a]) rfl ?_
  refine g_call (ins := .invokestatic 280) (len := 3) (j := 349) (as := [.int a]) (rest := []) rfl rfl rfl rfl (fun _ => rfl) rfl ?_
  refine g_in (M := x_M349) (L := [some (.int a)]) x_pl349 rfl ?_
  refine g_n 1 (pc' := 1) (L' := [some (.int a)]) (st' := [.int a]) rfl ?_
  refine g_br (c := a < (0 : Int32)) (t := 14) (f := 4) (L' := [some (.int a)]) (st' := []) rfl (fun h1 => ?_) (fun h1 => ?_)
  · have p2 : a.toInt ≤ -1 := x_up_lt h1 (by decide)
    refine g_n 1 (pc' := 15) (L' := [some (.int a)]) (st' := [.int 0]) rfl ?_
    refine g_ret (ins := .ireturn) (len := 1) (r := (some (.int 0))) rfl rfl rfl ?_
    refine g_n 2 (pc' := 15) (L' := [some (.ref 0), some (.int a), some (.int b), none]) (st' := [.int (-1)]) rfl ?_
    refine g_ret (ins := .ireturn) (len := 1) (r := (some (.int (-1)))) rfl rfl rfl ?_
    refine ⟨⟨_, rfl⟩, ?_⟩
    refine g_in (M := x_M673) (L := [some (.ref 281), some (.int a), some (.int b)]) x_pl673 rfl ?_
    refine g_n 2 (pc' := 2) (L' := [some (.ref 281), some (.int a), some (.int b)]) (st' := [.int a, .ref 281]) rfl ?_
    refine g_call (ins := .invokevirtual 1213) (len := 3) (j := 541) (as := [.ref 281, .int a]) (rest := []) rfl rfl rfl rfl (fun _ => rfl) rfl ?_
    refine g_in (M := x_M541) (L := [some (.ref 281), some (.int a)]) x_pl541 rfl ?_
    refine g_n 1 (pc' := 1) (L' := [some (.ref 281), some (.int a)]) (st' := [.int a]) rfl ?_
    refine g_brT (c := a < (0 : Int32)) (t := 14) (f := 4) (L' := [some (.ref 281), some (.int a)]) (st' := []) rfl (x_Tlt (u := -1) (l := 0) p2 (by decide) (by decide)) ?_
    refine g_n 1 (pc' := 15) (L' := [some (.ref 281), some (.int a)]) (st' := [.int 0]) rfl ?_
    refine g_ret (ins := .ireturn) (len := 1) (r := (some (.int 0))) rfl rfl rfl ?_
    refine g_n 2 (pc' := 17) (L' := [some (.ref 281), some (.int a), some (.int b)]) (st' := [.int (-1)]) rfl ?_
    exact g_ret (ins := .ireturn) (len := 1) (r := (some (.int (-1)))) rfl rfl rfl ⟨_, rfl, rfl, (x_sv_rf _)⟩
  · have p3 : 0 ≤ a.toInt := x_lo_le (x_nlt h1) (by decide)
    refine g_n 2 (pc' := 7) (L' := [some (.int a)]) (st' := [.int 12, .int a]) rfl ?_
    refine g_br (c := (12 : Int32) ≤ a) (t := 14) (f := 10) (L' := [some (.int a)]) (st' := []) rfl (fun h4 => ?_) (fun h4 => ?_)
    · have p5 : 12 ≤ a.toInt := x_lo_le h4 (by decide)
      refine g_n 1 (pc' := 15) (L' := [some (.int a)]) (st' := [.int 0]) rfl ?_
      refine g_ret (ins := .ireturn) (len := 1) (r := (some (.int 0))) rfl rfl rfl ?_
      refine g_n 2 (pc' := 15) (L' := [some (.ref 0), some (.int a), some (.int b), none]) (st' := [.int (-1)]) rfl ?_
      refine g_ret (ins := .ireturn) (len := 1) (r := (some (.int (-1)))) rfl rfl rfl ?_
      refine ⟨⟨_, rfl⟩, ?_⟩
      refine g_in (M := x_M673) (L := [some (.ref 281), some (.int a), some (.int b)]) x_pl673 rfl ?_
      refine g_n 2 (pc' := 2) (L' := [some (.ref 281), some (.int a), some (.int b)]) (st' := [.int a, .ref 281]) rfl ?_
      refine g_call (ins := .invokevirtual 1213) (len := 3) (j := 541) (as := [.ref 281, .int a]) (rest := []) rfl rfl rfl rfl (fun _ => rfl) rfl ?_
      refine g_in (M := x_M541) (L := [some (.ref 281), some (.int a)]) x_pl541 rfl ?_
      refine g_n 1 (pc' := 1) (L' := [some (.ref 281), some (.int a)]) (st' := [.int a]) rfl ?_
      refine g_brF (c := a < (0 : Int32)) (t := 14) (f := 4) (L' := [some (.ref 281), some (.int a)]) (st' := []) rfl (x_Flt (l := 12) (u := 0) p5 (by decide) (by decide)) ?_
      refine g_n 2 (pc' := 7) (L' := [some (.ref 281), some (.int a)]) (st' := [.int 12, .int a]) rfl ?_
      refine g_brT (c := (12 : Int32) ≤ a) (t := 14) (f := 10) (L' := [some (.ref 281), some (.int a)]) (st' := []) rfl (x_Tle (u := 12) (l := 12) (by decide) p5 (by decide)) ?_
      refine g_n 1 (pc' := 15) (L' := [some (.ref 281), some (.int a)]) (st' := [.int 0]) rfl ?_
      refine g_ret (ins := .ireturn) (len := 1) (r := (some (.int 0))) rfl rfl rfl ?_
      refine g_n 2 (pc' := 17) (L' := [some (.ref 281), some (.int a), some (.int b)]) (st' := [.int (-1)]) rfl ?_
      exact g_ret (ins := .ireturn) (len := 1) (r := (some (.int (-1)))) rfl rfl rfl ⟨_, rfl, rfl, (x_sv_rf _)⟩
    · have p6 : a.toInt ≤ 11 := x_up_lt (x_nle h4) (by decide)
      refine g_n 2 (pc' := 15) (L' := [some (.int a)]) (st' := [.int 1]) rfl ?_
      refine g_ret (ins := .ireturn) (len := 1) (r := (some (.int 1))) rfl rfl rfl ?_
      refine g_n 2 (pc' := 8) (L' := [some (.ref 0), some (.int a), some (.int b), none]) (st' := [.int b]) rfl ?_
      refine g_call (ins := .invokestatic 150) (len := 3) (j := 347) (as := [.int b]) (rest := []) rfl rfl rfl rfl (fun _ => rfl) rfl ?_
      refine g_in (M := x_M347) (L := [some (.int b)]) x_pl347 rfl ?_
      refine g_n 1 (pc' := 1) (L' := [some (.int b)]) (st' := [.int b]) rfl ?_
      refine g_br (c := b < (0 : Int32)) (t := 14) (f := 4) (L' := [some (.int b)]) (st' := []) rfl (fun h7 => ?_) (fun h7 => ?_)
      · have p8 : b.toInt ≤ -1 := x_up_lt h7 (by decide)
        refine g_n 1 (pc' := 15) (L' := [some (.int b)]) (st' := [.int 0]) rfl ?_
        refine g_ret (ins := .ireturn) (len := 1) (r := (some (.int 0))) rfl rfl rfl ?_
        refine g_n 2 (pc' := 15) (L' := [some (.ref 0), some (.int a), some (.int b), none]) (st' := [.int (-1)]) rfl ?_
        refine g_ret (ins := .ireturn) (len := 1) (r := (some (.int (-1)))) rfl rfl rfl ?_
        refine ⟨⟨_, rfl⟩, ?_⟩
        refine g_in (M := x_M673) (L := [some (.ref 281), some (.int a), some (.int b)]) x_pl673 rfl ?_
        refine g_n 2 (pc' := 2) (L' := [some (.ref 281), some (.int a), some (.int b)]) (st' := [.int a, .ref 281]) rfl ?_
        refine g_call (ins := .invokevirtual 1213) (len := 3) (j := 541) (as := [.ref 281, .int a]) (rest := []) rfl rfl rfl rfl (fun _ => rfl) rfl ?_
        refine g_in (M := x_M541) (L := [some (.ref 281), some (.int a)]) x_pl541 rfl ?_
        refine g_n 1 (pc' := 1) (L' := [some (.ref 281), some (.int a)]) (st' := [.int a]) rfl ?_
        refine g_brF (c := a < (0 : Int32)) (t := 14) (f := 4) (L' := [some (.ref 281), some (.int a)]) (st' := []) rfl (x_Flt (l := 0) (u := 0) p3 (by decide) (by decide)) ?_
        refine g_n 2 (pc' := 7) (L' := [some (.ref 281), some (.int a)]) (st' := [.int 12, .int a]) rfl ?_
        refine g_brF (c := (12 : Int32) ≤ a) (t := 14) (f := 10) (L' := [some (.ref 281), some (.int a)]) (st' := []) rfl (x_Fle (l := 12) (u := 11) (by decide) p6 (by decide)) ?_
        refine g_n 2 (pc' := 15) (L' := [some (.ref 281), some (.int a)]) (st' := [.int 1]) rfl ?_
        refine g_ret (ins := .ireturn) (len := 1) (r := (some (.int 1))) rfl rfl rfl ?_
        refine g_n 3 (pc' := 10) (L' := [some (.ref 281), some (.int a), some (.int b)]) (st' := [.int b, .ref 281]) rfl ?_
        refine g_call (ins := .invokevirtual 671) (len := 3) (j := 411) (as := [.ref 281, .int b]) (rest := []) rfl rfl rfl rfl (fun _ => rfl) rfl ?_
        refine g_in (M := x_M411) (L := [some (.ref 281), some (.int b)]) x_pl411 rfl ?_
        refine g_n 1 (pc' := 1) (L' := [some (.ref 281), some (.int b)]) (st' := [.int b]) rfl ?_
        refine g_brT (c := b < (0 : Int32)) (t := 14) (f := 4) (L' := [some (.ref 281), some (.int b)]) (st' := []) rfl (x_Tlt (u := -1) (l := 0) p8 (by decide) (by decide)) ?_
        refine g_n 1 (pc' := 15) (L' := [some (.ref 281), some (.int b)]) (st' := [.int 0]) rfl ?_
        refine g_ret (ins := .ireturn) (len := 1) (r := (some (.int 0))) rfl rfl rfl ?_
        refine g_n 2 (pc' := 17) (L' := [some (.ref 281), some (.int a), some (.int b)]) (st' := [.int (-1)]) rfl ?_
        exact g_ret (ins := .ireturn) (len := 1) (r := (some (.int (-1)))) rfl rfl rfl ⟨_, rfl, rfl, (x_sv_rf _)⟩
      · have p9 : 0 ≤ b.toInt := x_lo_le (x_nlt h7) (by decide)
        refine g_n 2 (pc' := 7) (L' := [some (.int b)]) (st' := [.int 8, .int b]) rfl ?_
        refine g_br (c := (8 : Int32) ≤ b) (t := 14) (f := 10) (L' := [some (.int b)]) (st' := []) rfl (fun h10 => ?_) (fun h10 => ?_)
        · have p11 : 8 ≤ b.toInt := x_lo_le h10 (by decide)
          refine g_n 1 (pc' := 15) (L' := [some (.int b)]) (st' := [.int 0]) rfl ?_
          refine g_ret (ins := .ireturn) (len := 1) (r := (some (.int 0))) rfl rfl rfl ?_
          refine g_n 2 (pc' := 15) (L' := [some (.ref 0), some (.int a), some (.int b), none]) (st' := [.int (-1)]) rfl ?_
          refine g_ret (ins := .ireturn) (len := 1) (r := (some (.int (-1)))) rfl rfl rfl ?_
          refine ⟨⟨_, rfl⟩, ?_⟩
          refine g_in (M := x_M673) (L := [some (.ref 281), some (.int a), some (.int b)]) x_pl673 rfl ?_
          refine g_n 2 (pc' := 2) (L' := [some (.ref 281), some (.int a), some (.int b)]) (st' := [.int a, .ref 281]) rfl ?_
          refine g_call (ins := .invokevirtual 1213) (len := 3) (j := 541) (as := [.ref 281, .int a]) (rest := []) rfl rfl rfl rfl (fun _ => rfl) rfl ?_
          refine g_in (M := x_M541) (L := [some (.ref 281), some (.int a)]) x_pl541 rfl ?_
          refine g_n 1 (pc' := 1) (L' := [some (.ref 281), some (.int a)]) (st' := [.int a]) rfl ?_
          refine g_brF (c := a < (0 : Int32)) (t := 14) (f := 4) (L' := [some (.ref 281), some (.int a)]) (st' := []) rfl (x_Flt (l := 0) (u := 0) p3 (by decide) (by decide)) ?_
          refine g_n 2 (pc' := 7) (L' := [some (.ref 281), some (.int a)]) (st' := [.int 12, .int a]) rfl ?_
          refine g_brF (c := (12 : Int32) ≤ a) (t := 14) (f := 10) (L' := [some (.ref 281), some (.int a)]) (st' := []) rfl (x_Fle (l := 12) (u := 11) (by decide) p6 (by decide)) ?_
          refine g_n 2 (pc' := 15) (L' := [some (.ref 281), some (.int a)]) (st' := [.int 1]) rfl ?_
          refine g_ret (ins := .ireturn) (len := 1) (r := (some (.int 1))) rfl rfl rfl ?_
          refine g_n 3 (pc' := 10) (L' := [some (.ref 281), some (.int a), some (.int b)]) (st' := [.int b, .ref 281]) rfl ?_
          refine g_call (ins := .invokevirtual 671) (len := 3) (j := 411) (as := [.ref 281, .int b]) (rest := []) rfl rfl rfl rfl (fun _ => rfl) rfl ?_
          refine g_in (M := x_M411) (L := [some (.ref 281), some (.int b)]) x_pl411 rfl ?_
          refine g_n 1 (pc' := 1) (L' := [some (.ref 281), some (.int b)]) (st' := [.int b]) rfl ?_
          refine g_brF (c := b < (0 : Int32)) (t := 14) (f := 4) (L' := [some (.ref 281), some (.int b)]) (st' := []) rfl (x_Flt (l := 8) (u := 0) p11 (by decide) (by decide)) ?_
          refine g_n 2 (pc' := 7) (L' := [some (.ref 281), some (.int b)]) (st' := [.int 8, .int b]) rfl ?_
          refine g_brT (c := (8 : Int32) ≤ b) (t := 14) (f := 10) (L' := [some (.ref 281), some (.int b)]) (st' := []) rfl (x_Tle (u := 8) (l := 8) (by decide) p11 (by decide)) ?_
          refine g_n 1 (pc' := 15) (L' := [some (.ref 281), some (.int b)]) (st' := [.int 0]) rfl ?_
          refine g_ret (ins := .ireturn) (len := 1) (r := (some (.int 0))) rfl rfl rfl ?_
          refine g_n 2 (pc' := 17) (L' := [some (.ref 281), some (.int a), some (.int b)]) (st' := [.int (-1)]) rfl ?_
          exact g_ret (ins := .ireturn) (len := 1) (r := (some (.int (-1)))) rfl rfl rfl ⟨_, rfl, rfl, (x_sv_rf _)⟩
        · have p12 : b.toInt ≤ 7 := x_up_lt (x_nle h10) (by decide)
          refine g_n 2 (pc' := 15) (L' := [some (.int b)]) (st' := [.int 1]) rfl ?_
          refine g_ret (ins := .ireturn) (len := 1) (r := (some (.int 1))) rfl rfl rfl ?_
          refine g_n 4 (pc' := 21) (L' := [some (.ref 0), some (.int a), some (.int b), none]) (st' := [.int a, .ref 3]) rfl ?_
          by_cases h13 : a = 0
          · have e14 : a = 0 := h13
            subst e14
            refine g_aa (i := 0) (a := 3) (n := 12) (v := 119) rfl rfl (by decide) (x_at (x_f3 hF) (k := 0) rfl) ?_
            refine g_n 3 (pc' := 30) (L' := [some (.ref 0), some (.int 0), some (.int b), none]) (st' := [.int (-2)]) rfl ?_
            refine g_ret (ins := .ireturn) (len := 1) (r := (some (.int (-2)))) rfl rfl rfl ?_
            refine ⟨⟨_, rfl⟩, ?_⟩
            refine g_in (M := x_M673) (L := [some (.ref 281), some (.int 0), some (.int b)]) x_pl673 rfl ?_
            refine g_n 2 (pc' := 2) (L' := [some (.ref 281), some (.int 0), some (.int b)]) (st' := [.int 0, .ref 281]) rfl ?_
            refine g_call (ins := .invokevirtual 1213) (len := 3) (j := 541) (as := [.ref 281, .int 0]) (rest := []) rfl rfl rfl rfl (fun _ => rfl) rfl ?_
            refine g_in (M := x_M541) (L := [some (.ref 281), some (.int 0)]) x_pl541 rfl ?_
            refine g_n 7 (pc' := 15) (L' := [some (.ref 281), some (.int 0)]) (st' := [.int 1]) rfl ?_
            refine g_ret (ins := .ireturn) (len := 1) (r := (some (.int 1))) rfl rfl rfl ?_
            refine g_n 3 (pc' := 10) (L' := [some (.ref 281), some (.int 0), some (.int b)]) (st' := [.int b, .ref 281]) rfl ?_
            refine g_call (ins := .invokevirtual 671) (len := 3) (j := 411) (as := [.ref 281, .int b]) (rest := []) rfl rfl rfl rfl (fun _ => rfl) rfl ?_
            refine g_in (M := x_M411) (L := [some (.ref 281), some (.int b)]) x_pl411 rfl ?_
            refine g_n 1 (pc' := 1) (L' := [some (.ref 281), some (.int b)]) (st' := [.int b]) rfl ?_
            refine g_brF (c := b < (0 : Int32)) (t := 14) (f := 4) (L' := [some (.ref 281), some (.int b)]) (st' := []) rfl (x_Flt (l := 0) (u := 0) p9 (by decide) (by decide)) ?_
            refine g_n 2 (pc' := 7) (L' := [some (.ref 281), some (.int b)]) (st' := [.int 8, .int b]) rfl ?_
            refine g_brF (c := (8 : Int32) ≤ b) (t := 14) (f := 10) (L' := [some (.ref 281), some (.int b)]) (st' := []) rfl (x_Fle (l := 8) (u := 7) (by decide) p12 (by decide)) ?_
            refine g_n 2 (pc' := 15) (L' := [some (.ref 281), some (.int b)]) (st' := [.int 1]) rfl ?_
            refine g_ret (ins := .ireturn) (len := 1) (r := (some (.int 1))) rfl rfl rfl ?_
            refine g_n 7 (pc' := 29) (L' := [some (.ref 281), some (.int 0), some (.int b)]) (st' := [.int (-2)]) rfl ?_
            exact g_ret (ins := .ireturn) (len := 1) (r := (some (.int (-2)))) rfl rfl rfl ⟨_, rfl, rfl, (x_sv_rf _)⟩
          · have q15 : ¬ a = 0 := h13
            have p16 : 1 ≤ a.toInt := x_lo_ne q15 p3 (by decide)
            by_cases h17 : a = 1
            · have e18 : a = 1 := h17
              subst e18
              refine g_aa (i := 1) (a := 3) (n := 12) (v := 124) rfl rfl (by decide) (x_at (x_f3 hF) (k := 1) rfl) ?_
              refine g_n 3 (pc' := 30) (L' := [some (.ref 0), some (.int 1), some (.int b), none]) (st' := [.int (-2)]) rfl ?_
              refine g_ret (ins := .ireturn) (len := 1) (r := (some (.int (-2)))) rfl rfl rfl ?_
              refine ⟨⟨_, rfl⟩, ?_⟩
              refine g_in (M := x_M673) (L := [some (.ref 281), some (.int 1), some (.int b)]) x_pl673 rfl ?_
              refine g_n 2 (pc' := 2) (L' := [some (.ref 281), some (.int 1), some (.int b)]) (st' := [.int 1, .ref 281]) rfl ?_
              refine g_call (ins := .invokevirtual 1213) (len := 3) (j := 541) (as := [.ref 281, .int 1]) (rest := []) rfl rfl rfl rfl (fun _ => rfl) rfl ?_
              refine g_in (M := x_M541) (L := [some (.ref 281), some (.int 1)]) x_pl541 rfl ?_
              refine g_n 7 (pc' := 15) (L' := [some (.ref 281), some (.int 1)]) (st' := [.int 1]) rfl ?_
              refine g_ret (ins := .ireturn) (len := 1) (r := (some (.int 1))) rfl rfl rfl ?_
              refine g_n 3 (pc' := 10) (L' := [some (.ref 281), some (.int 1), some (.int b)]) (st' := [.int b, .ref 281]) rfl ?_
              refine g_call (ins := .invokevirtual 671) (len := 3) (j := 411) (as := [.ref 281, .int b]) (rest := []) rfl rfl rfl rfl (fun _ => rfl) rfl ?_
              refine g_in (M := x_M411) (L := [some (.ref 281), some (.int b)]) x_pl411 rfl ?_
              refine g_n 1 (pc' := 1) (L' := [some (.ref 281), some (.int b)]) (st' := [.int b]) rfl ?_
              refine g_brF (c := b < (0 : Int32)) (t := 14) (f := 4) (L' := [some (.ref 281), some (.int b)]) (st' := []) rfl (x_Flt (l := 0) (u := 0) p9 (by decide) (by decide)) ?_
              refine g_n 2 (pc' := 7) (L' := [some (.ref 281), some (.int b)]) (st' := [.int 8, .int b]) rfl ?_
              refine g_brF (c := (8 : Int32) ≤ b) (t := 14) (f := 10) (L' := [some (.ref 281), some (.int b)]) (st' := []) rfl (x_Fle (l := 8) (u := 7) (by decide) p12 (by decide)) ?_
              refine g_n 2 (pc' := 15) (L' := [some (.ref 281), some (.int b)]) (st' := [.int 1]) rfl ?_
              refine g_ret (ins := .ireturn) (len := 1) (r := (some (.int 1))) rfl rfl rfl ?_
              refine g_n 7 (pc' := 29) (L' := [some (.ref 281), some (.int 1), some (.int b)]) (st' := [.int (-2)]) rfl ?_
              exact g_ret (ins := .ireturn) (len := 1) (r := (some (.int (-2)))) rfl rfl rfl ⟨_, rfl, rfl, (x_sv_rf _)⟩
            · have q19 : ¬ a = 1 := h17
              have p20 : 2 ≤ a.toInt := x_lo_ne q19 p16 (by decide)
              by_cases h21 : a = 2
              · have e22 : a = 2 := h21
                subst e22
                refine g_aa (i := 2) (a := 3) (n := 12) (v := 129) rfl rfl (by decide) (x_at (x_f3 hF) (k := 2) rfl) ?_
                refine g_n 3 (pc' := 30) (L' := [some (.ref 0), some (.int 2), some (.int b), none]) (st' := [.int (-2)]) rfl ?_
                refine g_ret (ins := .ireturn) (len := 1) (r := (some (.int (-2)))) rfl rfl rfl ?_
                refine ⟨⟨_, rfl⟩, ?_⟩
                refine g_in (M := x_M673) (L := [some (.ref 281), some (.int 2), some (.int b)]) x_pl673 rfl ?_
                refine g_n 2 (pc' := 2) (L' := [some (.ref 281), some (.int 2), some (.int b)]) (st' := [.int 2, .ref 281]) rfl ?_
                refine g_call (ins := .invokevirtual 1213) (len := 3) (j := 541) (as := [.ref 281, .int 2]) (rest := []) rfl rfl rfl rfl (fun _ => rfl) rfl ?_
                refine g_in (M := x_M541) (L := [some (.ref 281), some (.int 2)]) x_pl541 rfl ?_
                refine g_n 7 (pc' := 15) (L' := [some (.ref 281), some (.int 2)]) (st' := [.int 1]) rfl ?_
                refine g_ret (ins := .ireturn) (len := 1) (r := (some (.int 1))) rfl rfl rfl ?_
                refine g_n 3 (pc' := 10) (L' := [some (.ref 281), some (.int 2), some (.int b)]) (st' := [.int b, .ref 281]) rfl ?_
                refine g_call (ins := .invokevirtual 671) (len := 3) (j := 411) (as := [.ref 281, .int b]) (rest := []) rfl rfl rfl rfl (fun _ => rfl) rfl ?_
                refine g_in (M := x_M411) (L := [some (.ref 281), some (.int b)]) x_pl411 rfl ?_
                refine g_n 1 (pc' := 1) (L' := [some (.ref 281), some (.int b)]) (st' := [.int b]) rfl ?_
                refine g_brF (c := b < (0 : Int32)) (t := 14) (f := 4) (L' := [some (.ref 281), some (.int b)]) (st' := []) rfl (x_Flt (l := 0) (u := 0) p9 (by decide) (by decide)) ?_
                refine g_n 2 (pc' := 7) (L' := [some (.ref 281), some (.int b)]) (st' := [.int 8, .int b]) rfl ?_
                refine g_brF (c := (8 : Int32) ≤ b) (t := 14) (f := 10) (L' := [some (.ref 281), some (.int b)]) (st' := []) rfl (x_Fle (l := 8) (u := 7) (by decide) p12 (by decide)) ?_
                refine g_n 2 (pc' := 15) (L' := [some (.ref 281), some (.int b)]) (st' := [.int 1]) rfl ?_
                refine g_ret (ins := .ireturn) (len := 1) (r := (some (.int 1))) rfl rfl rfl ?_
                refine g_n 7 (pc' := 29) (L' := [some (.ref 281), some (.int 2), some (.int b)]) (st' := [.int (-2)]) rfl ?_
                exact g_ret (ins := .ireturn) (len := 1) (r := (some (.int (-2)))) rfl rfl rfl ⟨_, rfl, rfl, (x_sv_rf _)⟩
              · have q23 : ¬ a = 2 := h21
                have p24 : 3 ≤ a.toInt := x_lo_ne q23 p20 (by decide)
                by_cases h25 : a = 3
                · have e26 : a = 3 := h25
                  subst e26
                  refine g_aa (i := 3) (a := 3) (n := 12) (v := 134) rfl rfl (by decide) (x_at (x_f3 hF) (k := 3) rfl) ?_
                  refine g_n 3 (pc' := 30) (L' := [some (.ref 0), some (.int 3), some (.int b), none]) (st' := [.int (-2)]) rfl ?_
                  refine g_ret (ins := .ireturn) (len := 1) (r := (some (.int (-2)))) rfl rfl rfl ?_
                  refine ⟨⟨_, rfl⟩, ?_⟩
                  refine g_in (M := x_M673) (L := [some (.ref 281), some (.int 3), some (.int b)]) x_pl673 rfl ?_
                  refine g_n 2 (pc' := 2) (L' := [some (.ref 281), some (.int 3), some (.int b)]) (st' := [.int 3, .ref 281]) rfl ?_
                  refine g_call (ins := .invokevirtual 1213) (len := 3) (j := 541) (as := [.ref 281, .int 3]) (rest := []) rfl rfl rfl rfl (fun _ => rfl) rfl ?_
                  refine g_in (M := x_M541) (L := [some (.ref 281), some (.int 3)]) x_pl541 rfl ?_
                  refine g_n 7 (pc' := 15) (L' := [some (.ref 281), some (.int 3)]) (st' := [.int 1]) rfl ?_
                  refine g_ret (ins := .ireturn) (len := 1) (r := (some (.int 1))) rfl rfl rfl ?_
                  refine g_n 3 (pc' := 10) (L' := [some (.ref 281), some (.int 3), some (.int b)]) (st' := [.int b, .ref 281]) rfl ?_
                  refine g_call (ins := .invokevirtual 671) (len := 3) (j := 411) (as := [.ref 281, .int b]) (rest := []) rfl rfl rfl rfl (fun _ => rfl) rfl ?_
                  refine g_in (M := x_M411) (L := [some (.ref 281), some (.int b)]) x_pl411 rfl ?_
                  refine g_n 1 (pc' := 1) (L' := [some (.ref 281), some (.int b)]) (st' := [.int b]) rfl ?_
                  refine g_brF (c := b < (0 : Int32)) (t := 14) (f := 4) (L' := [some (.ref 281), some (.int b)]) (st' := []) rfl (x_Flt (l := 0) (u := 0) p9 (by decide) (by decide)) ?_
                  refine g_n 2 (pc' := 7) (L' := [some (.ref 281), some (.int b)]) (st' := [.int 8, .int b]) rfl ?_
                  refine g_brF (c := (8 : Int32) ≤ b) (t := 14) (f := 10) (L' := [some (.ref 281), some (.int b)]) (st' := []) rfl (x_Fle (l := 8) (u := 7) (by decide) p12 (by decide)) ?_
                  refine g_n 2 (pc' := 15) (L' := [some (.ref 281), some (.int b)]) (st' := [.int 1]) rfl ?_
                  refine g_ret (ins := .ireturn) (len := 1) (r := (some (.int 1))) rfl rfl rfl ?_
                  refine g_n 7 (pc' := 29) (L' := [some (.ref 281), some (.int 3), some (.int b)]) (st' := [.int (-2)]) rfl ?_
                  exact g_ret (ins := .ireturn) (len := 1) (r := (some (.int (-2)))) rfl rfl rfl ⟨_, rfl, rfl, (x_sv_rf _)⟩
                · have q27 : ¬ a = 3 := h25
                  have p28 : 4 ≤ a.toInt := x_lo_ne q27 p24 (by decide)
                  by_cases h29 : a = 4
                  · have e30 : a = 4 := h29
                    subst e30
                    refine g_aa (i := 4) (a := 3) (n := 12) (v := 139) rfl rfl (by decide) (x_at (x_f3 hF) (k := 4) rfl) ?_
                    refine g_n 3 (pc' := 30) (L' := [some (.ref 0), some (.int 4), some (.int b), none]) (st' := [.int (-2)]) rfl ?_
                    refine g_ret (ins := .ireturn) (len := 1) (r := (some (.int (-2)))) rfl rfl rfl ?_
                    refine ⟨⟨_, rfl⟩, ?_⟩
                    refine g_in (M := x_M673) (L := [some (.ref 281), some (.int 4), some (.int b)]) x_pl673 rfl ?_
                    refine g_n 2 (pc' := 2) (L' := [some (.ref 281), some (.int 4), some (.int b)]) (st' := [.int 4, .ref 281]) rfl ?_
                    refine g_call (ins := .invokevirtual 1213) (len := 3) (j := 541) (as := [.ref 281, .int 4]) (rest := []) rfl rfl rfl rfl (fun _ => rfl) rfl ?_
                    refine g_in (M := x_M541) (L := [some (.ref 281), some (.int 4)]) x_pl541 rfl ?_
                    refine g_n 7 (pc' := 15) (L' := [some (.ref 281), some (.int 4)]) (st' := [.int 1]) rfl ?_
                    refine g_ret (ins := .ireturn) (len := 1) (r := (some (.int 1))) rfl rfl rfl ?_
                    refine g_n 3 (pc' := 10) (L' := [some (.ref 281), some (.int 4), some (.int b)]) (st' := [.int b, .ref 281]) rfl ?_
                    refine g_call (ins := .invokevirtual 671) (len := 3) (j := 411) (as := [.ref 281, .int b]) (rest := []) rfl rfl rfl rfl (fun _ => rfl) rfl ?_
                    refine g_in (M := x_M411) (L := [some (.ref 281), some (.int b)]) x_pl411 rfl ?_
                    refine g_n 1 (pc' := 1) (L' := [some (.ref 281), some (.int b)]) (st' := [.int b]) rfl ?_
                    refine g_brF (c := b < (0 : Int32)) (t := 14) (f := 4) (L' := [some (.ref 281), some (.int b)]) (st' := []) rfl (x_Flt (l := 0) (u := 0) p9 (by decide) (by decide)) ?_
                    refine g_n 2 (pc' := 7) (L' := [some (.ref 281), some (.int b)]) (st' := [.int 8, .int b]) rfl ?_
                    refine g_brF (c := (8 : Int32) ≤ b) (t := 14) (f := 10) (L' := [some (.ref 281), some (.int b)]) (st' := []) rfl (x_Fle (l := 8) (u := 7) (by decide) p12 (by decide)) ?_
                    refine g_n 2 (pc' := 15) (L' := [some (.ref 281), some (.int b)]) (st' := [.int 1]) rfl ?_
                    refine g_ret (ins := .ireturn) (len := 1) (r := (some (.int 1))) rfl rfl rfl ?_
                    refine g_n 7 (pc' := 29) (L' := [some (.ref 281), some (.int 4), some (.int b)]) (st' := [.int (-2)]) rfl ?_
                    exact g_ret (ins := .ireturn) (len := 1) (r := (some (.int (-2)))) rfl rfl rfl ⟨_, rfl, rfl, (x_sv_rf _)⟩
                  · have q31 : ¬ a = 4 := h29
                    have p32 : 5 ≤ a.toInt := x_lo_ne q31 p28 (by decide)
                    by_cases h33 : a = 5
                    · have e34 : a = 5 := h33
                      subst e34
                      refine g_aa (i := 5) (a := 3) (n := 12) (v := 144) rfl rfl (by decide) (x_at (x_f3 hF) (k := 5) rfl) ?_
                      refine g_n 3 (pc' := 30) (L' := [some (.ref 0), some (.int 5), some (.int b), none]) (st' := [.int (-2)]) rfl ?_
                      refine g_ret (ins := .ireturn) (len := 1) (r := (some (.int (-2)))) rfl rfl rfl ?_
                      refine ⟨⟨_, rfl⟩, ?_⟩
                      refine g_in (M := x_M673) (L := [some (.ref 281), some (.int 5), some (.int b)]) x_pl673 rfl ?_
                      refine g_n 2 (pc' := 2) (L' := [some (.ref 281), some (.int 5), some (.int b)]) (st' := [.int 5, .ref 281]) rfl ?_
                      refine g_call (ins := .invokevirtual 1213) (len := 3) (j := 541) (as := [.ref 281, .int 5]) (rest := []) rfl rfl rfl rfl (fun _ => rfl) rfl ?_
                      refine g_in (M := x_M541) (L := [some (.ref 281), some (.int 5)]) x_pl541 rfl ?_
                      refine g_n 7 (pc' := 15) (L' := [some (.ref 281), some (.int 5)]) (st' := [.int 1]) rfl ?_
                      refine g_ret (ins := .ireturn) (len := 1) (r := (some (.int 1))) rfl rfl rfl ?_
                      refine g_n 3 (pc' := 10) (L' := [some (.ref 281), some (.int 5), some (.int b)]) (st' := [.int b, .ref 281]) rfl ?_
                      refine g_call (ins := .invokevirtual 671) (len := 3) (j := 411) (as := [.ref 281, .int b]) (rest := []) rfl rfl rfl rfl (fun _ => rfl) rfl ?_
                      refine g_in (M := x_M411) (L := [some (.ref 281), some (.int b)]) x_pl411 rfl ?_
                      refine g_n 1 (pc' := 1) (L' := [some (.ref 281), some (.int b)]) (st' := [.int b]) rfl ?_
                      refine g_brF (c := b < (0 : Int32)) (t := 14) (f := 4) (L' := [some (.ref 281), some (.int b)]) (st' := []) rfl (x_Flt (l := 0) (u := 0) p9 (by decide) (by decide)) ?_
                      refine g_n 2 (pc' := 7) (L' := [some (.ref 281), some (.int b)]) (st' := [.int 8, .int b]) rfl ?_
                      refine g_brF (c := (8 : Int32) ≤ b) (t := 14) (f := 10) (L' := [some (.ref 281), some (.int b)]) (st' := []) rfl (x_Fle (l := 8) (u := 7) (by decide) p12 (by decide)) ?_
                      refine g_n 2 (pc' := 15) (L' := [some (.ref 281), some (.int b)]) (st' := [.int 1]) rfl ?_
                      refine g_ret (ins := .ireturn) (len := 1) (r := (some (.int 1))) rfl rfl rfl ?_
                      refine g_n 7 (pc' := 29) (L' := [some (.ref 281), some (.int 5), some (.int b)]) (st' := [.int (-2)]) rfl ?_
                      exact g_ret (ins := .ireturn) (len := 1) (r := (some (.int (-2)))) rfl rfl rfl ⟨_, rfl, rfl, (x_sv_rf _)⟩
                    · have q35 : ¬ a = 5 := h33
                      have p36 : 6 ≤ a.toInt := x_lo_ne q35 p32 (by decide)
                      by_cases h37 : a = 6
                      · have e38 : a = 6 := h37
                        subst e38
                        refine g_aa (i := 6) (a := 3) (n := 12) (v := 149) rfl rfl (by decide) (x_at (x_f3 hF) (k := 6) rfl) ?_
                        refine g_n 3 (pc' := 30) (L' := [some (.ref 0), some (.int 6), some (.int b), none]) (st' := [.int (-2)]) rfl ?_
                        refine g_ret (ins := .ireturn) (len := 1) (r := (some (.int (-2)))) rfl rfl rfl ?_
                        refine ⟨⟨_, rfl⟩, ?_⟩
                        refine g_in (M := x_M673) (L := [some (.ref 281), some (.int 6), some (.int b)]) x_pl673 rfl ?_
                        refine g_n 2 (pc' := 2) (L' := [some (.ref 281), some (.int 6), some (.int b)]) (st' := [.int 6, .ref 281]) rfl ?_
                        refine g_call (ins := .invokevirtual 1213) (len := 3) (j := 541) (as := [.ref 281, .int 6]) (rest := []) rfl rfl rfl rfl (fun _ => rfl) rfl ?_
                        refine g_in (M := x_M541) (L := [some (.ref 281), some (.int 6)]) x_pl541 rfl ?_
                        refine g_n 7 (pc' := 15) (L' := [some (.ref 281), some (.int 6)]) (st' := [.int 1]) rfl ?_
                        refine g_ret (ins := .ireturn) (len := 1) (r := (some (.int 1))) rfl rfl rfl ?_
                        refine g_n 3 (pc' := 10) (L' := [some (.ref 281), some (.int 6), some (.int b)]) (st' := [.int b, .ref 281]) rfl ?_
                        refine g_call (ins := .invokevirtual 671) (len := 3) (j := 411) (as := [.ref 281, .int b]) (rest := []) rfl rfl rfl rfl (fun _ => rfl) rfl ?_
                        refine g_in (M := x_M411) (L := [some (.ref 281), some (.int b)]) x_pl411 rfl ?_
                        refine g_n 1 (pc' := 1) (L' := [some (.ref 281), some (.int b)]) (st' := [.int b]) rfl ?_
                        refine g_brF (c := b < (0 : Int32)) (t := 14) (f := 4) (L' := [some (.ref 281), some (.int b)]) (st' := []) rfl (x_Flt (l := 0) (u := 0) p9 (by decide) (by decide)) ?_
                        refine g_n 2 (pc' := 7) (L' := [some (.ref 281), some (.int b)]) (st' := [.int 8, .int b]) rfl ?_
                        refine g_brF (c := (8 : Int32) ≤ b) (t := 14) (f := 10) (L' := [some (.ref 281), some (.int b)]) (st' := []) rfl (x_Fle (l := 8) (u := 7) (by decide) p12 (by decide)) ?_
                        refine g_n 2 (pc' := 15) (L' := [some (.ref 281), some (.int b)]) (st' := [.int 1]) rfl ?_
                        refine g_ret (ins := .ireturn) (len := 1) (r := (some (.int 1))) rfl rfl rfl ?_
                        refine g_n 7 (pc' := 29) (L' := [some (.ref 281), some (.int 6), some (.int b)]) (st' := [.int (-2)]) rfl ?_
                        exact g_ret (ins := .ireturn) (len := 1) (r := (some (.int (-2)))) rfl rfl rfl ⟨_, rfl, rfl, (x_sv_rf _)⟩
                      · have q39 : ¬ a = 6 := h37
                        have p40 : 7 ≤ a.toInt := x_lo_ne q39 p36 (by decide)
                        by_cases h41 : a = 7
                        · have e42 : a = 7 := h41
                          subst e42
                          refine g_aa (i := 7) (a := 3) (n := 12) (v := 154) rfl rfl (by decide) (x_at (x_f3 hF) (k := 7) rfl) ?_
                          refine g_n 3 (pc' := 30) (L' := [some (.ref 0), some (.int 7), some (.int b), none]) (st' := [.int (-2)]) rfl ?_
                          refine g_ret (ins := .ireturn) (len := 1) (r := (some (.int (-2)))) rfl rfl rfl ?_
                          refine ⟨⟨_, rfl⟩, ?_⟩
                          refine g_in (M := x_M673) (L := [some (.ref 281), some (.int 7), some (.int b)]) x_pl673 rfl ?_
                          refine g_n 2 (pc' := 2) (L' := [some (.ref 281), some (.int 7), some (.int b)]) (st' := [.int 7, .ref 281]) rfl ?_
                          refine g_call (ins := .invokevirtual 1213) (len := 3) (j := 541) (as := [.ref 281, .int 7]) (rest := []) rfl rfl rfl rfl (fun _ => rfl) rfl ?_
                          refine g_in (M := x_M541) (L := [some (.ref 281), some (.int 7)]) x_pl541 rfl ?_
                          refine g_n 7 (pc' := 15) (L' := [some (.ref 281), some (.int 7)]) (st' := [.int 1]) rfl ?_
                          refine g_ret (ins := .ireturn) (len := 1) (r := (some (.int 1))) rfl rfl rfl ?_
                          refine g_n 3 (pc' := 10) (L' := [some (.ref 281), some (.int 7), some (.int b)]) (st' := [.int b, .ref 281]) rfl ?_
                          refine g_call (ins := .invokevirtual 671) (len := 3) (j := 411) (as := [.ref 281, .int b]) (rest := []) rfl rfl rfl rfl (fun _ => rfl) rfl ?_
                          refine g_in (M := x_M411) (L := [some (.ref 281), some (.int b)]) x_pl411 rfl ?_
                          refine g_n 1 (pc' := 1) (L' := [some (.ref 281), some (.int b)]) (st' := [.int b]) rfl ?_
                          refine g_brF (c := b < (0 : Int32)) (t := 14) (f := 4) (L' := [some (.ref 281), some (.int b)]) (st' := []) rfl (x_Flt (l := 0) (u := 0) p9 (by decide) (by decide)) ?_
                          refine g_n 2 (pc' := 7) (L' := [some (.ref 281), some (.int b)]) (st' := [.int 8, .int b]) rfl ?_
                          refine g_brF (c := (8 : Int32) ≤ b) (t := 14) (f := 10) (L' := [some (.ref 281), some (.int b)]) (st' := []) rfl (x_Fle (l := 8) (u := 7) (by decide) p12 (by decide)) ?_
                          refine g_n 2 (pc' := 15) (L' := [some (.ref 281), some (.int b)]) (st' := [.int 1]) rfl ?_
                          refine g_ret (ins := .ireturn) (len := 1) (r := (some (.int 1))) rfl rfl rfl ?_
                          refine g_n 7 (pc' := 29) (L' := [some (.ref 281), some (.int 7), some (.int b)]) (st' := [.int (-2)]) rfl ?_
                          exact g_ret (ins := .ireturn) (len := 1) (r := (some (.int (-2)))) rfl rfl rfl ⟨_, rfl, rfl, (x_sv_rf _)⟩
                        · have q43 : ¬ a = 7 := h41
                          have p44 : 8 ≤ a.toInt := x_lo_ne q43 p40 (by decide)
                          by_cases h45 : a = 8
                          · have e46 : a = 8 := h45
                            subst e46
                            refine g_aa (i := 8) (a := 3) (n := 12) (v := 159) rfl rfl (by decide) (x_at (x_f3 hF) (k := 8) rfl) ?_
                            refine g_n 3 (pc' := 30) (L' := [some (.ref 0), some (.int 8), some (.int b), none]) (st' := [.int (-2)]) rfl ?_
                            refine g_ret (ins := .ireturn) (len := 1) (r := (some (.int (-2)))) rfl rfl rfl ?_
                            refine ⟨⟨_, rfl⟩, ?_⟩
                            refine g_in (M := x_M673) (L := [some (.ref 281), some (.int 8), some (.int b)]) x_pl673 rfl ?_
                            refine g_n 2 (pc' := 2) (L' := [some (.ref 281), some (.int 8), some (.int b)]) (st' := [.int 8, .ref 281]) rfl ?_
                            refine g_call (ins := .invokevirtual 1213) (len := 3) (j := 541) (as := [.ref 281, .int 8]) (rest := []) rfl rfl rfl rfl (fun _ => rfl) rfl ?_
                            refine g_in (M := x_M541) (L := [some (.ref 281), some (.int 8)]) x_pl541 rfl ?_
                            refine g_n 7 (pc' := 15) (L' := [some (.ref 281), some (.int 8)]) (st' := [.int 1]) rfl ?_
                            refine g_ret (ins := .ireturn) (len := 1) (r := (some (.int 1))) rfl rfl rfl ?_
                            refine g_n 3 (pc' := 10) (L' := [some (.ref 281), some (.int 8), some (.int b)]) (st' := [.int b, .ref 281]) rfl ?_
                            refine g_call (ins := .invokevirtual 671) (len := 3) (j := 411) (as := [.ref 281, .int b]) (rest := []) rfl rfl rfl rfl (fun _ => rfl) rfl ?_
                            refine g_in (M := x_M411) (L := [some (.ref 281), some (.int b)]) x_pl411 rfl ?_
                            refine g_n 1 (pc' := 1) (L' := [some (.ref 281), some (.int b)]) (st' := [.int b]) rfl ?_
                            refine g_brF (c := b < (0 : Int32)) (t := 14) (f := 4) (L' := [some (.ref 281), some (.int b)]) (st' := []) rfl (x_Flt (l := 0) (u := 0) p9 (by decide) (by decide)) ?_
                            refine g_n 2 (pc' := 7) (L' := [some (.ref 281), some (.int b)]) (st' := [.int 8, .int b]) rfl ?_
                            refine g_brF (c := (8 : Int32) ≤ b) (t := 14) (f := 10) (L' := [some (.ref 281), some (.int b)]) (st' := []) rfl (x_Fle (l := 8) (u := 7) (by decide) p12 (by decide)) ?_
                            refine g_n 2 (pc' := 15) (L' := [some (.ref 281), some (.int b)]) (st' := [.int 1]) rfl ?_
                            refine g_ret (ins := .ireturn) (len := 1) (r := (some (.int 1))) rfl rfl rfl ?_
                            refine g_n 7 (pc' := 29) (L' := [some (.ref 281), some (.int 8), some (.int b)]) (st' := [.int (-2)]) rfl ?_
                            exact g_ret (ins := .ireturn) (len := 1) (r := (some (.int (-2)))) rfl rfl rfl ⟨_, rfl, rfl, (x_sv_rf _)⟩
                          · have q47 : ¬ a = 8 := h45
                            have p48 : 9 ≤ a.toInt := x_lo_ne q47 p44 (by decide)
                            by_cases h49 : a = 9
                            · have e50 : a = 9 := h49
                              subst e50
                              refine g_aa (i := 9) (a := 3) (n := 12) (v := 164) rfl rfl (by decide) (x_at (x_f3 hF) (k := 9) rfl) ?_
                              refine g_n 3 (pc' := 30) (L' := [some (.ref 0), some (.int 9), some (.int b), none]) (st' := [.int (-2)]) rfl ?_
                              refine g_ret (ins := .ireturn) (len := 1) (r := (some (.int (-2)))) rfl rfl rfl ?_
                              refine ⟨⟨_, rfl⟩, ?_⟩
                              refine g_in (M := x_M673) (L := [some (.ref 281), some (.int 9), some (.int b)]) x_pl673 rfl ?_
                              refine g_n 2 (pc' := 2) (L' := [some (.ref 281), some (.int 9), some (.int b)]) (st' := [.int 9, .ref 281]) rfl ?_
                              refine g_call (ins := .invokevirtual 1213) (len := 3) (j := 541) (as := [.ref 281, .int 9]) (rest := []) rfl rfl rfl rfl (fun _ => rfl) rfl ?_
                              refine g_in (M := x_M541) (L := [some (.ref 281), some (.int 9)]) x_pl541 rfl ?_
                              refine g_n 7 (pc' := 15) (L' := [some (.ref 281), some (.int 9)]) (st' := [.int 1]) rfl ?_
                              refine g_ret (ins := .ireturn) (len := 1) (r := (some (.int 1))) rfl rfl rfl ?_
                              refine g_n 3 (pc' := 10) (L' := [some (.ref 281), some (.int 9), some (.int b)]) (st' := [.int b, .ref 281]) rfl ?_
                              refine g_call (ins := .invokevirtual 671) (len := 3) (j := 411) (as := [.ref 281, .int b]) (rest := []) rfl rfl rfl rfl (fun _ => rfl) rfl ?_
                              refine g_in (M := x_M411) (L := [some (.ref 281), some (.int b)]) x_pl411 rfl ?_
                              refine g_n 1 (pc' := 1) (L' := [some (.ref 281), some (.int b)]) (st' := [.int b]) rfl ?_
                              refine g_brF (c := b < (0 : Int32)) (t := 14) (f := 4) (L' := [some (.ref 281), some (.int b)]) (st' := []) rfl (x_Flt (l := 0) (u := 0) p9 (by decide) (by decide)) ?_
                              refine g_n 2 (pc' := 7) (L' := [some (.ref 281), some (.int b)]) (st' := [.int 8, .int b]) rfl ?_
                              refine g_brF (c := (8 : Int32) ≤ b) (t := 14) (f := 10) (L' := [some (.ref 281), some (.int b)]) (st' := []) rfl (x_Fle (l := 8) (u := 7) (by decide) p12 (by decide)) ?_
                              refine g_n 2 (pc' := 15) (L' := [some (.ref 281), some (.int b)]) (st' := [.int 1]) rfl ?_
                              refine g_ret (ins := .ireturn) (len := 1) (r := (some (.int 1))) rfl rfl rfl ?_
                              refine g_n 7 (pc' := 29) (L' := [some (.ref 281), some (.int 9), some (.int b)]) (st' := [.int (-2)]) rfl ?_
                              exact g_ret (ins := .ireturn) (len := 1) (r := (some (.int (-2)))) rfl rfl rfl ⟨_, rfl, rfl, (x_sv_rf _)⟩
                            · have q51 : ¬ a = 9 := h49
                              have p52 : 10 ≤ a.toInt := x_lo_ne q51 p48 (by decide)
                              by_cases h53 : a = 10
                              · have e54 : a = 10 := h53
                                subst e54
                                refine g_aa (i := 10) (a := 3) (n := 12) (v := 169) rfl rfl (by decide) (x_at (x_f3 hF) (k := 10) rfl) ?_
                                refine g_n 3 (pc' := 30) (L' := [some (.ref 0), some (.int 10), some (.int b), none]) (st' := [.int (-2)]) rfl ?_
                                refine g_ret (ins := .ireturn) (len := 1) (r := (some (.int (-2)))) rfl rfl rfl ?_
                                refine ⟨⟨_, rfl⟩, ?_⟩
                                refine g_in (M := x_M673) (L := [some (.ref 281), some (.int 10), some (.int b)]) x_pl673 rfl ?_
                                refine g_n 2 (pc' := 2) (L' := [some (.ref 281), some (.int 10), some (.int b)]) (st' := [.int 10, .ref 281]) rfl ?_
                                refine g_call (ins := .invokevirtual 1213) (len := 3) (j := 541) (as := [.ref 281, .int 10]) (rest := []) rfl rfl rfl rfl (fun _ => rfl) rfl ?_
                                refine g_in (M := x_M541) (L := [some (.ref 281), some (.int 10)]) x_pl541 rfl ?_
                                refine g_n 7 (pc' := 15) (L' := [some (.ref 281), some (.int 10)]) (st' := [.int 1]) rfl ?_
                                refine g_ret (ins := .ireturn) (len := 1) (r := (some (.int 1))) rfl rfl rfl ?_
                                refine g_n 3 (pc' := 10) (L' := [some (.ref 281), some (.int 10), some (.int b)]) (st' := [.int b, .ref 281]) rfl ?_
                                refine g_call (ins := .invokevirtual 671) (len := 3) (j := 411) (as := [.ref 281, .int b]) (rest := []) rfl rfl rfl rfl (fun _ => rfl) rfl ?_
                                refine g_in (M := x_M411) (L := [some (.ref 281), some (.int b)]) x_pl411 rfl ?_
                                refine g_n 1 (pc' := 1) (L' := [some (.ref 281), some (.int b)]) (st' := [.int b]) rfl ?_
                                refine g_brF (c := b < (0 : Int32)) (t := 14) (f := 4) (L' := [some (.ref 281), some (.int b)]) (st' := []) rfl (x_Flt (l := 0) (u := 0) p9 (by decide) (by decide)) ?_
                                refine g_n 2 (pc' := 7) (L' := [some (.ref 281), some (.int b)]) (st' := [.int 8, .int b]) rfl ?_
                                refine g_brF (c := (8 : Int32) ≤ b) (t := 14) (f := 10) (L' := [some (.ref 281), some (.int b)]) (st' := []) rfl (x_Fle (l := 8) (u := 7) (by decide) p12 (by decide)) ?_
                                refine g_n 2 (pc' := 15) (L' := [some (.ref 281), some (.int b)]) (st' := [.int 1]) rfl ?_
                                refine g_ret (ins := .ireturn) (len := 1) (r := (some (.int 1))) rfl rfl rfl ?_
                                refine g_n 7 (pc' := 29) (L' := [some (.ref 281), some (.int 10), some (.int b)]) (st' := [.int (-2)]) rfl ?_
                                exact g_ret (ins := .ireturn) (len := 1) (r := (some (.int (-2)))) rfl rfl rfl ⟨_, rfl, rfl, (x_sv_rf _)⟩
                              · have q55 : ¬ a = 10 := h53
                                have p56 : 11 ≤ a.toInt := x_lo_ne q55 p52 (by decide)
                                have e57 : a = 11 := x_sing p56 p6 (by decide)
                                subst e57
                                refine g_aa (i := 11) (a := 3) (n := 12) (v := 174) rfl rfl (by decide) (x_at (x_f3 hF) (k := 11) rfl) ?_
                                refine g_n 3 (pc' := 30) (L' := [some (.ref 0), some (.int 11), some (.int b), none]) (st' := [.int (-2)]) rfl ?_
                                refine g_ret (ins := .ireturn) (len := 1) (r := (some (.int (-2)))) rfl rfl rfl ?_
                                refine ⟨⟨_, rfl⟩, ?_⟩
                                refine g_in (M := x_M673) (L := [some (.ref 281), some (.int 11), some (.int b)]) x_pl673 rfl ?_
                                refine g_n 2 (pc' := 2) (L' := [some (.ref 281), some (.int 11), some (.int b)]) (st' := [.int 11, .ref 281]) rfl ?_
                                refine g_call (ins := .invokevirtual 1213) (len := 3) (j := 541) (as := [.ref 281, .int 11]) (rest := []) rfl rfl rfl rfl (fun _ => rfl) rfl ?_
                                refine g_in (M := x_M541) (L := [some (.ref 281), some (.int 11)]) x_pl541 rfl ?_
                                refine g_n 7 (pc' := 15) (L' := [some (.ref 281), some (.int 11)]) (st' := [.int 1]) rfl ?_
                                refine g_ret (ins := .ireturn) (len := 1) (r := (some (.int 1))) rfl rfl rfl ?_
                                refine g_n 3 (pc' := 10) (L' := [some (.ref 281), some (.int 11), some (.int b)]) (st' := [.int b, .ref 281]) rfl ?_
                                refine g_call (ins := .invokevirtual 671) (len := 3) (j := 411) (as := [.ref 281, .int b]) (rest := []) rfl rfl rfl rfl (fun _ => rfl) rfl ?_
                                refine g_in (M := x_M411) (L := [some (.ref 281), some (.int b)]) x_pl411 rfl ?_
                                refine g_n 1 (pc' := 1) (L' := [some (.ref 281), some (.int b)]) (st' := [.int b]) rfl ?_
                                refine g_brF (c := b < (0 : Int32)) (t := 14) (f := 4) (L' := [some (.ref 281), some (.int b)]) (st' := []) rfl (x_Flt (l := 0) (u := 0) p9 (by decide) (by decide)) ?_
                                refine g_n 2 (pc' := 7) (L' := [some (.ref 281), some (.int b)]) (st' := [.int 8, .int b]) rfl ?_
                                refine g_brF (c := (8 : Int32) ≤ b) (t := 14) (f := 10) (L' := [some (.ref 281), some (.int b)]) (st' := []) rfl (x_Fle (l := 8) (u := 7) (by decide) p12 (by decide)) ?_
                                refine g_n 2 (pc' := 15) (L' := [some (.ref 281), some (.int b)]) (st' := [.int 1]) rfl ?_
                                refine g_ret (ins := .ireturn) (len := 1) (r := (some (.int 1))) rfl rfl rfl ?_
                                refine g_n 7 (pc' := 29) (L' := [some (.ref 281), some (.int 11), some (.int b)]) (st' := [.int (-2)]) rfl ?_
                                exact g_ret (ins := .ireturn) (len := 1) (r := (some (.int (-2)))) rfl rfl rfl ⟨_, rfl, rfl, (x_sv_rf _)⟩
set_option maxRecDepth 100000 in
set_option maxHeartbeats 4000000 in
theorem x_op26 {fi : Nat → Nat → Int32} {fl : Nat → Nat → Int64} {fr : Nat → Nat → Option Nat} (hF : x_F fl fr) : x_ev 30 385 [.ref 0] (x_W fi fl fr) fun r S1 => (∃ fs, x_obj S1 281 = some (12, fs)) ∧ x_ev 30 672 [.ref 281] S1 (x_finL (x_W fi fl fr) r) := by
  refine g_in (M := x_M385) (L := [some (.ref 0)]) x_pl385 rfl ?_
  refine g_n 2 (pc' := 4) (L' := [some (.ref 0)]) (st' := [.long 0]) rfl ?_
  refine g_ret (ins := .lreturn) (len := 1) (r := (some (.long 0))) rfl rfl rfl ?_
  refine ⟨⟨_, rfl⟩, ?_⟩
  refine g_in (M := x_M672) (L := [some (.ref 281)]) x_pl672 rfl ?_
  refine g_n 2 (pc' := 4) (L' := [some (.ref 281)]) (st' := [.long 0]) rfl ?_
  exact g_ret (ins := .lreturn) (len := 1) (r := (some (.long 0))) rfl rfl rfl ⟨_, rfl, rfl, (x_sv_rf _)⟩
set_option maxRecDepth 100000 in
set_option maxHeartbeats 4000000 in
theorem x_op27 {fi : Nat → Nat → Int32} {fl : Nat → Nat → Int64} {fr : Nat → Nat → Option Nat} (hF : x_F fl fr) (a : Int32) : x_ev 30 386 [.ref 0, .int a] (x_W fi fl fr) fun r S1 => (∃ fs, x_obj S1 281 = some (12, fs)) ∧ x_ev 30 675 [.ref 281, .int a] S1 (x_finI (x_W fi fl fr) r) := by
  refine g_in (M := x_M386) (L := [some (.ref 0), some (.int a), none]) x_pl386 rfl ?_
  refine g_n 1 (pc' := 1) (L' := [some (.ref 0), some (.int a), none]) (st' := [.int a]) rfl ?_
  refine g_call (ins := .invokestatic 280) (len := 3) (j := 349) (as := [.int a]) (rest := []) rfl rfl rfl rfl (fun _ => rfl) rfl ?_
  refine g_in (M := x_M349) (L := [some (.int a)]) x_pl349 rfl ?_
  refine g_n 1 (pc' := 1) (L' := [some (.int a)]) (st' := [.int a]) rfl ?_
  refine g_br (c := a < (0 : Int32)) (t := 14) (f := 4) (L' := [some (.int a)]) (st' := []) rfl (fun h1 => ?_) (fun h1 => ?_)
  · have p2 : a.toInt ≤ -1 := x_up_lt h1 (by decide)
    refine g_n 1 (pc' := 15) (L' := [some (.int a)]) (st' := [.int 0]) rfl ?_
    refine g_ret (ins := .ireturn) (len := 1) (r := (some (.int 0))) rfl rfl rfl ?_
    refine g_n 2 (pc' := 8) (L' := [some (.ref 0), some (.int a), none]) (st' := [.int (-1)]) rfl ?_
    refine g_ret (ins := .ireturn) (len := 1) (r := (some (.int (-1)))) rfl rfl rfl ?_
    refine ⟨⟨_, rfl⟩, ?_⟩
    refine g_in (M := x_M675) (L := [some (.ref 281), some (.int a)]) x_pl675 rfl ?_
    refine g_n 2 (pc' := 2) (L' := [some (.ref 281), some (.int a)]) (st' := [.int a, .ref 281]) rfl ?_
    refine g_call (ins := .invokevirtual 1213) (len := 3) (j := 541) (as := [.ref 281, .int a]) (rest := []) rfl rfl rfl rfl (fun _ => rfl) rfl ?_
    refine g_in (M := x_M541) (L := [some (.ref 281), some (.int a)]) x_pl541 rfl ?_
    refine g_n 1 (pc' := 1) (L' := [some (.ref 281), some (.int a)]) (st' := [.int a]) rfl ?_
    refine g_brT (c := a < (0 : Int32)) (t := 14) (f := 4) (L' := [some (.ref 281), some (.int a)]) (st' := []) rfl (x_Tlt (u := -1) (l := 0) p2 (by decide) (by decide)) ?_
    refine g_n 1 (pc' := 15) (L' := [some (.ref 281), some (.int a)]) (st' := [.int 0]) rfl ?_
    refine g_ret (ins := .ireturn) (len := 1) (r := (some (.int 0))) rfl rfl rfl ?_
    refine g_n 2 (pc' := 9) (L' := [some (.ref 281), some (.int a)]) (st' := [.int (-1)]) rfl ?_
    exact g_ret (ins := .ireturn) (len := 1) (r := (some (.int (-1)))) rfl rfl rfl ⟨_, rfl, rfl, (x_sv_rf _)⟩
  · have p3 : 0 ≤ a.toInt := x_lo_le (x_nlt h1) (by decide)
    refine g_n 2 (pc' := 7) (L' := [some (.int a)]) (st' := [.int 12, .int a]) rfl ?_
    refine g_br (c := (12 : Int32) ≤ a) (t := 14) (f := 10) (L' := [some (.int a)]) (st' := []) rfl (fun h4 => ?_) (fun h4 => ?_)
    · have p5 : 12 ≤ a.toInt := x_lo_le h4 (by decide)
      refine g_n 1 (pc' := 15) (L' := [some (.int a)]) (st' := [.int 0]) rfl ?_
      refine g_ret (ins := .ireturn) (len := 1) (r := (some (.int 0))) rfl rfl rfl ?_
      refine g_n 2 (pc' := 8) (L' := [some (.ref 0), some (.int a), none]) (st' := [.int (-1)]) rfl ?_
      refine g_ret (ins := .ireturn) (len := 1) (r := (some (.int (-1)))) rfl rfl rfl ?_
      refine ⟨⟨_, rfl⟩, ?_⟩
      refine g_in (M := x_M675) (L := [some (.ref 281), some (.int a)]) x_pl675 rfl ?_
      refine g_n 2 (pc' := 2) (L' := [some (.ref 281), some (.int a)]) (st' := [.int a, .ref 281]) rfl ?_
      refine g_call (ins := .invokevirtual 1213) (len := 3) (j := 541) (as := [.ref 281, .int a]) (rest := []) rfl rfl rfl rfl (fun _ => rfl) rfl ?_
      refine g_in (M := x_M541) (L := [some (.ref 281), some (.int a)]) x_pl541 rfl ?_
      refine g_n 1 (pc' := 1) (L' := [some (.ref 281), some (.int a)]) (st' := [.int a]) rfl ?_
      refine g_brF (c := a < (0 : Int32)) (t := 14) (f := 4) (L' := [some (.ref 281), some (.int a)]) (st' := []) rfl (x_Flt (l := 12) (u := 0) p5 (by decide) (by decide)) ?_
      refine g_n 2 (pc' := 7) (L' := [some (.ref 281), some (.int a)]) (st' := [.int 12, .int a]) rfl ?_
      refine g_brT (c := (12 : Int32) ≤ a) (t := 14) (f := 10) (L' := [some (.ref 281), some (.int a)]) (st' := []) rfl (x_Tle (u := 12) (l := 12) (by decide) p5 (by decide)) ?_
      refine g_n 1 (pc' := 15) (L' := [some (.ref 281), some (.int a)]) (st' := [.int 0]) rfl ?_
      refine g_ret (ins := .ireturn) (len := 1) (r := (some (.int 0))) rfl rfl rfl ?_
      refine g_n 2 (pc' := 9) (L' := [some (.ref 281), some (.int a)]) (st' := [.int (-1)]) rfl ?_
      exact g_ret (ins := .ireturn) (len := 1) (r := (some (.int (-1)))) rfl rfl rfl ⟨_, rfl, rfl, (x_sv_rf _)⟩
    · have p6 : a.toInt ≤ 11 := x_up_lt (x_nle h4) (by decide)
      refine g_n 2 (pc' := 15) (L' := [some (.int a)]) (st' := [.int 1]) rfl ?_
      refine g_ret (ins := .ireturn) (len := 1) (r := (some (.int 1))) rfl rfl rfl ?_
      refine g_n 4 (pc' := 14) (L' := [some (.ref 0), some (.int a), none]) (st' := [.int a, .ref 3]) rfl ?_
      by_cases h7 : a = 0
      · have e8 : a = 0 := h7
        subst e8
        refine g_aa (i := 0) (a := 3) (n := 12) (v := 119) rfl rfl (by decide) (x_at (x_f3 hF) (k := 0) rfl) ?_
        refine g_n 3 (pc' := 23) (L' := [some (.ref 0), some (.int 0), none]) (st' := [.int (-2)]) rfl ?_
        refine g_ret (ins := .ireturn) (len := 1) (r := (some (.int (-2)))) rfl rfl rfl ?_
        refine ⟨⟨_, rfl⟩, ?_⟩
        refine g_in (M := x_M675) (L := [some (.ref 281), some (.int 0)]) x_pl675 rfl ?_
        refine g_n 2 (pc' := 2) (L' := [some (.ref 281), some (.int 0)]) (st' := [.int 0, .ref 281]) rfl ?_
        refine g_call (ins := .invokevirtual 1213) (len := 3) (j := 541) (as := [.ref 281, .int 0]) (rest := []) rfl rfl rfl rfl (fun _ => rfl) rfl ?_
        refine g_in (M := x_M541) (L := [some (.ref 281), some (.int 0)]) x_pl541 rfl ?_
        refine g_n 7 (pc' := 15) (L' := [some (.ref 281), some (.int 0)]) (st' := [.int 1]) rfl ?_
        refine g_ret (ins := .ireturn) (len := 1) (r := (some (.int 1))) rfl rfl rfl ?_
        refine g_n 7 (pc' := 21) (L' := [some (.ref 281), some (.int 0)]) (st' := [.int (-2)]) rfl ?_
        exact g_ret (ins := .ireturn) (len := 1) (r := (some (.int (-2)))) rfl rfl rfl ⟨_, rfl, rfl, (x_sv_rf _)⟩
      · have q9 : ¬ a = 0 := h7
        have p10 : 1 ≤ a.toInt := x_lo_ne q9 p3 (by decide)
        by_cases h11 : a = 1
        · have e12 : a = 1 := h11
          subst e12
          refine g_aa (i := 1) (a := 3) (n := 12) (v := 124) rfl rfl (by decide) (x_at (x_f3 hF) (k := 1) rfl) ?_
          refine g_n 3 (pc' := 23) (L' := [some (.ref 0), some (.int 1), none]) (st' := [.int (-2)]) rfl ?_
          refine g_ret (ins := .ireturn) (len := 1) (r := (some (.int (-2)))) rfl rfl rfl ?_
          refine ⟨⟨_, rfl⟩, ?_⟩
          refine g_in (M := x_M675) (L := [some (.ref 281), some (.int 1)]) x_pl675 rfl ?_
          refine g_n 2 (pc' := 2) (L' := [some (.ref 281), some (.int 1)]) (st' := [.int 1, .ref 281]) rfl ?_
          refine g_call (ins := .invokevirtual 1213) (len := 3) (j := 541) (as := [.ref 281, .int 1]) (rest := []) rfl rfl rfl rfl (fun _ => rfl) rfl ?_
          refine g_in (M := x_M541) (L := [some (.ref 281), some (.int 1)]) x_pl541 rfl ?_
          refine g_n 7 (pc' := 15) (L' := [some (.ref 281), some (.int 1)]) (st' := [.int 1]) rfl ?_
          refine g_ret (ins := .ireturn) (len := 1) (r := (some (.int 1))) rfl rfl rfl ?_
          refine g_n 7 (pc' := 21) (L' := [some (.ref 281), some (.int 1)]) (st' := [.int (-2)]) rfl ?_
          exact g_ret (ins := .ireturn) (len := 1) (r := (some (.int (-2)))) rfl rfl rfl ⟨_, rfl, rfl, (x_sv_rf _)⟩
        · have q13 : ¬ a = 1 := h11
          have p14 : 2 ≤ a.toInt := x_lo_ne q13 p10 (by decide)
          by_cases h15 : a = 2
          · have e16 : a = 2 := h15
            subst e16
            refine g_aa (i := 2) (a := 3) (n := 12) (v := 129) rfl rfl (by decide) (x_at (x_f3 hF) (k := 2) rfl) ?_
            refine g_n 3 (pc' := 23) (L' := [some (.ref 0), some (.int 2), none]) (st' := [.int (-2)]) rfl ?_
            refine g_ret (ins := .ireturn) (len := 1) (r := (some (.int (-2)))) rfl rfl rfl ?_
            refine ⟨⟨_, rfl⟩, ?_⟩
            refine g_in (M := x_M675) (L := [some (.ref 281), some (.int 2)]) x_pl675 rfl ?_
            refine g_n 2 (pc' := 2) (L' := [some (.ref 281), some (.int 2)]) (st' := [.int 2, .ref 281]) rfl ?_
            refine g_call (ins := .invokevirtual 1213) (len := 3) (j := 541) (as := [.ref 281, .int 2]) (rest := []) rfl rfl rfl rfl (fun _ => rfl) rfl ?_
            refine g_in (M := x_M541) (L := [some (.ref 281), some (.int 2)]) x_pl541 rfl ?_
            refine g_n 7 (pc' := 15) (L' := [some (.ref 281), some (.int 2)]) (st' := [.int 1]) rfl ?_
            refine g_ret (ins := .ireturn) (len := 1) (r := (some (.int 1))) rfl rfl rfl ?_
            refine g_n 7 (pc' := 21) (L' := [some (.ref 281), some (.int 2)]) (st' := [.int (-2)]) rfl ?_
            exact g_ret (ins := .ireturn) (len := 1) (r := (some (.int (-2)))) rfl rfl rfl ⟨_, rfl, rfl, (x_sv_rf _)⟩
          · have q17 : ¬ a = 2 := h15
            have p18 : 3 ≤ a.toInt := x_lo_ne q17 p14 (by decide)
            by_cases h19 : a = 3
            · have e20 : a = 3 := h19
              subst e20
              refine g_aa (i := 3) (a := 3) (n := 12) (v := 134) rfl rfl (by decide) (x_at (x_f3 hF) (k := 3) rfl) ?_
              refine g_n 3 (pc' := 23) (L' := [some (.ref 0), some (.int 3), none]) (st' := [.int (-2)]) rfl ?_
              refine g_ret (ins := .ireturn) (len := 1) (r := (some (.int (-2)))) rfl rfl rfl ?_
              refine ⟨⟨_, rfl⟩, ?_⟩
              refine g_in (M := x_M675) (L := [some (.ref 281), some (.int 3)]) x_pl675 rfl ?_
              refine g_n 2 (pc' := 2) (L' := [some (.ref 281), some (.int 3)]) (st' := [.int 3, .ref 281]) rfl ?_
              refine g_call (ins := .invokevirtual 1213) (len := 3) (j := 541) (as := [.ref 281, .int 3]) (rest := []) rfl rfl rfl rfl (fun _ => rfl) rfl ?_
              refine g_in (M := x_M541) (L := [some (.ref 281), some (.int 3)]) x_pl541 rfl ?_
              refine g_n 7 (pc' := 15) (L' := [some (.ref 281), some (.int 3)]) (st' := [.int 1]) rfl ?_
              refine g_ret (ins := .ireturn) (len := 1) (r := (some (.int 1))) rfl rfl rfl ?_
              refine g_n 7 (pc' := 21) (L' := [some (.ref 281), some (.int 3)]) (st' := [.int (-2)]) rfl ?_
              exact g_ret (ins := .ireturn) (len := 1) (r := (some (.int (-2)))) rfl rfl rfl ⟨_, rfl, rfl, (x_sv_rf _)⟩
            · have q21 : ¬ a = 3 := h19
              have p22 : 4 ≤ a.toInt := x_lo_ne q21 p18 (by decide)
              by_cases h23 : a = 4
              · have e24 : a = 4 := h23
                subst e24
                refine g_aa (i := 4) (a := 3) (n := 12) (v := 139) rfl rfl (by decide) (x_at (x_f3 hF) (k := 4) rfl) ?_
                refine g_n 3 (pc' := 23) (L' := [some (.ref 0), some (.int 4), none]) (st' := [.int (-2)]) rfl ?_
                refine g_ret (ins := .ireturn) (len := 1) (r := (some (.int (-2)))) rfl rfl rfl ?_
                refine ⟨⟨_, rfl⟩, ?_⟩
                refine g_in (M := x_M675) (L := [some (.ref 281), some (.int 4)]) x_pl675 rfl ?_
                refine g_n 2 (pc' := 2) (L' := [some (.ref 281), some (.int 4)]) (st' := [.int 4, .ref 281]) rfl ?_
                refine g_call (ins := .invokevirtual 1213) (len := 3) (j := 541) (as := [.ref 281, .int 4]) (rest := []) rfl rfl rfl rfl (fun _ => rfl) rfl ?_
                refine g_in (M := x_M541) (L := [some (.ref 281), some (.int 4)]) x_pl541 rfl ?_
                refine g_n 7 (pc' := 15) (L' := [some (.ref 281), some (.int 4)]) (st' := [.int 1]) rfl ?_
                refine g_ret (ins := .ireturn) (len := 1) (r := (some (.int 1))) rfl rfl rfl ?_
                refine g_n 7 (pc' := 21) (L' := [some (.ref 281), some (.int 4)]) (st' := [.int (-2)]) rfl ?_
                exact g_ret (ins := .ireturn) (len := 1) (r := (some (.int (-2)))) rfl rfl rfl ⟨_, rfl, rfl, (x_sv_rf _)⟩
              · have q25 : ¬ a = 4 := h23
                have p26 : 5 ≤ a.toInt := x_lo_ne q25 p22 (by decide)
                by_cases h27 : a = 5
                · have e28 : a = 5 := h27
                  subst e28
                  refine g_aa (i := 5) (a := 3) (n := 12) (v := 144) rfl rfl (by decide) (x_at (x_f3 hF) (k := 5) rfl) ?_
                  refine g_n 3 (pc' := 23) (L' := [some (.ref 0), some (.int 5), none]) (st' := [.int (-2)]) rfl ?_
                  refine g_ret (ins := .ireturn) (len := 1) (r := (some (.int (-2)))) rfl rfl rfl ?_
                  refine ⟨⟨_, rfl⟩, ?_⟩
                  refine g_in (M := x_M675) (L := [some (.ref 281), some (.int 5)]) x_pl675 rfl ?_
                  refine g_n 2 (pc' := 2) (L' := [some (.ref 281), some (.int 5)]) (st' := [.int 5, .ref 281]) rfl ?_
                  refine g_call (ins := .invokevirtual 1213) (len := 3) (j := 541) (as := [.ref 281, .int 5]) (rest := []) rfl rfl rfl rfl (fun _ => rfl) rfl ?_
                  refine g_in (M := x_M541) (L := [some (.ref 281), some (.int 5)]) x_pl541 rfl ?_
                  refine g_n 7 (pc' := 15) (L' := [some (.ref 281), some (.int 5)]) (st' := [.int 1]) rfl ?_
                  refine g_ret (ins := .ireturn) (len := 1) (r := (some (.int 1))) rfl rfl rfl ?_
                  refine g_n 7 (pc' := 21) (L' := [some (.ref 281), some (.int 5)]) (st' := [.int (-2)]) rfl ?_
                  exact g_ret (ins := .ireturn) (len := 1) (r := (some (.int (-2)))) rfl rfl rfl ⟨_, rfl, rfl, (x_sv_rf _)⟩
                · have q29 : ¬ a = 5 := h27
                  have p30 : 6 ≤ a.toInt := x_lo_ne q29 p26 (by decide)
                  by_cases h31 : a = 6
                  · have e32 : a = 6 := h31
                    subst e32
                    refine g_aa (i := 6) (a := 3) (n := 12) (v := 149) rfl rfl (by decide) (x_at (x_f3 hF) (k := 6) rfl) ?_
                    refine g_n 3 (pc' := 23) (L' := [some (.ref 0), some (.int 6), none]) (st' := [.int (-2)]) rfl ?_
                    refine g_ret (ins := .ireturn) (len := 1) (r := (some (.int (-2)))) rfl rfl rfl ?_
                    refine ⟨⟨_, rfl⟩, ?_⟩
                    refine g_in (M := x_M675) (L := [some (.ref 281), some (.int 6)]) x_pl675 rfl ?_
                    refine g_n 2 (pc' := 2) (L' := [some (.ref 281), some (.int 6)]) (st' := [.int 6, .ref 281]) rfl ?_
                    refine g_call (ins := .invokevirtual 1213) (len := 3) (j := 541) (as := [.ref 281, .int 6]) (rest := []) rfl rfl rfl rfl (fun _ => rfl) rfl ?_
                    refine g_in (M := x_M541) (L := [some (.ref 281), some (.int 6)]) x_pl541 rfl ?_
                    refine g_n 7 (pc' := 15) (L' := [some (.ref 281), some (.int 6)]) (st' := [.int 1]) rfl ?_
                    refine g_ret (ins := .ireturn) (len := 1) (r := (some (.int 1))) rfl rfl rfl ?_
                    refine g_n 7 (pc' := 21) (L' := [some (.ref 281), some (.int 6)]) (st' := [.int (-2)]) rfl ?_
                    exact g_ret (ins := .ireturn) (len := 1) (r := (some (.int (-2)))) rfl rfl rfl ⟨_, rfl, rfl, (x_sv_rf _)⟩
                  · have q33 : ¬ a = 6 := h31
                    have p34 : 7 ≤ a.toInt := x_lo_ne q33 p30 (by decide)
                    by_cases h35 : a = 7
                    · have e36 : a = 7 := h35
                      subst e36
                      refine g_aa (i := 7) (a := 3) (n := 12) (v := 154) rfl rfl (by decide) (x_at (x_f3 hF) (k := 7) rfl) ?_
                      refine g_n 3 (pc' := 23) (L' := [some (.ref 0), some (.int 7), none]) (st' := [.int (-2)]) rfl ?_
                      refine g_ret (ins := .ireturn) (len := 1) (r := (some (.int (-2)))) rfl rfl rfl ?_
                      refine ⟨⟨_, rfl⟩, ?_⟩
                      refine g_in (M := x_M675) (L := [some (.ref 281), some (.int 7)]) x_pl675 rfl ?_
                      refine g_n 2 (pc' := 2) (L' := [some (.ref 281), some (.int 7)]) (st' := [.int 7, .ref 281]) rfl ?_
                      refine g_call (ins := .invokevirtual 1213) (len := 3) (j := 541) (as := [.ref 281, .int 7]) (rest := []) rfl rfl rfl rfl (fun _ => rfl) rfl ?_
                      refine g_in (M := x_M541) (L := [some (.ref 281), some (.int 7)]) x_pl541 rfl ?_
                      refine g_n 7 (pc' := 15) (L' := [some (.ref 281), some (.int 7)]) (st' := [.int 1]) rfl ?_
                      refine g_ret (ins := .ireturn) (len := 1) (r := (some (.int 1))) rfl rfl rfl ?_
                      refine g_n 7 (pc' := 21) (L' := [some (.ref 281), some (.int 7)]) (st' := [.int (-2)]) rfl ?_
                      exact g_ret (ins := .ireturn) (len := 1) (r := (some (.int (-2)))) rfl rfl rfl ⟨_, rfl, rfl, (x_sv_rf _)⟩
                    · have q37 : ¬ a = 7 := h35
                      have p38 : 8 ≤ a.toInt := x_lo_ne q37 p34 (by decide)
                      by_cases h39 : a = 8
                      · have e40 : a = 8 := h39
                        subst e40
                        refine g_aa (i := 8) (a := 3) (n := 12) (v := 159) rfl rfl (by decide) (x_at (x_f3 hF) (k := 8) rfl) ?_
                        refine g_n 3 (pc' := 23) (L' := [some (.ref 0), some (.int 8), none]) (st' := [.int (-2)]) rfl ?_
                        refine g_ret (ins := .ireturn) (len := 1) (r := (some (.int (-2)))) rfl rfl rfl ?_
                        refine ⟨⟨_, rfl⟩, ?_⟩
                        refine g_in (M := x_M675) (L := [some (.ref 281), some (.int 8)]) x_pl675 rfl ?_
                        refine g_n 2 (pc' := 2) (L' := [some (.ref 281), some (.int 8)]) (st' := [.int 8, .ref 281]) rfl ?_
                        refine g_call (ins := .invokevirtual 1213) (len := 3) (j := 541) (as := [.ref 281, .int 8]) (rest := []) rfl rfl rfl rfl (fun _ => rfl) rfl ?_
                        refine g_in (M := x_M541) (L := [some (.ref 281), some (.int 8)]) x_pl541 rfl ?_
                        refine g_n 7 (pc' := 15) (L' := [some (.ref 281), some (.int 8)]) (st' := [.int 1]) rfl ?_
                        refine g_ret (ins := .ireturn) (len := 1) (r := (some (.int 1))) rfl rfl rfl ?_
                        refine g_n 7 (pc' := 21) (L' := [some (.ref 281), some (.int 8)]) (st' := [.int (-2)]) rfl ?_
                        exact g_ret (ins := .ireturn) (len := 1) (r := (some (.int (-2)))) rfl rfl rfl ⟨_, rfl, rfl, (x_sv_rf _)⟩
                      · have q41 : ¬ a = 8 := h39
                        have p42 : 9 ≤ a.toInt := x_lo_ne q41 p38 (by decide)
                        by_cases h43 : a = 9
                        · have e44 : a = 9 := h43
                          subst e44
                          refine g_aa (i := 9) (a := 3) (n := 12) (v := 164) rfl rfl (by decide) (x_at (x_f3 hF) (k := 9) rfl) ?_
                          refine g_n 3 (pc' := 23) (L' := [some (.ref 0), some (.int 9), none]) (st' := [.int (-2)]) rfl ?_
                          refine g_ret (ins := .ireturn) (len := 1) (r := (some (.int (-2)))) rfl rfl rfl ?_
                          refine ⟨⟨_, rfl⟩, ?_⟩
                          refine g_in (M := x_M675) (L := [some (.ref 281), some (.int 9)]) x_pl675 rfl ?_
                          refine g_n 2 (pc' := 2) (L' := [some (.ref 281), some (.int 9)]) (st' := [.int 9, .ref 281]) rfl ?_
                          refine g_call (ins := .invokevirtual 1213) (len := 3) (j := 541) (as := [.ref 281, .int 9]) (rest := []) rfl rfl rfl rfl (fun _ => rfl) rfl ?_
                          refine g_in (M := x_M541) (L := [some (.ref 281), some (.int 9)]) x_pl541 rfl ?_
                          refine g_n 7 (pc' := 15) (L' := [some (.ref 281), some (.int 9)]) (st' := [.int 1]) rfl ?_
                          refine g_ret (ins := .ireturn) (len := 1) (r := (some (.int 1))) rfl rfl rfl ?_
                          refine g_n 7 (pc' := 21) (L' := [some (.ref 281), some (.int 9)]) (st' := [.int (-2)]) rfl ?_
                          exact g_ret (ins := .ireturn) (len := 1) (r := (some (.int (-2)))) rfl rfl rfl ⟨_, rfl, rfl, (x_sv_rf _)⟩
                        · have q45 : ¬ a = 9 := h43
                          have p46 : 10 ≤ a.toInt := x_lo_ne q45 p42 (by decide)
                          by_cases h47 : a = 10
                          · have e48 : a = 10 := h47
                            subst e48
                            refine g_aa (i := 10) (a := 3) (n := 12) (v := 169) rfl rfl (by decide) (x_at (x_f3 hF) (k := 10) rfl) ?_
                            refine g_n 3 (pc' := 23) (L' := [some (.ref 0), some (.int 10), none]) (st' := [.int (-2)]) rfl ?_
                            refine g_ret (ins := .ireturn) (len := 1) (r := (some (.int (-2)))) rfl rfl rfl ?_
                            refine ⟨⟨_, rfl⟩, ?_⟩
                            refine g_in (M := x_M675) (L := [some (.ref 281), some (.int 10)]) x_pl675 rfl ?_
                            refine g_n 2 (pc' := 2) (L' := [some (.ref 281), some (.int 10)]) (st' := [.int 10, .ref 281]) rfl ?_
                            refine g_call (ins := .invokevirtual 1213) (len := 3) (j := 541) (as := [.ref 281, .int 10]) (rest := []) rfl rfl rfl rfl (fun _ => rfl) rfl ?_
                            refine g_in (M := x_M541) (L := [some (.ref 281), some (.int 10)]) x_pl541 rfl ?_
                            refine g_n 7 (pc' := 15) (L' := [some (.ref 281), some (.int 10)]) (st' := [.int 1]) rfl ?_
                            refine g_ret (ins := .ireturn) (len := 1) (r := (some (.int 1))) rfl rfl rfl ?_
                            refine g_n 7 (pc' := 21) (L' := [some (.ref 281), some (.int 10)]) (st' := [.int (-2)]) rfl ?_
                            exact g_ret (ins := .ireturn) (len := 1) (r := (some (.int (-2)))) rfl rfl rfl ⟨_, rfl, rfl, (x_sv_rf _)⟩
                          · have q49 : ¬ a = 10 := h47
                            have p50 : 11 ≤ a.toInt := x_lo_ne q49 p46 (by decide)
                            have e51 : a = 11 := x_sing p50 p6 (by decide)
                            subst e51
                            refine g_aa (i := 11) (a := 3) (n := 12) (v := 174) rfl rfl (by decide) (x_at (x_f3 hF) (k := 11) rfl) ?_
                            refine g_n 3 (pc' := 23) (L' := [some (.ref 0), some (.int 11), none]) (st' := [.int (-2)]) rfl ?_
                            refine g_ret (ins := .ireturn) (len := 1) (r := (some (.int (-2)))) rfl rfl rfl ?_
                            refine ⟨⟨_, rfl⟩, ?_⟩
                            refine g_in (M := x_M675) (L := [some (.ref 281), some (.int 11)]) x_pl675 rfl ?_
                            refine g_n 2 (pc' := 2) (L' := [some (.ref 281), some (.int 11)]) (st' := [.int 11, .ref 281]) rfl ?_
                            refine g_call (ins := .invokevirtual 1213) (len := 3) (j := 541) (as := [.ref 281, .int 11]) (rest := []) rfl rfl rfl rfl (fun _ => rfl) rfl ?_
                            refine g_in (M := x_M541) (L := [some (.ref 281), some (.int 11)]) x_pl541 rfl ?_
                            refine g_n 7 (pc' := 15) (L' := [some (.ref 281), some (.int 11)]) (st' := [.int 1]) rfl ?_
                            refine g_ret (ins := .ireturn) (len := 1) (r := (some (.int 1))) rfl rfl rfl ?_
                            refine g_n 7 (pc' := 21) (L' := [some (.ref 281), some (.int 11)]) (st' := [.int (-2)]) rfl ?_
                            exact g_ret (ins := .ireturn) (len := 1) (r := (some (.int (-2)))) rfl rfl rfl ⟨_, rfl, rfl, (x_sv_rf _)⟩
set_option maxRecDepth 100000 in
set_option maxHeartbeats 4000000 in
theorem x_op28 {fi : Nat → Nat → Int32} {fl : Nat → Nat → Int64} {fr : Nat → Nat → Option Nat} (hF : x_F fl fr) (a : Int32) : x_ev 30 387 [.ref 0, .int a] (x_W fi fl fr) fun r S1 => (∃ fs, x_obj S1 281 = some (12, fs)) ∧ x_ev 30 680 [.ref 281, .int a] S1 (x_finI (x_W fi fl fr) r) := by
  refine g_in (M := x_M387) (L := [some (.ref 0), some (.int a), none]) x_pl387 rfl ?_
  refine g_n 1 (pc' := 1) (L' := [some (.ref 0), some (.int a), none]) (st' := [.int a]) rfl ?_
  refine g_call (ins := .invokestatic 280) (len := 3) (j := 349) (as := [.int a]) (rest := []) rfl rfl rfl rfl (fun _ => rfl) rfl ?_
  refine g_in (M := x_M349) (L := [some (.int a)]) x_pl349 rfl ?_
  refine g_n 1 (pc' := 1) (L' := [some (.int a)]) (st' := [.int a]) rfl ?_
  refine g_br (c := a < (0 : Int32)) (t := 14) (f := 4) (L' := [some (.int a)]) (st' := []) rfl (fun h1 => ?_) (fun h1 => ?_)
  · have p2 : a.toInt ≤ -1 := x_up_lt h1 (by decide)
    refine g_n 1 (pc' := 15) (L' := [some (.int a)]) (st' := [.int 0]) rfl ?_
    refine g_ret (ins := .ireturn) (len := 1) (r := (some (.int 0))) rfl rfl rfl ?_
    refine g_n 2 (pc' := 8) (L' := [some (.ref 0), some (.int a), none]) (st' := [.int (-1)]) rfl ?_
    refine g_ret (ins := .ireturn) (len := 1) (r := (some (.int (-1)))) rfl rfl rfl ?_
    refine ⟨⟨_, rfl⟩, ?_⟩
    refine g_in (M := x_M680) (L := [some (.ref 281), some (.int a), none, none]) x_pl680 rfl ?_
    refine g_n 2 (pc' := 2) (L' := [some (.ref 281), some (.int a), none, none]) (st' := [.int a, .ref 281]) rfl ?_
    refine g_call (ins := .invokevirtual 1213) (len := 3) (j := 541) (as := [.ref 281, .int a]) (rest := []) rfl rfl rfl rfl (fun _ => rfl) rfl ?_
    refine g_in (M := x_M541) (L := [some (.ref 281), some (.int a)]) x_pl541 rfl ?_
    refine g_n 1 (pc' := 1) (L' := [some (.ref 281), some (.int a)]) (st' := [.int a]) rfl ?_
    refine g_brT (c := a < (0 : Int32)) (t := 14) (f := 4) (L' := [some (.ref 281), some (.int a)]) (st' := []) rfl (x_Tlt (u := -1) (l := 0) p2 (by decide) (by decide)) ?_
    refine g_n 1 (pc' := 15) (L' := [some (.ref 281), some (.int a)]) (st' := [.int 0]) rfl ?_
    refine g_ret (ins := .ireturn) (len := 1) (r := (some (.int 0))) rfl rfl rfl ?_
    refine g_n 2 (pc' := 9) (L' := [some (.ref 281), some (.int a), none, none]) (st' := [.int (-1)]) rfl ?_
    exact g_ret (ins := .ireturn) (len := 1) (r := (some (.int (-1)))) rfl rfl rfl ⟨_, rfl, rfl, (x_sv_rf _)⟩
  · have p3 : 0 ≤ a.toInt := x_lo_le (x_nlt h1) (by decide)
    refine g_n 2 (pc' := 7) (L' := [some (.int a)]) (st' := [.int 12, .int a]) rfl ?_
    refine g_br (c := (12 : Int32) ≤ a) (t := 14) (f := 10) (L' := [some (.int a)]) (st' := []) rfl (fun h4 => ?_) (fun h4 => ?_)
    · have p5 : 12 ≤ a.toInt := x_lo_le h4 (by decide)
      refine g_n 1 (pc' := 15) (L' := [some (.int a)]) (st' := [.int 0]) rfl ?_
      refine g_ret (ins := .ireturn) (len := 1) (r := (some (.int 0))) rfl rfl rfl ?_
      refine g_n 2 (pc' := 8) (L' := [some (.ref 0), some (.int a), none]) (st' := [.int (-1)]) rfl ?_
      refine g_ret (ins := .ireturn) (len := 1) (r := (some (.int (-1)))) rfl rfl rfl ?_
      refine ⟨⟨_, rfl⟩, ?_⟩
      refine g_in (M := x_M680) (L := [some (.ref 281), some (.int a), none, none]) x_pl680 rfl ?_
      refine g_n 2 (pc' := 2) (L' := [some (.ref 281), some (.int a), none, none]) (st' := [.int a, .ref 281]) rfl ?_
      refine g_call (ins := .invokevirtual 1213) (len := 3) (j := 541) (as := [.ref 281, .int a]) (rest := []) rfl rfl rfl rfl (fun _ => rfl) rfl ?_
      refine g_in (M := x_M541) (L := [some (.ref 281), some (.int a)]) x_pl541 rfl ?_
      refine g_n 1 (pc' := 1) (L' := [some (.ref 281), some (.int a)]) (st' := [.int a]) rfl ?_
      refine g_brF (c := a < (0 : Int32)) (t := 14) (f := 4) (L' := [some (.ref 281), some (.int a)]) (st' := []) rfl (x_Flt (l := 12) (u := 0) p5 (by decide) (by decide)) ?_
      refine g_n 2 (pc' := 7) (L' := [some (.ref 281), some (.int a)]) (st' := [.int 12, .int a]) rfl ?_
      refine g_brT (c := (12 : Int32) ≤ a) (t := 14) (f := 10) (L' := [some (.ref 281), some (.int a)]) (st' := []) rfl (x_Tle (u := 12) (l := 12) (by decide) p5 (by decide)) ?_
      refine g_n 1 (pc' := 15) (L' := [some (.ref 281), some (.int a)]) (st' := [.int 0]) rfl ?_
      refine g_ret (ins := .ireturn) (len := 1) (r := (some (.int 0))) rfl rfl rfl ?_
      refine g_n 2 (pc' := 9) (L' := [some (.ref 281), some (.int a), none, none]) (st' := [.int (-1)]) rfl ?_
      exact g_ret (ins := .ireturn) (len := 1) (r := (some (.int (-1)))) rfl rfl rfl ⟨_, rfl, rfl, (x_sv_rf _)⟩
    · have p6 : a.toInt ≤ 11 := x_up_lt (x_nle h4) (by decide)
      refine g_n 2 (pc' := 15) (L' := [some (.int a)]) (st' := [.int 1]) rfl ?_
      refine g_ret (ins := .ireturn) (len := 1) (r := (some (.int 1))) rfl rfl rfl ?_
      refine g_n 4 (pc' := 14) (L' := [some (.ref 0), some (.int a), none]) (st' := [.int a, .ref 3]) rfl ?_
      by_cases h7 : a = 0
      · have e8 : a = 0 := h7
        subst e8
        refine g_aa (i := 0) (a := 3) (n := 12) (v := 119) rfl rfl (by decide) (x_at (x_f3 hF) (k := 0) rfl) ?_
        refine g_n 3 (pc' := 23) (L' := [some (.ref 0), some (.int 0), none]) (st' := [.int (-2)]) rfl ?_
        refine g_ret (ins := .ireturn) (len := 1) (r := (some (.int (-2)))) rfl rfl rfl ?_
        refine ⟨⟨_, rfl⟩, ?_⟩
        refine g_in (M := x_M680) (L := [some (.ref 281), some (.int 0), none, none]) x_pl680 rfl ?_
        refine g_n 2 (pc' := 2) (L' := [some (.ref 281), some (.int 0), none, none]) (st' := [.int 0, .ref 281]) rfl ?_
        refine g_call (ins := .invokevirtual 1213) (len := 3) (j := 541) (as := [.ref 281, .int 0]) (rest := []) rfl rfl rfl rfl (fun _ => rfl) rfl ?_
        refine g_in (M := x_M541) (L := [some (.ref 281), some (.int 0)]) x_pl541 rfl ?_
        refine g_n 7 (pc' := 15) (L' := [some (.ref 281), some (.int 0)]) (st' := [.int 1]) rfl ?_
        refine g_ret (ins := .ireturn) (len := 1) (r := (some (.int 1))) rfl rfl rfl ?_
        refine g_n 7 (pc' := 21) (L' := [some (.ref 281), some (.int 0), none, none]) (st' := [.int (-2)]) rfl ?_
        exact g_ret (ins := .ireturn) (len := 1) (r := (some (.int (-2)))) rfl rfl rfl ⟨_, rfl, rfl, (x_sv_rf _)⟩
      · have q9 : ¬ a = 0 := h7
        have p10 : 1 ≤ a.toInt := x_lo_ne q9 p3 (by decide)
        by_cases h11 : a = 1
        · have e12 : a = 1 := h11
          subst e12
          refine g_aa (i := 1) (a := 3) (n := 12) (v := 124) rfl rfl (by decide) (x_at (x_f3 hF) (k := 1) rfl) ?_
          refine g_n 3 (pc' := 23) (L' := [some (.ref 0), some (.int 1), none]) (st' := [.int (-2)]) rfl ?_
          refine g_ret (ins := .ireturn) (len := 1) (r := (some (.int (-2)))) rfl rfl rfl ?_
          refine ⟨⟨_, rfl⟩, ?_⟩
          refine g_in (M := x_M680) (L := [some (.ref 281), some (.int 1), none, none]) x_pl680 rfl ?_
          refine g_n 2 (pc' := 2) (L' := [some (.ref 281), some (.int 1), none, none]) (st' := [.int 1, .ref 281]) rfl ?_
          refine g_call (ins := .invokevirtual 1213) (len := 3) (j := 541) (as := [.ref 281, .int 1]) (rest := []) rfl rfl rfl rfl (fun _ => rfl) rfl ?_
          refine g_in (M := x_M541) (L := [some (.ref 281), some (.int 1)]) x_pl541 rfl ?_
          refine g_n 7 (pc' := 15) (L' := [some (.ref 281), some (.int 1)]) (st' := [.int 1]) rfl ?_
          refine g_ret (ins := .ireturn) (len := 1) (r := (some (.int 1))) rfl rfl rfl ?_
          refine g_n 7 (pc' := 21) (L' := [some (.ref 281), some (.int 1), none, none]) (st' := [.int (-2)]) rfl ?_
          exact g_ret (ins := .ireturn) (len := 1) (r := (some (.int (-2)))) rfl rfl rfl ⟨_, rfl, rfl, (x_sv_rf _)⟩
        · have q13 : ¬ a = 1 := h11
          have p14 : 2 ≤ a.toInt := x_lo_ne q13 p10 (by decide)
          by_cases h15 : a = 2
          · have e16 : a = 2 := h15
            subst e16
            refine g_aa (i := 2) (a := 3) (n := 12) (v := 129) rfl rfl (by decide) (x_at (x_f3 hF) (k := 2) rfl) ?_
            refine g_n 3 (pc' := 23) (L' := [some (.ref 0), some (.int 2), none]) (st' := [.int (-2)]) rfl ?_
            refine g_ret (ins := .ireturn) (len := 1) (r := (some (.int (-2)))) rfl rfl rfl ?_
            refine ⟨⟨_, rfl⟩, ?_⟩
            refine g_in (M := x_M680) (L := [some (.ref 281), some (.int 2), none, none]) x_pl680 rfl ?_
            refine g_n 2 (pc' := 2) (L' := [some (.ref 281), some (.int 2), none, none]) (st' := [.int 2, .ref 281]) rfl ?_
            refine g_call (ins := .invokevirtual 1213) (len := 3) (j := 541) (as := [.ref 281, .int 2]) (rest := []) rfl rfl rfl rfl (fun _ => rfl) rfl ?_
            refine g_in (M := x_M541) (L := [some (.ref 281), some (.int 2)]) x_pl541 rfl ?_
            refine g_n 7 (pc' := 15) (L' := [some (.ref 281), some (.int 2)]) (st' := [.int 1]) rfl ?_
            refine g_ret (ins := .ireturn) (len := 1) (r := (some (.int 1))) rfl rfl rfl ?_
            refine g_n 7 (pc' := 21) (L' := [some (.ref 281), some (.int 2), none, none]) (st' := [.int (-2)]) rfl ?_
            exact g_ret (ins := .ireturn) (len := 1) (r := (some (.int (-2)))) rfl rfl rfl ⟨_, rfl, rfl, (x_sv_rf _)⟩
          · have q17 : ¬ a = 2 := h15
            have p18 : 3 ≤ a.toInt := x_lo_ne q17 p14 (by decide)
            by_cases h19 : a = 3
            · have e20 : a = 3 := h19
              subst e20
              refine g_aa (i := 3) (a := 3) (n := 12) (v := 134) rfl rfl (by decide) (x_at (x_f3 hF) (k := 3) rfl) ?_
              refine g_n 3 (pc' := 23) (L' := [some (.ref 0), some (.int 3), none]) (st' := [.int (-2)]) rfl ?_
              refine g_ret (ins := .ireturn) (len := 1) (r := (some (.int (-2)))) rfl rfl rfl ?_
              refine ⟨⟨_, rfl⟩, ?_⟩
              refine g_in (M := x_M680) (L := [some (.ref 281), some (.int 3), none, none]) x_pl680 rfl ?_
              refine g_n 2 (pc' := 2) (L' := [some (.ref 281), some (.int 3), none, none]) (st' := [.int 3, .ref 281]) rfl ?_
              refine g_call (ins := .invokevirtual 1213) (len := 3) (j := 541) (as := [.ref 281, .int 3]) (rest := []) rfl rfl rfl rfl (fun _ => rfl) rfl ?_
              refine g_in (M := x_M541) (L := [some (.ref 281), some (.int 3)]) x_pl541 rfl ?_
              refine g_n 7 (pc' := 15) (L' := [some (.ref 281), some (.int 3)]) (st' := [.int 1]) rfl ?_
              refine g_ret (ins := .ireturn) (len := 1) (r := (some (.int 1))) rfl rfl rfl ?_
              refine g_n 7 (pc' := 21) (L' := [some (.ref 281), some (.int 3), none, none]) (st' := [.int (-2)]) rfl ?_
              exact g_ret (ins := .ireturn) (len := 1) (r := (some (.int (-2)))) rfl rfl rfl ⟨_, rfl, rfl, (x_sv_rf _)⟩
            · have q21 : ¬ a = 3 := h19
              have p22 : 4 ≤ a.toInt := x_lo_ne q21 p18 (by decide)
              by_cases h23 : a = 4
              · have e24 : a = 4 := h23
                subst e24
                refine g_aa (i := 4) (a := 3) (n := 12) (v := 139) rfl rfl (by decide) (x_at (x_f3 hF) (k := 4) rfl) ?_
                refine g_n 3 (pc' := 23) (L' := [some (.ref 0), some (.int 4), none]) (st' := [.int (-2)]) rfl ?_
                refine g_ret (ins := .ireturn) (len := 1) (r := (some (.int (-2)))) rfl rfl rfl ?_
                refine ⟨⟨_, rfl⟩, ?_⟩
                refine g_in (M := x_M680) (L := [some (.ref 281), some (.int 4), none, none]) x_pl680 rfl ?_
                refine g_n 2 (pc' := 2) (L' := [some (.ref 281), some (.int 4), none, none]) (st' := [.int 4, .ref 281]) rfl ?_
                refine g_call (ins := .invokevirtual 1213) (len := 3) (j := 541) (as := [.ref 281, .int 4]) (rest := []) rfl rfl rfl rfl (fun _ => rfl) rfl ?_
                refine g_in (M := x_M541) (L := [some (.ref 281), some (.int 4)]) x_pl541 rfl ?_
                refine g_n 7 (pc' := 15) (L' := [some (.ref 281), some (.int 4)]) (st' := [.int 1]) rfl ?_
                refine g_ret (ins := .ireturn) (len := 1) (r := (some (.int 1))) rfl rfl rfl ?_
                refine g_n 7 (pc' := 21) (L' := [some (.ref 281), some (.int 4), none, none]) (st' := [.int (-2)]) rfl ?_
                exact g_ret (ins := .ireturn) (len := 1) (r := (some (.int (-2)))) rfl rfl rfl ⟨_, rfl, rfl, (x_sv_rf _)⟩
              · have q25 : ¬ a = 4 := h23
                have p26 : 5 ≤ a.toInt := x_lo_ne q25 p22 (by decide)
                by_cases h27 : a = 5
                · have e28 : a = 5 := h27
                  subst e28
                  refine g_aa (i := 5) (a := 3) (n := 12) (v := 144) rfl rfl (by decide) (x_at (x_f3 hF) (k := 5) rfl) ?_
                  refine g_n 3 (pc' := 23) (L' := [some (.ref 0), some (.int 5), none]) (st' := [.int (-2)]) rfl ?_
                  refine g_ret (ins := .ireturn) (len := 1) (r := (some (.int (-2)))) rfl rfl rfl ?_
                  refine ⟨⟨_, rfl⟩, ?_⟩
                  refine g_in (M := x_M680) (L := [some (.ref 281), some (.int 5), none, none]) x_pl680 rfl ?_
                  refine g_n 2 (pc' := 2) (L' := [some (.ref 281), some (.int 5), none, none]) (st' := [.int 5, .ref 281]) rfl ?_
                  refine g_call (ins := .invokevirtual 1213) (len := 3) (j := 541) (as := [.ref 281, .int 5]) (rest := []) rfl rfl rfl rfl (fun _ => rfl) rfl ?_
                  refine g_in (M := x_M541) (L := [some (.ref 281), some (.int 5)]) x_pl541 rfl ?_
                  refine g_n 7 (pc' := 15) (L' := [some (.ref 281), some (.int 5)]) (st' := [.int 1]) rfl ?_
                  refine g_ret (ins := .ireturn) (len := 1) (r := (some (.int 1))) rfl rfl rfl ?_
                  refine g_n 7 (pc' := 21) (L' := [some (.ref 281), some (.int 5), none, none]) (st' := [.int (-2)]) rfl ?_
                  exact g_ret (ins := .ireturn) (len := 1) (r := (some (.int (-2)))) rfl rfl rfl ⟨_, rfl, rfl, (x_sv_rf _)⟩
                · have q29 : ¬ a = 5 := h27
                  have p30 : 6 ≤ a.toInt := x_lo_ne q29 p26 (by decide)
                  by_cases h31 : a = 6
                  · have e32 : a = 6 := h31
                    subst e32
                    refine g_aa (i := 6) (a := 3) (n := 12) (v := 149) rfl rfl (by decide) (x_at (x_f3 hF) (k := 6) rfl) ?_
                    refine g_n 3 (pc' := 23) (L' := [some (.ref 0), some (.int 6), none]) (st' := [.int (-2)]) rfl ?_
                    refine g_ret (ins := .ireturn) (len := 1) (r := (some (.int (-2)))) rfl rfl rfl ?_
                    refine ⟨⟨_, rfl⟩, ?_⟩
                    refine g_in (M := x_M680) (L := [some (.ref 281), some (.int 6), none, none]) x_pl680 rfl ?_
                    refine g_n 2 (pc' := 2) (L' := [some (.ref 281), some (.int 6), none, none]) (st' := [.int 6, .ref 281]) rfl ?_
                    refine g_call (ins := .invokevirtual 1213) (len := 3) (j := 541) (as := [.ref 281, .int 6]) (rest := []) rfl rfl rfl rfl (fun _ => rfl) rfl ?_
                    refine g_in (M := x_M541) (L := [some (.ref 281), some (.int 6)]) x_pl541 rfl ?_
                    refine g_n 7 (pc' := 15) (L' := [some (.ref 281), some (.int 6)]) (st' := [.int 1]) rfl ?_
                    refine g_ret (ins := .ireturn) (len := 1) (r := (some (.int 1))) rfl rfl rfl ?_
                    refine g_n 7 (pc' := 21) (L' := [some (.ref 281), some (.int 6), none, none]) (st' := [.int (-2)]) rfl ?_
                    exact g_ret (ins := .ireturn) (len := 1) (r := (some (.int (-2)))) rfl rfl rfl ⟨_, rfl, rfl, (x_sv_rf _)⟩
                  · have q33 : ¬ a = 6 := h31
                    have p34 : 7 ≤ a.toInt := x_lo_ne q33 p30 (by decide)
                    by_cases h35 : a = 7
                    · have e36 : a = 7 := h35
                      subst e36
                      refine g_aa (i := 7) (a := 3) (n := 12) (v := 154) rfl rfl (by decide) (x_at (x_f3 hF) (k := 7) rfl) ?_
                      refine g_n 3 (pc' := 23) (L' := [some (.ref 0), some (.int 7), none]) (st' := [.int (-2)]) rfl ?_
                      refine g_ret (ins := .ireturn) (len := 1) (r := (some (.int (-2)))) rfl rfl rfl ?_
                      refine ⟨⟨_, rfl⟩, ?_⟩
                      refine g_in (M := x_M680) (L := [some (.ref 281), some (.int 7), none, none]) x_pl680 rfl ?_
                      refine g_n 2 (pc' := 2) (L' := [some (.ref 281), some (.int 7), none, none]) (st' := [.int 7, .ref 281]) rfl ?_
                      refine g_call (ins := .invokevirtual 1213) (len := 3) (j := 541) (as := [.ref 281, .int 7]) (rest := []) rfl rfl rfl rfl (fun _ => rfl) rfl ?_
                      refine g_in (M := x_M541) (L := [some (.ref 281), some (.int 7)]) x_pl541 rfl ?_
                      refine g_n 7 (pc' := 15) (L' := [some (.ref 281), some (.int 7)]) (st' := [.int 1]) rfl ?_
                      refine g_ret (ins := .ireturn) (len := 1) (r := (some (.int 1))) rfl rfl rfl ?_
                      refine g_n 7 (pc' := 21) (L' := [some (.ref 281), some (.int 7), none, none]) (st' := [.int (-2)]) rfl ?_
                      exact g_ret (ins := .ireturn) (len := 1) (r := (some (.int (-2)))) rfl rfl rfl ⟨_, rfl, rfl, (x_sv_rf _)⟩
                    · have q37 : ¬ a = 7 := h35
                      have p38 : 8 ≤ a.toInt := x_lo_ne q37 p34 (by decide)
                      by_cases h39 : a = 8
                      · have e40 : a = 8 := h39
                        subst e40
                        refine g_aa (i := 8) (a := 3) (n := 12) (v := 159) rfl rfl (by decide) (x_at (x_f3 hF) (k := 8) rfl) ?_
                        refine g_n 3 (pc' := 23) (L' := [some (.ref 0), some (.int 8), none]) (st' := [.int (-2)]) rfl ?_
                        refine g_ret (ins := .ireturn) (len := 1) (r := (some (.int (-2)))) rfl rfl rfl ?_
                        refine ⟨⟨_, rfl⟩, ?_⟩
                        refine g_in (M := x_M680) (L := [some (.ref 281), some (.int 8), none, none]) x_pl680 rfl ?_
                        refine g_n 2 (pc' := 2) (L' := [some (.ref 281), some (.int 8), none, none]) (st' := [.int 8, .ref 281]) rfl ?_
                        refine g_call (ins := .invokevirtual 1213) (len := 3) (j := 541) (as := [.ref 281, .int 8]) (rest := []) rfl rfl rfl rfl (fun _ => rfl) rfl ?_
                        refine g_in (M := x_M541) (L := [some (.ref 281), some (.int 8)]) x_pl541 rfl ?_
                        refine g_n 7 (pc' := 15) (L' := [some (.ref 281), some (.int 8)]) (st' := [.int 1]) rfl ?_
                        refine g_ret (ins := .ireturn) (len := 1) (r := (some (.int 1))) rfl rfl rfl ?_
                        refine g_n 7 (pc' := 21) (L' := [some (.ref 281), some (.int 8), none, none]) (st' := [.int (-2)]) rfl ?_
                        exact g_ret (ins := .ireturn) (len := 1) (r := (some (.int (-2)))) rfl rfl rfl ⟨_, rfl, rfl, (x_sv_rf _)⟩
                      · have q41 : ¬ a = 8 := h39
                        have p42 : 9 ≤ a.toInt := x_lo_ne q41 p38 (by decide)
                        by_cases h43 : a = 9
                        · have e44 : a = 9 := h43
                          subst e44
                          refine g_aa (i := 9) (a := 3) (n := 12) (v := 164) rfl rfl (by decide) (x_at (x_f3 hF) (k := 9) rfl) ?_
                          refine g_n 3 (pc' := 23) (L' := [some (.ref 0), some (.int 9), none]) (st' := [.int (-2)]) rfl ?_
                          refine g_ret (ins := .ireturn) (len := 1) (r := (some (.int (-2)))) rfl rfl rfl ?_
                          refine ⟨⟨_, rfl⟩, ?_⟩
                          refine g_in (M := x_M680) (L := [some (.ref 281), some (.int 9), none, none]) x_pl680 rfl ?_
                          refine g_n 2 (pc' := 2) (L' := [some (.ref 281), some (.int 9), none, none]) (st' := [.int 9, .ref 281]) rfl ?_
                          refine g_call (ins := .invokevirtual 1213) (len := 3) (j := 541) (as := [.ref 281, .int 9]) (rest := []) rfl rfl rfl rfl (fun _ => rfl) rfl ?_
                          refine g_in (M := x_M541) (L := [some (.ref 281), some (.int 9)]) x_pl541 rfl ?_
                          refine g_n 7 (pc' := 15) (L' := [some (.ref 281), some (.int 9)]) (st' := [.int 1]) rfl ?_
                          refine g_ret (ins := .ireturn) (len := 1) (r := (some (.int 1))) rfl rfl rfl ?_
                          refine g_n 7 (pc' := 21) (L' := [some (.ref 281), some (.int 9), none, none]) (st' := [.int (-2)]) rfl ?_
                          exact g_ret (ins := .ireturn) (len := 1) (r := (some (.int (-2)))) rfl rfl rfl ⟨_, rfl, rfl, (x_sv_rf _)⟩
                        · have q45 : ¬ a = 9 := h43
                          have p46 : 10 ≤ a.toInt := x_lo_ne q45 p42 (by decide)
                          by_cases h47 : a = 10
                          · have e48 : a = 10 := h47
                            subst e48
                            refine g_aa (i := 10) (a := 3) (n := 12) (v := 169) rfl rfl (by decide) (x_at (x_f3 hF) (k := 10) rfl) ?_
                            refine g_n 3 (pc' := 23) (L' := [some (.ref 0), some (.int 10), none]) (st' := [.int (-2)]) rfl ?_
                            refine g_ret (ins := .ireturn) (len := 1) (r := (some (.int (-2)))) rfl rfl rfl ?_
                            refine ⟨⟨_, rfl⟩, ?_⟩
                            refine g_in (M := x_M680) (L := [some (.ref 281), some (.int 10), none, none]) x_pl680 rfl ?_
                            refine g_n 2 (pc' := 2) (L' := [some (.ref 281), some (.int 10), none, none]) (st' := [.int 10, .ref 281]) rfl ?_
                            refine g_call (ins := .invokevirtual 1213) (len := 3) (j := 541) (as := [.ref 281, .int 10]) (rest := []) rfl rfl rfl rfl (fun _ => rfl) rfl ?_
                            refine g_in (M := x_M541) (L := [some (.ref 281), some (.int 10)]) x_pl541 rfl ?_
                            refine g_n 7 (pc' := 15) (L' := [some (.ref 281), some (.int 10)]) (st' := [.int 1]) rfl ?_
                            refine g_ret (ins := .ireturn) (len := 1) (r := (some (.int 1))) rfl rfl rfl ?_
                            refine g_n 7 (pc' := 21) (L' := [some (.ref 281), some (.int 10), none, none]) (st' := [.int (-2)]) rfl ?_
                            exact g_ret (ins := .ireturn) (len := 1) (r := (some (.int (-2)))) rfl rfl rfl ⟨_, rfl, rfl, (x_sv_rf _)⟩
                          · have q49 : ¬ a = 10 := h47
                            have p50 : 11 ≤ a.toInt := x_lo_ne q49 p46 (by decide)
                            have e51 : a = 11 := x_sing p50 p6 (by decide)
                            subst e51
                            refine g_aa (i := 11) (a := 3) (n := 12) (v := 174) rfl rfl (by decide) (x_at (x_f3 hF) (k := 11) rfl) ?_
                            refine g_n 3 (pc' := 23) (L' := [some (.ref 0), some (.int 11), none]) (st' := [.int (-2)]) rfl ?_
                            refine g_ret (ins := .ireturn) (len := 1) (r := (some (.int (-2)))) rfl rfl rfl ?_
                            refine ⟨⟨_, rfl⟩, ?_⟩
                            refine g_in (M := x_M680) (L := [some (.ref 281), some (.int 11), none, none]) x_pl680 rfl ?_
                            refine g_n 2 (pc' := 2) (L' := [some (.ref 281), some (.int 11), none, none]) (st' := [.int 11, .ref 281]) rfl ?_
                            refine g_call (ins := .invokevirtual 1213) (len := 3) (j := 541) (as := [.ref 281, .int 11]) (rest := []) rfl rfl rfl rfl (fun _ => rfl) rfl ?_
                            refine g_in (M := x_M541) (L := [some (.ref 281), some (.int 11)]) x_pl541 rfl ?_
                            refine g_n 7 (pc' := 15) (L' := [some (.ref 281), some (.int 11)]) (st' := [.int 1]) rfl ?_
                            refine g_ret (ins := .ireturn) (len := 1) (r := (some (.int 1))) rfl rfl rfl ?_
                            refine g_n 7 (pc' := 21) (L' := [some (.ref 281), some (.int 11), none, none]) (st' := [.int (-2)]) rfl ?_
                            exact g_ret (ins := .ireturn) (len := 1) (r := (some (.int (-2)))) rfl rfl rfl ⟨_, rfl, rfl, (x_sv_rf _)⟩
