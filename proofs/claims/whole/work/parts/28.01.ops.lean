/-! First calls on the fresh objects. -/
set_option maxRecDepth 100000 in
set_option maxHeartbeats 4000000 in
theorem x_op5 {fi : Nat → Nat → Int32} {fl : Nat → Nat → Int64} {fr : Nat → Nat → Option Nat} (hF : x_F fl fr) (a b : Int32) : x_ev 30 357 [.ref 0, .int a, .int b] (x_W fi fl fr) fun r S1 => (∃ fs, x_obj S1 281 = some (12, fs)) ∧ x_ev 30 418 [.ref 281, .int a, .int b] S1 (x_finI (x_W fi fl fr) r) := by
  refine g_in (M := x_M357) (L := [some (.ref 0), some (.int a), some (.int b)]) x_pl357 rfl ?_
  refine g_n 1 (pc' := 1) (L' := [some (.ref 0), some (.int a), some (.int b)]) (st' := [.int a]) rfl ?_
  refine g_call (ins := .invokestatic 150) (len := 3) (j := 347) (as := [.int a]) (rest := []) rfl rfl rfl rfl (fun _ => rfl) rfl ?_
  refine g_in (M := x_M347) (L := [some (.int a)]) x_pl347 rfl ?_
  refine g_n 1 (pc' := 1) (L' := [some (.int a)]) (st' := [.int a]) rfl ?_
  refine g_br (c := a < (0 : Int32)) (t := 14) (f := 4) (L' := [some (.int a)]) (st' := []) rfl (fun h1 => ?_) (fun h1 => ?_)
  · have p2 : a.toInt ≤ -1 := x_up_lt h1 (by decide)
    refine g_n 1 (pc' := 15) (L' := [some (.int a)]) (st' := [.int 0]) rfl ?_
    refine g_ret (ins := .ireturn) (len := 1) (r := (some (.int 0))) rfl rfl rfl ?_
    refine g_n 2 (pc' := 38) (L' := [some (.ref 0), some (.int a), some (.int b)]) (st' := [.int (-1)]) rfl ?_
    refine g_ret (ins := .ireturn) (len := 1) (r := (some (.int (-1)))) rfl rfl rfl ?_
    refine ⟨⟨_, rfl⟩, ?_⟩
    refine g_in (M := x_M418) (L := [some (.ref 281), some (.int a), some (.int b)]) x_pl418 rfl ?_
    refine g_n 2 (pc' := 2) (L' := [some (.ref 281), some (.int a), some (.int b)]) (st' := [.int a, .ref 281]) rfl ?_
    refine g_call (ins := .invokevirtual 671) (len := 3) (j := 411) (as := [.ref 281, .int a]) (rest := []) rfl rfl rfl rfl (fun _ => rfl) rfl ?_
    refine g_in (M := x_M411) (L := [some (.ref 281), some (.int a)]) x_pl411 rfl ?_
    refine g_n 1 (pc' := 1) (L' := [some (.ref 281), some (.int a)]) (st' := [.int a]) rfl ?_
    refine g_brT (c := a < (0 : Int32)) (t := 14) (f := 4) (L' := [some (.ref 281), some (.int a)]) (st' := []) rfl (x_Tlt (u := -1) (l := 0) p2 (by decide) (by decide)) ?_
    refine g_n 1 (pc' := 15) (L' := [some (.ref 281), some (.int a)]) (st' := [.int 0]) rfl ?_
    refine g_ret (ins := .ireturn) (len := 1) (r := (some (.int 0))) rfl rfl rfl ?_
    refine g_n 2 (pc' := 38) (L' := [some (.ref 281), some (.int a), some (.int b)]) (st' := [.int (-1)]) rfl ?_
    exact g_ret (ins := .ireturn) (len := 1) (r := (some (.int (-1)))) rfl rfl rfl ⟨_, rfl, rfl, (x_sv_rf _)⟩
  · have p3 : 0 ≤ a.toInt := x_lo_le (x_nlt h1) (by decide)
    refine g_n 2 (pc' := 7) (L' := [some (.int a)]) (st' := [.int 8, .int a]) rfl ?_
    refine g_br (c := (8 : Int32) ≤ a) (t := 14) (f := 10) (L' := [some (.int a)]) (st' := []) rfl (fun h4 => ?_) (fun h4 => ?_)
    · have p5 : 8 ≤ a.toInt := x_lo_le h4 (by decide)
      refine g_n 1 (pc' := 15) (L' := [some (.int a)]) (st' := [.int 0]) rfl ?_
      refine g_ret (ins := .ireturn) (len := 1) (r := (some (.int 0))) rfl rfl rfl ?_
      refine g_n 2 (pc' := 38) (L' := [some (.ref 0), some (.int a), some (.int b)]) (st' := [.int (-1)]) rfl ?_
      refine g_ret (ins := .ireturn) (len := 1) (r := (some (.int (-1)))) rfl rfl rfl ?_
      refine ⟨⟨_, rfl⟩, ?_⟩
      refine g_in (M := x_M418) (L := [some (.ref 281), some (.int a), some (.int b)]) x_pl418 rfl ?_
      refine g_n 2 (pc' := 2) (L' := [some (.ref 281), some (.int a), some (.int b)]) (st' := [.int a, .ref 281]) rfl ?_
      refine g_call (ins := .invokevirtual 671) (len := 3) (j := 411) (as := [.ref 281, .int a]) (rest := []) rfl rfl rfl rfl (fun _ => rfl) rfl ?_
      refine g_in (M := x_M411) (L := [some (.ref 281), some (.int a)]) x_pl411 rfl ?_
      refine g_n 1 (pc' := 1) (L' := [some (.ref 281), some (.int a)]) (st' := [.int a]) rfl ?_
      refine g_brF (c := a < (0 : Int32)) (t := 14) (f := 4) (L' := [some (.ref 281), some (.int a)]) (st' := []) rfl (x_Flt (l := 8) (u := 0) p5 (by decide) (by decide)) ?_
      refine g_n 2 (pc' := 7) (L' := [some (.ref 281), some (.int a)]) (st' := [.int 8, .int a]) rfl ?_
      refine g_brT (c := (8 : Int32) ≤ a) (t := 14) (f := 10) (L' := [some (.ref 281), some (.int a)]) (st' := []) rfl (x_Tle (u := 8) (l := 8) (by decide) p5 (by decide)) ?_
      refine g_n 1 (pc' := 15) (L' := [some (.ref 281), some (.int a)]) (st' := [.int 0]) rfl ?_
      refine g_ret (ins := .ireturn) (len := 1) (r := (some (.int 0))) rfl rfl rfl ?_
      refine g_n 2 (pc' := 38) (L' := [some (.ref 281), some (.int a), some (.int b)]) (st' := [.int (-1)]) rfl ?_
      exact g_ret (ins := .ireturn) (len := 1) (r := (some (.int (-1)))) rfl rfl rfl ⟨_, rfl, rfl, (x_sv_rf _)⟩
    · have p6 : a.toInt ≤ 7 := x_up_lt (x_nle h4) (by decide)
      refine g_n 2 (pc' := 15) (L' := [some (.int a)]) (st' := [.int 1]) rfl ?_
      refine g_ret (ins := .ireturn) (len := 1) (r := (some (.int 1))) rfl rfl rfl ?_
      refine g_n 2 (pc' := 8) (L' := [some (.ref 0), some (.int a), some (.int b)]) (st' := [.int b]) rfl ?_
      refine g_br (c := b < (0 : Int32)) (t := 37) (f := 11) (L' := [some (.ref 0), some (.int a), some (.int b)]) (st' := []) rfl (fun h7 => ?_) (fun h7 => ?_)
      · have p8 : b.toInt ≤ -1 := x_up_lt h7 (by decide)
        refine g_n 1 (pc' := 38) (L' := [some (.ref 0), some (.int a), some (.int b)]) (st' := [.int (-1)]) rfl ?_
        refine g_ret (ins := .ireturn) (len := 1) (r := (some (.int (-1)))) rfl rfl rfl ?_
        refine ⟨⟨_, rfl⟩, ?_⟩
        refine g_in (M := x_M418) (L := [some (.ref 281), some (.int a), some (.int b)]) x_pl418 rfl ?_
        refine g_n 2 (pc' := 2) (L' := [some (.ref 281), some (.int a), some (.int b)]) (st' := [.int a, .ref 281]) rfl ?_
        refine g_call (ins := .invokevirtual 671) (len := 3) (j := 411) (as := [.ref 281, .int a]) (rest := []) rfl rfl rfl rfl (fun _ => rfl) rfl ?_
        refine g_in (M := x_M411) (L := [some (.ref 281), some (.int a)]) x_pl411 rfl ?_
        refine g_n 1 (pc' := 1) (L' := [some (.ref 281), some (.int a)]) (st' := [.int a]) rfl ?_
        refine g_brF (c := a < (0 : Int32)) (t := 14) (f := 4) (L' := [some (.ref 281), some (.int a)]) (st' := []) rfl (x_Flt (l := 0) (u := 0) p3 (by decide) (by decide)) ?_
        refine g_n 2 (pc' := 7) (L' := [some (.ref 281), some (.int a)]) (st' := [.int 8, .int a]) rfl ?_
        refine g_brF (c := (8 : Int32) ≤ a) (t := 14) (f := 10) (L' := [some (.ref 281), some (.int a)]) (st' := []) rfl (x_Fle (l := 8) (u := 7) (by decide) p6 (by decide)) ?_
        refine g_n 2 (pc' := 15) (L' := [some (.ref 281), some (.int a)]) (st' := [.int 1]) rfl ?_
        refine g_ret (ins := .ireturn) (len := 1) (r := (some (.int 1))) rfl rfl rfl ?_
        refine g_n 2 (pc' := 9) (L' := [some (.ref 281), some (.int a), some (.int b)]) (st' := [.int b]) rfl ?_
        refine g_brT (c := b < (0 : Int32)) (t := 37) (f := 12) (L' := [some (.ref 281), some (.int a), some (.int b)]) (st' := []) rfl (x_Tlt (u := -1) (l := 0) p8 (by decide) (by decide)) ?_
        refine g_n 1 (pc' := 38) (L' := [some (.ref 281), some (.int a), some (.int b)]) (st' := [.int (-1)]) rfl ?_
        exact g_ret (ins := .ireturn) (len := 1) (r := (some (.int (-1)))) rfl rfl rfl ⟨_, rfl, rfl, (x_sv_rf _)⟩
      · have p9 : 0 ≤ b.toInt := x_lo_le (x_nlt h7) (by decide)
        refine g_n 4 (pc' := 17) (L' := [some (.ref 0), some (.int a), some (.int b)]) (st' := [.int a, .ref 1, .int b]) rfl ?_
        by_cases h10 : a = 0
        · have e11 : a = 0 := h10
          subst e11
          refine g_aa (i := 0) (a := 1) (n := 8) (v := 11) rfl rfl (by decide) (x_at (x_f1 hF) (k := 0) rfl) ?_
          refine g_n 1 (pc' := 21) (L' := [some (.ref 0), some (.int 0), some (.int b)]) (st' := [.int 0, .int b]) rfl ?_
          refine g_brT (c := (0 : Int32) ≤ b) (t := 37) (f := 24) (L' := [some (.ref 0), some (.int 0), some (.int b)]) (st' := []) rfl (x_Tle (u := 0) (l := 0) (by decide) p9 (by decide)) ?_
          refine g_n 1 (pc' := 38) (L' := [some (.ref 0), some (.int 0), some (.int b)]) (st' := [.int (-1)]) rfl ?_
          refine g_ret (ins := .ireturn) (len := 1) (r := (some (.int (-1)))) rfl rfl rfl ?_
          refine ⟨⟨_, rfl⟩, ?_⟩
          refine g_in (M := x_M418) (L := [some (.ref 281), some (.int 0), some (.int b)]) x_pl418 rfl ?_
          refine g_n 2 (pc' := 2) (L' := [some (.ref 281), some (.int 0), some (.int b)]) (st' := [.int 0, .ref 281]) rfl ?_
          refine g_call (ins := .invokevirtual 671) (len := 3) (j := 411) (as := [.ref 281, .int 0]) (rest := []) rfl rfl rfl rfl (fun _ => rfl) rfl ?_
          refine g_in (M := x_M411) (L := [some (.ref 281), some (.int 0)]) x_pl411 rfl ?_
          refine g_n 7 (pc' := 15) (L' := [some (.ref 281), some (.int 0)]) (st' := [.int 1]) rfl ?_
          refine g_ret (ins := .ireturn) (len := 1) (r := (some (.int 1))) rfl rfl rfl ?_
          refine g_n 2 (pc' := 9) (L' := [some (.ref 281), some (.int 0), some (.int b)]) (st' := [.int b]) rfl ?_
          refine g_brF (c := b < (0 : Int32)) (t := 37) (f := 12) (L' := [some (.ref 281), some (.int 0), some (.int b)]) (st' := []) rfl (x_Flt (l := 0) (u := 0) p9 (by decide) (by decide)) ?_
          refine g_n 5 (pc' := 19) (L' := [some (.ref 281), some (.int 0), some (.int b)]) (st' := [.int 0, .int b]) rfl ?_
          refine g_brT (c := (0 : Int32) ≤ b) (t := 37) (f := 22) (L' := [some (.ref 281), some (.int 0), some (.int b)]) (st' := []) rfl (x_Tle (u := 0) (l := 0) (by decide) p9 (by decide)) ?_
          refine g_n 1 (pc' := 38) (L' := [some (.ref 281), some (.int 0), some (.int b)]) (st' := [.int (-1)]) rfl ?_
          exact g_ret (ins := .ireturn) (len := 1) (r := (some (.int (-1)))) rfl rfl rfl ⟨_, rfl, rfl, (x_sv_rf _)⟩
        · have q12 : ¬ a = 0 := h10
          have p13 : 1 ≤ a.toInt := x_lo_ne q12 p3 (by decide)
          by_cases h14 : a = 1
          · have e15 : a = 1 := h14
            subst e15
            refine g_aa (i := 1) (a := 1) (n := 8) (v := 13) rfl rfl (by decide) (x_at (x_f1 hF) (k := 1) rfl) ?_
            refine g_n 1 (pc' := 21) (L' := [some (.ref 0), some (.int 1), some (.int b)]) (st' := [.int 0, .int b]) rfl ?_
            refine g_brT (c := (0 : Int32) ≤ b) (t := 37) (f := 24) (L' := [some (.ref 0), some (.int 1), some (.int b)]) (st' := []) rfl (x_Tle (u := 0) (l := 0) (by decide) p9 (by decide)) ?_
            refine g_n 1 (pc' := 38) (L' := [some (.ref 0), some (.int 1), some (.int b)]) (st' := [.int (-1)]) rfl ?_
            refine g_ret (ins := .ireturn) (len := 1) (r := (some (.int (-1)))) rfl rfl rfl ?_
            refine ⟨⟨_, rfl⟩, ?_⟩
            refine g_in (M := x_M418) (L := [some (.ref 281), some (.int 1), some (.int b)]) x_pl418 rfl ?_
            refine g_n 2 (pc' := 2) (L' := [some (.ref 281), some (.int 1), some (.int b)]) (st' := [.int 1, .ref 281]) rfl ?_
            refine g_call (ins := .invokevirtual 671) (len := 3) (j := 411) (as := [.ref 281, .int 1]) (rest := []) rfl rfl rfl rfl (fun _ => rfl) rfl ?_
            refine g_in (M := x_M411) (L := [some (.ref 281), some (.int 1)]) x_pl411 rfl ?_
            refine g_n 7 (pc' := 15) (L' := [some (.ref 281), some (.int 1)]) (st' := [.int 1]) rfl ?_
            refine g_ret (ins := .ireturn) (len := 1) (r := (some (.int 1))) rfl rfl rfl ?_
            refine g_n 2 (pc' := 9) (L' := [some (.ref 281), some (.int 1), some (.int b)]) (st' := [.int b]) rfl ?_
            refine g_brF (c := b < (0 : Int32)) (t := 37) (f := 12) (L' := [some (.ref 281), some (.int 1), some (.int b)]) (st' := []) rfl (x_Flt (l := 0) (u := 0) p9 (by decide) (by decide)) ?_
            refine g_n 5 (pc' := 19) (L' := [some (.ref 281), some (.int 1), some (.int b)]) (st' := [.int 0, .int b]) rfl ?_
            refine g_brT (c := (0 : Int32) ≤ b) (t := 37) (f := 22) (L' := [some (.ref 281), some (.int 1), some (.int b)]) (st' := []) rfl (x_Tle (u := 0) (l := 0) (by decide) p9 (by decide)) ?_
            refine g_n 1 (pc' := 38) (L' := [some (.ref 281), some (.int 1), some (.int b)]) (st' := [.int (-1)]) rfl ?_
            exact g_ret (ins := .ireturn) (len := 1) (r := (some (.int (-1)))) rfl rfl rfl ⟨_, rfl, rfl, (x_sv_rf _)⟩
          · have q16 : ¬ a = 1 := h14
            have p17 : 2 ≤ a.toInt := x_lo_ne q16 p13 (by decide)
            by_cases h18 : a = 2
            · have e19 : a = 2 := h18
              subst e19
              refine g_aa (i := 2) (a := 1) (n := 8) (v := 15) rfl rfl (by decide) (x_at (x_f1 hF) (k := 2) rfl) ?_
              refine g_n 1 (pc' := 21) (L' := [some (.ref 0), some (.int 2), some (.int b)]) (st' := [.int 0, .int b]) rfl ?_
              refine g_brT (c := (0 : Int32) ≤ b) (t := 37) (f := 24) (L' := [some (.ref 0), some (.int 2), some (.int b)]) (st' := []) rfl (x_Tle (u := 0) (l := 0) (by decide) p9 (by decide)) ?_
              refine g_n 1 (pc' := 38) (L' := [some (.ref 0), some (.int 2), some (.int b)]) (st' := [.int (-1)]) rfl ?_
              refine g_ret (ins := .ireturn) (len := 1) (r := (some (.int (-1)))) rfl rfl rfl ?_
              refine ⟨⟨_, rfl⟩, ?_⟩
              refine g_in (M := x_M418) (L := [some (.ref 281), some (.int 2), some (.int b)]) x_pl418 rfl ?_
              refine g_n 2 (pc' := 2) (L' := [some (.ref 281), some (.int 2), some (.int b)]) (st' := [.int 2, .ref 281]) rfl ?_
              refine g_call (ins := .invokevirtual 671) (len := 3) (j := 411) (as := [.ref 281, .int 2]) (rest := []) rfl rfl rfl rfl (fun _ => rfl) rfl ?_
              refine g_in (M := x_M411) (L := [some (.ref 281), some (.int 2)]) x_pl411 rfl ?_
              refine g_n 7 (pc' := 15) (L' := [some (.ref 281), some (.int 2)]) (st' := [.int 1]) rfl ?_
              refine g_ret (ins := .ireturn) (len := 1) (r := (some (.int 1))) rfl rfl rfl ?_
              refine g_n 2 (pc' := 9) (L' := [some (.ref 281), some (.int 2), some (.int b)]) (st' := [.int b]) rfl ?_
              refine g_brF (c := b < (0 : Int32)) (t := 37) (f := 12) (L' := [some (.ref 281), some (.int 2), some (.int b)]) (st' := []) rfl (x_Flt (l := 0) (u := 0) p9 (by decide) (by decide)) ?_
              refine g_n 5 (pc' := 19) (L' := [some (.ref 281), some (.int 2), some (.int b)]) (st' := [.int 0, .int b]) rfl ?_
              refine g_brT (c := (0 : Int32) ≤ b) (t := 37) (f := 22) (L' := [some (.ref 281), some (.int 2), some (.int b)]) (st' := []) rfl (x_Tle (u := 0) (l := 0) (by decide) p9 (by decide)) ?_
              refine g_n 1 (pc' := 38) (L' := [some (.ref 281), some (.int 2), some (.int b)]) (st' := [.int (-1)]) rfl ?_
              exact g_ret (ins := .ireturn) (len := 1) (r := (some (.int (-1)))) rfl rfl rfl ⟨_, rfl, rfl, (x_sv_rf _)⟩
            · have q20 : ¬ a = 2 := h18
              have p21 : 3 ≤ a.toInt := x_lo_ne q20 p17 (by decide)
              by_cases h22 : a = 3
              · have e23 : a = 3 := h22
                subst e23
                refine g_aa (i := 3) (a := 1) (n := 8) (v := 17) rfl rfl (by decide) (x_at (x_f1 hF) (k := 3) rfl) ?_
                refine g_n 1 (pc' := 21) (L' := [some (.ref 0), some (.int 3), some (.int b)]) (st' := [.int 0, .int b]) rfl ?_
                refine g_brT (c := (0 : Int32) ≤ b) (t := 37) (f := 24) (L' := [some (.ref 0), some (.int 3), some (.int b)]) (st' := []) rfl (x_Tle (u := 0) (l := 0) (by decide) p9 (by decide)) ?_
                refine g_n 1 (pc' := 38) (L' := [some (.ref 0), some (.int 3), some (.int b)]) (st' := [.int (-1)]) rfl ?_
                refine g_ret (ins := .ireturn) (len := 1) (r := (some (.int (-1)))) rfl rfl rfl ?_
                refine ⟨⟨_, rfl⟩, ?_⟩
                refine g_in (M := x_M418) (L := [some (.ref 281), some (.int 3), some (.int b)]) x_pl418 rfl ?_
                refine g_n 2 (pc' := 2) (L' := [some (.ref 281), some (.int 3), some (.int b)]) (st' := [.int 3, .ref 281]) rfl ?_
                refine g_call (ins := .invokevirtual 671) (len := 3) (j := 411) (as := [.ref 281, .int 3]) (rest := []) rfl rfl rfl rfl (fun _ => rfl) rfl ?_
                refine g_in (M := x_M411) (L := [some (.ref 281), some (.int 3)]) x_pl411 rfl ?_
                refine g_n 7 (pc' := 15) (L' := [some (.ref 281), some (.int 3)]) (st' := [.int 1]) rfl ?_
                refine g_ret (ins := .ireturn) (len := 1) (r := (some (.int 1))) rfl rfl rfl ?_
                refine g_n 2 (pc' := 9) (L' := [some (.ref 281), some (.int 3), some (.int b)]) (st' := [.int b]) rfl ?_
                refine g_brF (c := b < (0 : Int32)) (t := 37) (f := 12) (L' := [some (.ref 281), some (.int 3), some (.int b)]) (st' := []) rfl (x_Flt (l := 0) (u := 0) p9 (by decide) (by decide)) ?_
                refine g_n 5 (pc' := 19) (L' := [some (.ref 281), some (.int 3), some (.int b)]) (st' := [.int 0, .int b]) rfl ?_
                refine g_brT (c := (0 : Int32) ≤ b) (t := 37) (f := 22) (L' := [some (.ref 281), some (.int 3), some (.int b)]) (st' := []) rfl (x_Tle (u := 0) (l := 0) (by decide) p9 (by decide)) ?_
                refine g_n 1 (pc' := 38) (L' := [some (.ref 281), some (.int 3), some (.int b)]) (st' := [.int (-1)]) rfl ?_
                exact g_ret (ins := .ireturn) (len := 1) (r := (some (.int (-1)))) rfl rfl rfl ⟨_, rfl, rfl, (x_sv_rf _)⟩
              · have q24 : ¬ a = 3 := h22
                have p25 : 4 ≤ a.toInt := x_lo_ne q24 p21 (by decide)
                by_cases h26 : a = 4
                · have e27 : a = 4 := h26
                  subst e27
                  refine g_aa (i := 4) (a := 1) (n := 8) (v := 19) rfl rfl (by decide) (x_at (x_f1 hF) (k := 4) rfl) ?_
                  refine g_n 1 (pc' := 21) (L' := [some (.ref 0), some (.int 4), some (.int b)]) (st' := [.int 0, .int b]) rfl ?_
                  refine g_brT (c := (0 : Int32) ≤ b) (t := 37) (f := 24) (L' := [some (.ref 0), some (.int 4), some (.int b)]) (st' := []) rfl (x_Tle (u := 0) (l := 0) (by decide) p9 (by decide)) ?_
                  refine g_n 1 (pc' := 38) (L' := [some (.ref 0), some (.int 4), some (.int b)]) (st' := [.int (-1)]) rfl ?_
                  refine g_ret (ins := .ireturn) (len := 1) (r := (some (.int (-1)))) rfl rfl rfl ?_
                  refine ⟨⟨_, rfl⟩, ?_⟩
                  refine g_in (M := x_M418) (L := [some (.ref 281), some (.int 4), some (.int b)]) x_pl418 rfl ?_
                  refine g_n 2 (pc' := 2) (L' := [some (.ref 281), some (.int 4), some (.int b)]) (st' := [.int 4, .ref 281]) rfl ?_
                  refine g_call (ins := .invokevirtual 671) (len := 3) (j := 411) (as := [.ref 281, .int 4]) (rest := []) rfl rfl rfl rfl (fun _ => rfl) rfl ?_
                  refine g_in (M := x_M411) (L := [some (.ref 281), some (.int 4)]) x_pl411 rfl ?_
                  refine g_n 7 (pc' := 15) (L' := [some (.ref 281), some (.int 4)]) (st' := [.int 1]) rfl ?_
                  refine g_ret (ins := .ireturn) (len := 1) (r := (some (.int 1))) rfl rfl rfl ?_
                  refine g_n 2 (pc' := 9) (L' := [some (.ref 281), some (.int 4), some (.int b)]) (st' := [.int b]) rfl ?_
                  refine g_brF (c := b < (0 : Int32)) (t := 37) (f := 12) (L' := [some (.ref 281), some (.int 4), some (.int b)]) (st' := []) rfl (x_Flt (l := 0) (u := 0) p9 (by decide) (by decide)) ?_
                  refine g_n 5 (pc' := 19) (L' := [some (.ref 281), some (.int 4), some (.int b)]) (st' := [.int 0, .int b]) rfl ?_
                  refine g_brT (c := (0 : Int32) ≤ b) (t := 37) (f := 22) (L' := [some (.ref 281), some (.int 4), some (.int b)]) (st' := []) rfl (x_Tle (u := 0) (l := 0) (by decide) p9 (by decide)) ?_
                  refine g_n 1 (pc' := 38) (L' := [some (.ref 281), some (.int 4), some (.int b)]) (st' := [.int (-1)]) rfl ?_
                  exact g_ret (ins := .ireturn) (len := 1) (r := (some (.int (-1)))) rfl rfl rfl ⟨_, rfl, rfl, (x_sv_rf _)⟩
                · have q28 : ¬ a = 4 := h26
                  have p29 : 5 ≤ a.toInt := x_lo_ne q28 p25 (by decide)
                  by_cases h30 : a = 5
                  · have e31 : a = 5 := h30
                    subst e31
                    refine g_aa (i := 5) (a := 1) (n := 8) (v := 21) rfl rfl (by decide) (x_at (x_f1 hF) (k := 5) rfl) ?_
                    refine g_n 1 (pc' := 21) (L' := [some (.ref 0), some (.int 5), some (.int b)]) (st' := [.int 0, .int b]) rfl ?_
                    refine g_brT (c := (0 : Int32) ≤ b) (t := 37) (f := 24) (L' := [some (.ref 0), some (.int 5), some (.int b)]) (st' := []) rfl (x_Tle (u := 0) (l := 0) (by decide) p9 (by decide)) ?_
                    refine g_n 1 (pc' := 38) (L' := [some (.ref 0), some (.int 5), some (.int b)]) (st' := [.int (-1)]) rfl ?_
                    refine g_ret (ins := .ireturn) (len := 1) (r := (some (.int (-1)))) rfl rfl rfl ?_
                    refine ⟨⟨_, rfl⟩, ?_⟩
                    refine g_in (M := x_M418) (L := [some (.ref 281), some (.int 5), some (.int b)]) x_pl418 rfl ?_
                    refine g_n 2 (pc' := 2) (L' := [some (.ref 281), some (.int 5), some (.int b)]) (st' := [.int 5, .ref 281]) rfl ?_
                    refine g_call (ins := .invokevirtual 671) (len := 3) (j := 411) (as := [.ref 281, .int 5]) (rest := []) rfl rfl rfl rfl (fun _ => rfl) rfl ?_
                    refine g_in (M := x_M411) (L := [some (.ref 281), some (.int 5)]) x_pl411 rfl ?_
                    refine g_n 7 (pc' := 15) (L' := [some (.ref 281), some (.int 5)]) (st' := [.int 1]) rfl ?_
                    refine g_ret (ins := .ireturn) (len := 1) (r := (some (.int 1))) rfl rfl rfl ?_
                    refine g_n 2 (pc' := 9) (L' := [some (.ref 281), some (.int 5), some (.int b)]) (st' := [.int b]) rfl ?_
                    refine g_brF (c := b < (0 : Int32)) (t := 37) (f := 12) (L' := [some (.ref 281), some (.int 5), some (.int b)]) (st' := []) rfl (x_Flt (l := 0) (u := 0) p9 (by decide) (by decide)) ?_
                    refine g_n 5 (pc' := 19) (L' := [some (.ref 281), some (.int 5), some (.int b)]) (st' := [.int 0, .int b]) rfl ?_
                    refine g_brT (c := (0 : Int32) ≤ b) (t := 37) (f := 22) (L' := [some (.ref 281), some (.int 5), some (.int b)]) (st' := []) rfl (x_Tle (u := 0) (l := 0) (by decide) p9 (by decide)) ?_
                    refine g_n 1 (pc' := 38) (L' := [some (.ref 281), some (.int 5), some (.int b)]) (st' := [.int (-1)]) rfl ?_
                    exact g_ret (ins := .ireturn) (len := 1) (r := (some (.int (-1)))) rfl rfl rfl ⟨_, rfl, rfl, (x_sv_rf _)⟩
                  · have q32 : ¬ a = 5 := h30
                    have p33 : 6 ≤ a.toInt := x_lo_ne q32 p29 (by decide)
                    by_cases h34 : a = 6
                    · have e35 : a = 6 := h34
                      subst e35
                      refine g_aa (i := 6) (a := 1) (n := 8) (v := 23) rfl rfl (by decide) (x_at (x_f1 hF) (k := 6) rfl) ?_
                      refine g_n 1 (pc' := 21) (L' := [some (.ref 0), some (.int 6), some (.int b)]) (st' := [.int 0, .int b]) rfl ?_
                      refine g_brT (c := (0 : Int32) ≤ b) (t := 37) (f := 24) (L' := [some (.ref 0), some (.int 6), some (.int b)]) (st' := []) rfl (x_Tle (u := 0) (l := 0) (by decide) p9 (by decide)) ?_
                      refine g_n 1 (pc' := 38) (L' := [some (.ref 0), some (.int 6), some (.int b)]) (st' := [.int (-1)]) rfl ?_
                      refine g_ret (ins := .ireturn) (len := 1) (r := (some (.int (-1)))) rfl rfl rfl ?_
                      refine ⟨⟨_, rfl⟩, ?_⟩
                      refine g_in (M := x_M418) (L := [some (.ref 281), some (.int 6), some (.int b)]) x_pl418 rfl ?_
                      refine g_n 2 (pc' := 2) (L' := [some (.ref 281), some (.int 6), some (.int b)]) (st' := [.int 6, .ref 281]) rfl ?_
                      refine g_call (ins := .invokevirtual 671) (len := 3) (j := 411) (as := [.ref 281, .int 6]) (rest := []) rfl rfl rfl rfl (fun _ => rfl) rfl ?_
                      refine g_in (M := x_M411) (L := [some (.ref 281), some (.int 6)]) x_pl411 rfl ?_
                      refine g_n 7 (pc' := 15) (L' := [some (.ref 281), some (.int 6)]) (st' := [.int 1]) rfl ?_
                      refine g_ret (ins := .ireturn) (len := 1) (r := (some (.int 1))) rfl rfl rfl ?_
                      refine g_n 2 (pc' := 9) (L' := [some (.ref 281), some (.int 6), some (.int b)]) (st' := [.int b]) rfl ?_
                      refine g_brF (c := b < (0 : Int32)) (t := 37) (f := 12) (L' := [some (.ref 281), some (.int 6), some (.int b)]) (st' := []) rfl (x_Flt (l := 0) (u := 0) p9 (by decide) (by decide)) ?_
                      refine g_n 5 (pc' := 19) (L' := [some (.ref 281), some (.int 6), some (.int b)]) (st' := [.int 0, .int b]) rfl ?_
                      refine g_brT (c := (0 : Int32) ≤ b) (t := 37) (f := 22) (L' := [some (.ref 281), some (.int 6), some (.int b)]) (st' := []) rfl (x_Tle (u := 0) (l := 0) (by decide) p9 (by decide)) ?_
                      refine g_n 1 (pc' := 38) (L' := [some (.ref 281), some (.int 6), some (.int b)]) (st' := [.int (-1)]) rfl ?_
                      exact g_ret (ins := .ireturn) (len := 1) (r := (some (.int (-1)))) rfl rfl rfl ⟨_, rfl, rfl, (x_sv_rf _)⟩
                    · have q36 : ¬ a = 6 := h34
                      have p37 : 7 ≤ a.toInt := x_lo_ne q36 p33 (by decide)
                      have e38 : a = 7 := x_sing p37 p6 (by decide)
                      subst e38
                      refine g_aa (i := 7) (a := 1) (n := 8) (v := 25) rfl rfl (by decide) (x_at (x_f1 hF) (k := 7) rfl) ?_
                      refine g_n 1 (pc' := 21) (L' := [some (.ref 0), some (.int 7), some (.int b)]) (st' := [.int 0, .int b]) rfl ?_
                      refine g_brT (c := (0 : Int32) ≤ b) (t := 37) (f := 24) (L' := [some (.ref 0), some (.int 7), some (.int b)]) (st' := []) rfl (x_Tle (u := 0) (l := 0) (by decide) p9 (by decide)) ?_
                      refine g_n 1 (pc' := 38) (L' := [some (.ref 0), some (.int 7), some (.int b)]) (st' := [.int (-1)]) rfl ?_
                      refine g_ret (ins := .ireturn) (len := 1) (r := (some (.int (-1)))) rfl rfl rfl ?_
                      refine ⟨⟨_, rfl⟩, ?_⟩
                      refine g_in (M := x_M418) (L := [some (.ref 281), some (.int 7), some (.int b)]) x_pl418 rfl ?_
                      refine g_n 2 (pc' := 2) (L' := [some (.ref 281), some (.int 7), some (.int b)]) (st' := [.int 7, .ref 281]) rfl ?_
                      refine g_call (ins := .invokevirtual 671) (len := 3) (j := 411) (as := [.ref 281, .int 7]) (rest := []) rfl rfl rfl rfl (fun _ => rfl) rfl ?_
                      refine g_in (M := x_M411) (L := [some (.ref 281), some (.int 7)]) x_pl411 rfl ?_
                      refine g_n 7 (pc' := 15) (L' := [some (.ref 281), some (.int 7)]) (st' := [.int 1]) rfl ?_
                      refine g_ret (ins := .ireturn) (len := 1) (r := (some (.int 1))) rfl rfl rfl ?_
                      refine g_n 2 (pc' := 9) (L' := [some (.ref 281), some (.int 7), some (.int b)]) (st' := [.int b]) rfl ?_
                      refine g_brF (c := b < (0 : Int32)) (t := 37) (f := 12) (L' := [some (.ref 281), some (.int 7), some (.int b)]) (st' := []) rfl (x_Flt (l := 0) (u := 0) p9 (by decide) (by decide)) ?_
                      refine g_n 5 (pc' := 19) (L' := [some (.ref 281), some (.int 7), some (.int b)]) (st' := [.int 0, .int b]) rfl ?_
                      refine g_brT (c := (0 : Int32) ≤ b) (t := 37) (f := 22) (L' := [some (.ref 281), some (.int 7), some (.int b)]) (st' := []) rfl (x_Tle (u := 0) (l := 0) (by decide) p9 (by decide)) ?_
                      refine g_n 1 (pc' := 38) (L' := [some (.ref 281), some (.int 7), some (.int b)]) (st' := [.int (-1)]) rfl ?_
                      exact g_ret (ins := .ireturn) (len := 1) (r := (some (.int (-1)))) rfl rfl rfl ⟨_, rfl, rfl, (x_sv_rf _)⟩
set_option maxRecDepth 100000 in
set_option maxHeartbeats 4000000 in
theorem x_op6 {fi : Nat → Nat → Int32} {fl : Nat → Nat → Int64} {fr : Nat → Nat → Option Nat} (hF : x_F fl fr) (a b c : Int32) : x_ev 30 358 [.ref 0, .int a, .int b, .int c] (x_W fi fl fr) fun r S1 => (∃ fs, x_obj S1 281 = some (12, fs)) ∧ x_ev 30 419 [.ref 281, .int a, .int b, .int c] S1 (x_finI (x_W fi fl fr) r) := by
  refine g_in (M := x_M358) (L := [some (.ref 0), some (.int a), some (.int b), some (.int c)]) x_pl358 rfl ?_
  refine g_n 1 (pc' := 1) (L' := [some (.ref 0), some (.int a), some (.int b), some (.int c)]) (st' := [.int a]) rfl ?_
  refine g_call (ins := .invokestatic 150) (len := 3) (j := 347) (as := [.int a]) (rest := []) rfl rfl rfl rfl (fun _ => rfl) rfl ?_
  refine g_in (M := x_M347) (L := [some (.int a)]) x_pl347 rfl ?_
  refine g_n 1 (pc' := 1) (L' := [some (.int a)]) (st' := [.int a]) rfl ?_
  refine g_br (c := a < (0 : Int32)) (t := 14) (f := 4) (L' := [some (.int a)]) (st' := []) rfl (fun h1 => ?_) (fun h1 => ?_)
  · have p2 : a.toInt ≤ -1 := x_up_lt h1 (by decide)
    refine g_n 1 (pc' := 15) (L' := [some (.int a)]) (st' := [.int 0]) rfl ?_
    refine g_ret (ins := .ireturn) (len := 1) (r := (some (.int 0))) rfl rfl rfl ?_
    refine g_n 2 (pc' := 36) (L' := [some (.ref 0), some (.int a), some (.int b), some (.int c)]) (st' := [.int (-1)]) rfl ?_
    refine g_ret (ins := .ireturn) (len := 1) (r := (some (.int (-1)))) rfl rfl rfl ?_
    refine ⟨⟨_, rfl⟩, ?_⟩
    refine g_in (M := x_M419) (L := [some (.ref 281), some (.int a), some (.int b), some (.int c)]) x_pl419 rfl ?_
    refine g_n 2 (pc' := 2) (L' := [some (.ref 281), some (.int a), some (.int b), some (.int c)]) (st' := [.int a, .ref 281]) rfl ?_
    refine g_call (ins := .invokevirtual 671) (len := 3) (j := 411) (as := [.ref 281, .int a]) (rest := []) rfl rfl rfl rfl (fun _ => rfl) rfl ?_
    refine g_in (M := x_M411) (L := [some (.ref 281), some (.int a)]) x_pl411 rfl ?_
    refine g_n 1 (pc' := 1) (L' := [some (.ref 281), some (.int a)]) (st' := [.int a]) rfl ?_
    refine g_brT (c := a < (0 : Int32)) (t := 14) (f := 4) (L' := [some (.ref 281), some (.int a)]) (st' := []) rfl (x_Tlt (u := -1) (l := 0) p2 (by decide) (by decide)) ?_
    refine g_n 1 (pc' := 15) (L' := [some (.ref 281), some (.int a)]) (st' := [.int 0]) rfl ?_
    refine g_ret (ins := .ireturn) (len := 1) (r := (some (.int 0))) rfl rfl rfl ?_
    refine g_n 2 (pc' := 34) (L' := [some (.ref 281), some (.int a), some (.int b), some (.int c)]) (st' := [.int (-1)]) rfl ?_
    exact g_ret (ins := .ireturn) (len := 1) (r := (some (.int (-1)))) rfl rfl rfl ⟨_, rfl, rfl, (x_sv_rf _)⟩
  · have p3 : 0 ≤ a.toInt := x_lo_le (x_nlt h1) (by decide)
    refine g_n 2 (pc' := 7) (L' := [some (.int a)]) (st' := [.int 8, .int a]) rfl ?_
    refine g_br (c := (8 : Int32) ≤ a) (t := 14) (f := 10) (L' := [some (.int a)]) (st' := []) rfl (fun h4 => ?_) (fun h4 => ?_)
    · have p5 : 8 ≤ a.toInt := x_lo_le h4 (by decide)
      refine g_n 1 (pc' := 15) (L' := [some (.int a)]) (st' := [.int 0]) rfl ?_
      refine g_ret (ins := .ireturn) (len := 1) (r := (some (.int 0))) rfl rfl rfl ?_
      refine g_n 2 (pc' := 36) (L' := [some (.ref 0), some (.int a), some (.int b), some (.int c)]) (st' := [.int (-1)]) rfl ?_
      refine g_ret (ins := .ireturn) (len := 1) (r := (some (.int (-1)))) rfl rfl rfl ?_
      refine ⟨⟨_, rfl⟩, ?_⟩
      refine g_in (M := x_M419) (L := [some (.ref 281), some (.int a), some (.int b), some (.int c)]) x_pl419 rfl ?_
      refine g_n 2 (pc' := 2) (L' := [some (.ref 281), some (.int a), some (.int b), some (.int c)]) (st' := [.int a, .ref 281]) rfl ?_
      refine g_call (ins := .invokevirtual 671) (len := 3) (j := 411) (as := [.ref 281, .int a]) (rest := []) rfl rfl rfl rfl (fun _ => rfl) rfl ?_
      refine g_in (M := x_M411) (L := [some (.ref 281), some (.int a)]) x_pl411 rfl ?_
      refine g_n 1 (pc' := 1) (L' := [some (.ref 281), some (.int a)]) (st' := [.int a]) rfl ?_
      refine g_brF (c := a < (0 : Int32)) (t := 14) (f := 4) (L' := [some (.ref 281), some (.int a)]) (st' := []) rfl (x_Flt (l := 8) (u := 0) p5 (by decide) (by decide)) ?_
      refine g_n 2 (pc' := 7) (L' := [some (.ref 281), some (.int a)]) (st' := [.int 8, .int a]) rfl ?_
      refine g_brT (c := (8 : Int32) ≤ a) (t := 14) (f := 10) (L' := [some (.ref 281), some (.int a)]) (st' := []) rfl (x_Tle (u := 8) (l := 8) (by decide) p5 (by decide)) ?_
      refine g_n 1 (pc' := 15) (L' := [some (.ref 281), some (.int a)]) (st' := [.int 0]) rfl ?_
      refine g_ret (ins := .ireturn) (len := 1) (r := (some (.int 0))) rfl rfl rfl ?_
      refine g_n 2 (pc' := 34) (L' := [some (.ref 281), some (.int a), some (.int b), some (.int c)]) (st' := [.int (-1)]) rfl ?_
      exact g_ret (ins := .ireturn) (len := 1) (r := (some (.int (-1)))) rfl rfl rfl ⟨_, rfl, rfl, (x_sv_rf _)⟩
    · have p6 : a.toInt ≤ 7 := x_up_lt (x_nle h4) (by decide)
      refine g_n 2 (pc' := 15) (L' := [some (.int a)]) (st' := [.int 1]) rfl ?_
      refine g_ret (ins := .ireturn) (len := 1) (r := (some (.int 1))) rfl rfl rfl ?_
      refine g_n 2 (pc' := 8) (L' := [some (.ref 0), some (.int a), some (.int b), some (.int c)]) (st' := [.int b]) rfl ?_
      refine g_br (c := b < (0 : Int32)) (t := 35) (f := 11) (L' := [some (.ref 0), some (.int a), some (.int b), some (.int c)]) (st' := []) rfl (fun h7 => ?_) (fun h7 => ?_)
      · have p8 : b.toInt ≤ -1 := x_up_lt h7 (by decide)
        refine g_n 1 (pc' := 36) (L' := [some (.ref 0), some (.int a), some (.int b), some (.int c)]) (st' := [.int (-1)]) rfl ?_
        refine g_ret (ins := .ireturn) (len := 1) (r := (some (.int (-1)))) rfl rfl rfl ?_
        refine ⟨⟨_, rfl⟩, ?_⟩
        refine g_in (M := x_M419) (L := [some (.ref 281), some (.int a), some (.int b), some (.int c)]) x_pl419 rfl ?_
        refine g_n 2 (pc' := 2) (L' := [some (.ref 281), some (.int a), some (.int b), some (.int c)]) (st' := [.int a, .ref 281]) rfl ?_
        refine g_call (ins := .invokevirtual 671) (len := 3) (j := 411) (as := [.ref 281, .int a]) (rest := []) rfl rfl rfl rfl (fun _ => rfl) rfl ?_
        refine g_in (M := x_M411) (L := [some (.ref 281), some (.int a)]) x_pl411 rfl ?_
        refine g_n 1 (pc' := 1) (L' := [some (.ref 281), some (.int a)]) (st' := [.int a]) rfl ?_
        refine g_brF (c := a < (0 : Int32)) (t := 14) (f := 4) (L' := [some (.ref 281), some (.int a)]) (st' := []) rfl (x_Flt (l := 0) (u := 0) p3 (by decide) (by decide)) ?_
        refine g_n 2 (pc' := 7) (L' := [some (.ref 281), some (.int a)]) (st' := [.int 8, .int a]) rfl ?_
        refine g_brF (c := (8 : Int32) ≤ a) (t := 14) (f := 10) (L' := [some (.ref 281), some (.int a)]) (st' := []) rfl (x_Fle (l := 8) (u := 7) (by decide) p6 (by decide)) ?_
        refine g_n 2 (pc' := 15) (L' := [some (.ref 281), some (.int a)]) (st' := [.int 1]) rfl ?_
        refine g_ret (ins := .ireturn) (len := 1) (r := (some (.int 1))) rfl rfl rfl ?_
        refine g_n 2 (pc' := 9) (L' := [some (.ref 281), some (.int a), some (.int b), some (.int c)]) (st' := [.int b]) rfl ?_
        refine g_brT (c := b < (0 : Int32)) (t := 33) (f := 12) (L' := [some (.ref 281), some (.int a), some (.int b), some (.int c)]) (st' := []) rfl (x_Tlt (u := -1) (l := 0) p8 (by decide) (by decide)) ?_
        refine g_n 1 (pc' := 34) (L' := [some (.ref 281), some (.int a), some (.int b), some (.int c)]) (st' := [.int (-1)]) rfl ?_
        exact g_ret (ins := .ireturn) (len := 1) (r := (some (.int (-1)))) rfl rfl rfl ⟨_, rfl, rfl, (x_sv_rf _)⟩
      · have p9 : 0 ≤ b.toInt := x_lo_le (x_nlt h7) (by decide)
        refine g_n 4 (pc' := 17) (L' := [some (.ref 0), some (.int a), some (.int b), some (.int c)]) (st' := [.int a, .ref 1, .int b]) rfl ?_
        by_cases h10 : a = 0
        · have e11 : a = 0 := h10
          subst e11
          refine g_aa (i := 0) (a := 1) (n := 8) (v := 11) rfl rfl (by decide) (x_at (x_f1 hF) (k := 0) rfl) ?_
          refine g_n 1 (pc' := 21) (L' := [some (.ref 0), some (.int 0), some (.int b), some (.int c)]) (st' := [.int 0, .int b]) rfl ?_
          refine g_brT (c := (0 : Int32) ≤ b) (t := 35) (f := 24) (L' := [some (.ref 0), some (.int 0), some (.int b), some (.int c)]) (st' := []) rfl (x_Tle (u := 0) (l := 0) (by decide) p9 (by decide)) ?_
          refine g_n 1 (pc' := 36) (L' := [some (.ref 0), some (.int 0), some (.int b), some (.int c)]) (st' := [.int (-1)]) rfl ?_
          refine g_ret (ins := .ireturn) (len := 1) (r := (some (.int (-1)))) rfl rfl rfl ?_
          refine ⟨⟨_, rfl⟩, ?_⟩
          refine g_in (M := x_M419) (L := [some (.ref 281), some (.int 0), some (.int b), some (.int c)]) x_pl419 rfl ?_
          refine g_n 2 (pc' := 2) (L' := [some (.ref 281), some (.int 0), some (.int b), some (.int c)]) (st' := [.int 0, .ref 281]) rfl ?_
          refine g_call (ins := .invokevirtual 671) (len := 3) (j := 411) (as := [.ref 281, .int 0]) (rest := []) rfl rfl rfl rfl (fun _ => rfl) rfl ?_
          refine g_in (M := x_M411) (L := [some (.ref 281), some (.int 0)]) x_pl411 rfl ?_
          refine g_n 7 (pc' := 15) (L' := [some (.ref 281), some (.int 0)]) (st' := [.int 1]) rfl ?_
          refine g_ret (ins := .ireturn) (len := 1) (r := (some (.int 1))) rfl rfl rfl ?_
          refine g_n 2 (pc' := 9) (L' := [some (.ref 281), some (.int 0), some (.int b), some (.int c)]) (st' := [.int b]) rfl ?_
          refine g_brF (c := b < (0 : Int32)) (t := 33) (f := 12) (L' := [some (.ref 281), some (.int 0), some (.int b), some (.int c)]) (st' := []) rfl (x_Flt (l := 0) (u := 0) p9 (by decide) (by decide)) ?_
          refine g_n 5 (pc' := 19) (L' := [some (.ref 281), some (.int 0), some (.int b), some (.int c)]) (st' := [.int 0, .int b]) rfl ?_
          refine g_brT (c := (0 : Int32) ≤ b) (t := 33) (f := 22) (L' := [some (.ref 281), some (.int 0), some (.int b), some (.int c)]) (st' := []) rfl (x_Tle (u := 0) (l := 0) (by decide) p9 (by decide)) ?_
          refine g_n 1 (pc' := 34) (L' := [some (.ref 281), some (.int 0), some (.int b), some (.int c)]) (st' := [.int (-1)]) rfl ?_
          exact g_ret (ins := .ireturn) (len := 1) (r := (some (.int (-1)))) rfl rfl rfl ⟨_, rfl, rfl, (x_sv_rf _)⟩
        · have q12 : ¬ a = 0 := h10
          have p13 : 1 ≤ a.toInt := x_lo_ne q12 p3 (by decide)
          by_cases h14 : a = 1
          · have e15 : a = 1 := h14
            subst e15
            refine g_aa (i := 1) (a := 1) (n := 8) (v := 13) rfl rfl (by decide) (x_at (x_f1 hF) (k := 1) rfl) ?_
            refine g_n 1 (pc' := 21) (L' := [some (.ref 0), some (.int 1), some (.int b), some (.int c)]) (st' := [.int 0, .int b]) rfl ?_
            refine g_brT (c := (0 : Int32) ≤ b) (t := 35) (f := 24) (L' := [some (.ref 0), some (.int 1), some (.int b), some (.int c)]) (st' := []) rfl (x_Tle (u := 0) (l := 0) (by decide) p9 (by decide)) ?_
            refine g_n 1 (pc' := 36) (L' := [some (.ref 0), some (.int 1), some (.int b), some (.int c)]) (st' := [.int (-1)]) rfl ?_
            refine g_ret (ins := .ireturn) (len := 1) (r := (some (.int (-1)))) rfl rfl rfl ?_
            refine ⟨⟨_, rfl⟩, ?_⟩
            refine g_in (M := x_M419) (L := [some (.ref 281), some (.int 1), some (.int b), some (.int c)]) x_pl419 rfl ?_
            refine g_n 2 (pc' := 2) (L' := [some (.ref 281), some (.int 1), some (.int b), some (.int c)]) (st' := [.int 1, .ref 281]) rfl ?_
            refine g_call (ins := .invokevirtual 671) (len := 3) (j := 411) (as := [.ref 281, .int 1]) (rest := []) rfl rfl rfl rfl (fun _ => rfl) rfl ?_
            refine g_in (M := x_M411) (L := [some (.ref 281), some (.int 1)]) x_pl411 rfl ?_
            refine g_n 7 (pc' := 15) (L' := [some (.ref 281), some (.int 1)]) (st' := [.int 1]) rfl ?_
            refine g_ret (ins := .ireturn) (len := 1) (r := (some (.int 1))) rfl rfl rfl ?_
            refine g_n 2 (pc' := 9) (L' := [some (.ref 281), some (.int 1), some (.int b), some (.int c)]) (st' := [.int b]) rfl ?_
            refine g_brF (c := b < (0 : Int32)) (t := 33) (f := 12) (L' := [some (.ref 281), some (.int 1), some (.int b), some (.int c)]) (st' := []) rfl (x_Flt (l := 0) (u := 0) p9 (by decide) (by decide)) ?_
            refine g_n 5 (pc' := 19) (L' := [some (.ref 281), some (.int 1), some (.int b), some (.int c)]) (st' := [.int 0, .int b]) rfl ?_
            refine g_brT (c := (0 : Int32) ≤ b) (t := 33) (f := 22) (L' := [some (.ref 281), some (.int 1), some (.int b), some (.int c)]) (st' := []) rfl (x_Tle (u := 0) (l := 0) (by decide) p9 (by decide)) ?_
            refine g_n 1 (pc' := 34) (L' := [some (.ref 281), some (.int 1), some (.int b), some (.int c)]) (st' := [.int (-1)]) rfl ?_
            exact g_ret (ins := .ireturn) (len := 1) (r := (some (.int (-1)))) rfl rfl rfl ⟨_, rfl, rfl, (x_sv_rf _)⟩
          · have q16 : ¬ a = 1 := h14
            have p17 : 2 ≤ a.toInt := x_lo_ne q16 p13 (by decide)
            by_cases h18 : a = 2
            · have e19 : a = 2 := h18
              subst e19
              refine g_aa (i := 2) (a := 1) (n := 8) (v := 15) rfl rfl (by decide) (x_at (x_f1 hF) (k := 2) rfl) ?_
              refine g_n 1 (pc' := 21) (L' := [some (.ref 0), some (.int 2), some (.int b), some (.int c)]) (st' := [.int 0, .int b]) rfl ?_
              refine g_brT (c := (0 : Int32) ≤ b) (t := 35) (f := 24) (L' := [some (.ref 0), some (.int 2), some (.int b), some (.int c)]) (st' := []) rfl (x_Tle (u := 0) (l := 0) (by decide) p9 (by decide)) ?_
              refine g_n 1 (pc' := 36) (L' := [some (.ref 0), some (.int 2), some (.int b), some (.int c)]) (st' := [.int (-1)]) rfl ?_
              refine g_ret (ins := .ireturn) (len := 1) (r := (some (.int (-1)))) rfl rfl rfl ?_
              refine ⟨⟨_, rfl⟩, ?_⟩
              refine g_in (M := x_M419) (L := [some (.ref 281), some (.int 2), some (.int b), some (.int c)]) x_pl419 rfl ?_
              refine g_n 2 (pc' := 2) (L' := [some (.ref 281), some (.int 2), some (.int b), some (.int c)]) (st' := [.int 2, .ref 281]) rfl ?_
              refine g_call (ins := .invokevirtual 671) (len := 3) (j := 411) (as := [.ref 281, .int 2]) (rest := []) rfl rfl rfl rfl (fun _ => rfl) rfl ?_
              refine g_in (M := x_M411) (L := [some (.ref 281), some (.int 2)]) x_pl411 rfl ?_
              refine g_n 7 (pc' := 15) (L' := [some (.ref 281), some (.int 2)]) (st' := [.int 1]) rfl ?_
              refine g_ret (ins := .ireturn) (len := 1) (r := (some (.int 1))) rfl rfl rfl ?_
              refine g_n 2 (pc' := 9) (L' := [some (.ref 281), some (.int 2), some (.int b), some (.int c)]) (st' := [.int b]) rfl ?_
              refine g_brF (c := b < (0 : Int32)) (t := 33) (f := 12) (L' := [some (.ref 281), some (.int 2), some (.int b), some (.int c)]) (st' := []) rfl (x_Flt (l := 0) (u := 0) p9 (by decide) (by decide)) ?_
              refine g_n 5 (pc' := 19) (L' := [some (.ref 281), some (.int 2), some (.int b), some (.int c)]) (st' := [.int 0, .int b]) rfl ?_
              refine g_brT (c := (0 : Int32) ≤ b) (t := 33) (f := 22) (L' := [some (.ref 281), some (.int 2), some (.int b), some (.int c)]) (st' := []) rfl (x_Tle (u := 0) (l := 0) (by decide) p9 (by decide)) ?_
              refine g_n 1 (pc' := 34) (L' := [some (.ref 281), some (.int 2), some (.int b), some (.int c)]) (st' := [.int (-1)]) rfl ?_
              exact g_ret (ins := .ireturn) (len := 1) (r := (some (.int (-1)))) rfl rfl rfl ⟨_, rfl, rfl, (x_sv_rf _)⟩
            · have q20 : ¬ a = 2 := h18
              have p21 : 3 ≤ a.toInt := x_lo_ne q20 p17 (by decide)
              by_cases h22 : a = 3
              · have e23 : a = 3 := h22
                subst e23
                refine g_aa (i := 3) (a := 1) (n := 8) (v := 17) rfl rfl (by decide) (x_at (x_f1 hF) (k := 3) rfl) ?_
                refine g_n 1 (pc' := 21) (L' := [some (.ref 0), some (.int 3), some (.int b), some (.int c)]) (st' := [.int 0, .int b]) rfl ?_
                refine g_brT (c := (0 : Int32) ≤ b) (t := 35) (f := 24) (L' := [some (.ref 0), some (.int 3), some (.int b), some (.int c)]) (st' := []) rfl (x_Tle (u := 0) (l := 0) (by decide) p9 (by decide)) ?_
                refine g_n 1 (pc' := 36) (L' := [some (.ref 0), some (.int 3), some (.int b), some (.int c)]) (st' := [.int (-1)]) rfl ?_
                refine g_ret (ins := .ireturn) (len := 1) (r := (some (.int (-1)))) rfl rfl rfl ?_
                refine ⟨⟨_, rfl⟩, ?_⟩
                refine g_in (M := x_M419) (L := [some (.ref 281), some (.int 3), some (.int b), some (.int c)]) x_pl419 rfl ?_
                refine g_n 2 (pc' := 2) (L' := [some (.ref 281), some (.int 3), some (.int b), some (.int c)]) (st' := [.int 3, .ref 281]) rfl ?_
                refine g_call (ins := .invokevirtual 671) (len := 3) (j := 411) (as := [.ref 281, .int 3]) (rest := []) rfl rfl rfl rfl (fun _ => rfl) rfl ?_
                refine g_in (M := x_M411) (L := [some (.ref 281), some (.int 3)]) x_pl411 rfl ?_
                refine g_n 7 (pc' := 15) (L' := [some (.ref 281), some (.int 3)]) (st' := [.int 1]) rfl ?_
                refine g_ret (ins := .ireturn) (len := 1) (r := (some (.int 1))) rfl rfl rfl ?_
                refine g_n 2 (pc' := 9) (L' := [some (.ref 281), some (.int 3), some (.int b), some (.int c)]) (st' := [.int b]) rfl ?_
                refine g_brF (c := b < (0 : Int32)) (t := 33) (f := 12) (L' := [some (.ref 281), some (.int 3), some (.int b), some (.int c)]) (st' := []) rfl (x_Flt (l := 0) (u := 0) p9 (by decide) (by decide)) ?_
                refine g_n 5 (pc' := 19) (L' := [some (.ref 281), some (.int 3), some (.int b), some (.int c)]) (st' := [.int 0, .int b]) rfl ?_
                refine g_brT (c := (0 : Int32) ≤ b) (t := 33) (f := 22) (L' := [some (.ref 281), some (.int 3), some (.int b), some (.int c)]) (st' := []) rfl (x_Tle (u := 0) (l := 0) (by decide) p9 (by decide)) ?_
                refine g_n 1 (pc' := 34) (L' := [some (.ref 281), some (.int 3), some (.int b), some (.int c)]) (st' := [.int (-1)]) rfl ?_
                exact g_ret (ins := .ireturn) (len := 1) (r := (some (.int (-1)))) rfl rfl rfl ⟨_, rfl, rfl, (x_sv_rf _)⟩
              · have q24 : ¬ a = 3 := h22
                have p25 : 4 ≤ a.toInt := x_lo_ne q24 p21 (by decide)
                by_cases h26 : a = 4
                · have e27 : a = 4 := h26
                  subst e27
                  refine g_aa (i := 4) (a := 1) (n := 8) (v := 19) rfl rfl (by decide) (x_at (x_f1 hF) (k := 4) rfl) ?_
                  refine g_n 1 (pc' := 21) (L' := [some (.ref 0), some (.int 4), some (.int b), some (.int c)]) (st' := [.int 0, .int b]) rfl ?_
                  refine g_brT (c := (0 : Int32) ≤ b) (t := 35) (f := 24) (L' := [some (.ref 0), some (.int 4), some (.int b), some (.int c)]) (st' := []) rfl (x_Tle (u := 0) (l := 0) (by decide) p9 (by decide)) ?_
                  refine g_n 1 (pc' := 36) (L' := [some (.ref 0), some (.int 4), some (.int b), some (.int c)]) (st' := [.int (-1)]) rfl ?_
                  refine g_ret (ins := .ireturn) (len := 1) (r := (some (.int (-1)))) rfl rfl rfl ?_
                  refine ⟨⟨_, rfl⟩, ?_⟩
                  refine g_in (M := x_M419) (L := [some (.ref 281), some (.int 4), some (.int b), some (.int c)]) x_pl419 rfl ?_
                  refine g_n 2 (pc' := 2) (L' := [some (.ref 281), some (.int 4), some (.int b), some (.int c)]) (st' := [.int 4, .ref 281]) rfl ?_
                  refine g_call (ins := .invokevirtual 671) (len := 3) (j := 411) (as := [.ref 281, .int 4]) (rest := []) rfl rfl rfl rfl (fun _ => rfl) rfl ?_
                  refine g_in (M := x_M411) (L := [some (.ref 281), some (.int 4)]) x_pl411 rfl ?_
                  refine g_n 7 (pc' := 15) (L' := [some (.ref 281), some (.int 4)]) (st' := [.int 1]) rfl ?_
                  refine g_ret (ins := .ireturn) (len := 1) (r := (some (.int 1))) rfl rfl rfl ?_
                  refine g_n 2 (pc' := 9) (L' := [some (.ref 281), some (.int 4), some (.int b), some (.int c)]) (st' := [.int b]) rfl ?_
                  refine g_brF (c := b < (0 : Int32)) (t := 33) (f := 12) (L' := [some (.ref 281), some (.int 4), some (.int b), some (.int c)]) (st' := []) rfl (x_Flt (l := 0) (u := 0) p9 (by decide) (by decide)) ?_
                  refine g_n 5 (pc' := 19) (L' := [some (.ref 281), some (.int 4), some (.int b), some (.int c)]) (st' := [.int 0, .int b]) rfl ?_
                  refine g_brT (c := (0 : Int32) ≤ b) (t := 33) (f := 22) (L' := [some (.ref 281), some (.int 4), some (.int b), some (.int c)]) (st' := []) rfl (x_Tle (u := 0) (l := 0) (by decide) p9 (by decide)) ?_
                  refine g_n 1 (pc' := 34) (L' := [some (.ref 281), some (.int 4), some (.int b), some (.int c)]) (st' := [.int (-1)]) rfl ?_
                  exact g_ret (ins := .ireturn) (len := 1) (r := (some (.int (-1)))) rfl rfl rfl ⟨_, rfl, rfl, (x_sv_rf _)⟩
                · have q28 : ¬ a = 4 := h26
                  have p29 : 5 ≤ a.toInt := x_lo_ne q28 p25 (by decide)
                  by_cases h30 : a = 5
                  · have e31 : a = 5 := h30
                    subst e31
                    refine g_aa (i := 5) (a := 1) (n := 8) (v := 21) rfl rfl (by decide) (x_at (x_f1 hF) (k := 5) rfl) ?_
                    refine g_n 1 (pc' := 21) (L' := [some (.ref 0), some (.int 5), some (.int b), some (.int c)]) (st' := [.int 0, .int b]) rfl ?_
                    refine g_brT (c := (0 : Int32) ≤ b) (t := 35) (f := 24) (L' := [some (.ref 0), some (.int 5), some (.int b), some (.int c)]) (st' := []) rfl (x_Tle (u := 0) (l := 0) (by decide) p9 (by decide)) ?_
                    refine g_n 1 (pc' := 36) (L' := [some (.ref 0), some (.int 5), some (.int b), some (.int c)]) (st' := [.int (-1)]) rfl ?_
                    refine g_ret (ins := .ireturn) (len := 1) (r := (some (.int (-1)))) rfl rfl rfl ?_
                    refine ⟨⟨_, rfl⟩, ?_⟩
                    refine g_in (M := x_M419) (L := [some (.ref 281), some (.int 5), some (.int b), some (.int c)]) x_pl419 rfl ?_
                    refine g_n 2 (pc' := 2) (L' := [some (.ref 281), some (.int 5), some (.int b), some (.int c)]) (st' := [.int 5, .ref 281]) rfl ?_
                    refine g_call (ins := .invokevirtual 671) (len := 3) (j := 411) (as := [.ref 281, .int 5]) (rest := []) rfl rfl rfl rfl (fun _ => rfl) rfl ?_
                    refine g_in (M := x_M411) (L := [some (.ref 281), some (.int 5)]) x_pl411 rfl ?_
                    refine g_n 7 (pc' := 15) (L' := [some (.ref 281), some (.int 5)]) (st' := [.int 1]) rfl ?_
                    refine g_ret (ins := .ireturn) (len := 1) (r := (some (.int 1))) rfl rfl rfl ?_
                    refine g_n 2 (pc' := 9) (L' := [some (.ref 281), some (.int 5), some (.int b), some (.int c)]) (st' := [.int b]) rfl ?_
                    refine g_brF (c := b < (0 : Int32)) (t := 33) (f := 12) (L' := [some (.ref 281), some (.int 5), some (.int b), some (.int c)]) (st' := []) rfl (x_Flt (l := 0) (u := 0) p9 (by decide) (by decide)) ?_
                    refine g_n 5 (pc' := 19) (L' := [some (.ref 281), some (.int 5), some (.int b), some (.int c)]) (st' := [.int 0, .int b]) rfl ?_
                    refine g_brT (c := (0 : Int32) ≤ b) (t := 33) (f := 22) (L' := [some (.ref 281), some (.int 5), some (.int b), some (.int c)]) (st' := []) rfl (x_Tle (u := 0) (l := 0) (by decide) p9 (by decide)) ?_
                    refine g_n 1 (pc' := 34) (L' := [some (.ref 281), some (.int 5), some (.int b), some (.int c)]) (st' := [.int (-1)]) rfl ?_
                    exact g_ret (ins := .ireturn) (len := 1) (r := (some (.int (-1)))) rfl rfl rfl ⟨_, rfl, rfl, (x_sv_rf _)⟩
                  · have q32 : ¬ a = 5 := h30
                    have p33 : 6 ≤ a.toInt := x_lo_ne q32 p29 (by decide)
                    by_cases h34 : a = 6
                    · have e35 : a = 6 := h34
                      subst e35
                      refine g_aa (i := 6) (a := 1) (n := 8) (v := 23) rfl rfl (by decide) (x_at (x_f1 hF) (k := 6) rfl) ?_
                      refine g_n 1 (pc' := 21) (L' := [some (.ref 0), some (.int 6), some (.int b), some (.int c)]) (st' := [.int 0, .int b]) rfl ?_
                      refine g_brT (c := (0 : Int32) ≤ b) (t := 35) (f := 24) (L' := [some (.ref 0), some (.int 6), some (.int b), some (.int c)]) (st' := []) rfl (x_Tle (u := 0) (l := 0) (by decide) p9 (by decide)) ?_
                      refine g_n 1 (pc' := 36) (L' := [some (.ref 0), some (.int 6), some (.int b), some (.int c)]) (st' := [.int (-1)]) rfl ?_
                      refine g_ret (ins := .ireturn) (len := 1) (r := (some (.int (-1)))) rfl rfl rfl ?_
                      refine ⟨⟨_, rfl⟩, ?_⟩
                      refine g_in (M := x_M419) (L := [some (.ref 281), some (.int 6), some (.int b), some (.int c)]) x_pl419 rfl ?_
                      refine g_n 2 (pc' := 2) (L' := [some (.ref 281), some (.int 6), some (.int b), some (.int c)]) (st' := [.int 6, .ref 281]) rfl ?_
                      refine g_call (ins := .invokevirtual 671) (len := 3) (j := 411) (as := [.ref 281, .int 6]) (rest := []) rfl rfl rfl rfl (fun _ => rfl) rfl ?_
                      refine g_in (M := x_M411) (L := [some (.ref 281), some (.int 6)]) x_pl411 rfl ?_
                      refine g_n 7 (pc' := 15) (L' := [some (.ref 281), some (.int 6)]) (st' := [.int 1]) rfl ?_
                      refine g_ret (ins := .ireturn) (len := 1) (r := (some (.int 1))) rfl rfl rfl ?_
                      refine g_n 2 (pc' := 9) (L' := [some (.ref 281), some (.int 6), some (.int b), some (.int c)]) (st' := [.int b]) rfl ?_
                      refine g_brF (c := b < (0 : Int32)) (t := 33) (f := 12) (L' := [some (.ref 281), some (.int 6), some (.int b), some (.int c)]) (st' := []) rfl (x_Flt (l := 0) (u := 0) p9 (by decide) (by decide)) ?_
                      refine g_n 5 (pc' := 19) (L' := [some (.ref 281), some (.int 6), some (.int b), some (.int c)]) (st' := [.int 0, .int b]) rfl ?_
                      refine g_brT (c := (0 : Int32) ≤ b) (t := 33) (f := 22) (L' := [some (.ref 281), some (.int 6), some (.int b), some (.int c)]) (st' := []) rfl (x_Tle (u := 0) (l := 0) (by decide) p9 (by decide)) ?_
                      refine g_n 1 (pc' := 34) (L' := [some (.ref 281), some (.int 6), some (.int b), some (.int c)]) (st' := [.int (-1)]) rfl ?_
                      exact g_ret (ins := .ireturn) (len := 1) (r := (some (.int (-1)))) rfl rfl rfl ⟨_, rfl, rfl, (x_sv_rf _)⟩
                    · have q36 : ¬ a = 6 := h34
                      have p37 : 7 ≤ a.toInt := x_lo_ne q36 p33 (by decide)
                      have e38 : a = 7 := x_sing p37 p6 (by decide)
                      subst e38
                      refine g_aa (i := 7) (a := 1) (n := 8) (v := 25) rfl rfl (by decide) (x_at (x_f1 hF) (k := 7) rfl) ?_
                      refine g_n 1 (pc' := 21) (L' := [some (.ref 0), some (.int 7), some (.int b), some (.int c)]) (st' := [.int 0, .int b]) rfl ?_
                      refine g_brT (c := (0 : Int32) ≤ b) (t := 35) (f := 24) (L' := [some (.ref 0), some (.int 7), some (.int b), some (.int c)]) (st' := []) rfl (x_Tle (u := 0) (l := 0) (by decide) p9 (by decide)) ?_
                      refine g_n 1 (pc' := 36) (L' := [some (.ref 0), some (.int 7), some (.int b), some (.int c)]) (st' := [.int (-1)]) rfl ?_
                      refine g_ret (ins := .ireturn) (len := 1) (r := (some (.int (-1)))) rfl rfl rfl ?_
                      refine ⟨⟨_, rfl⟩, ?_⟩
                      refine g_in (M := x_M419) (L := [some (.ref 281), some (.int 7), some (.int b), some (.int c)]) x_pl419 rfl ?_
                      refine g_n 2 (pc' := 2) (L' := [some (.ref 281), some (.int 7), some (.int b), some (.int c)]) (st' := [.int 7, .ref 281]) rfl ?_
                      refine g_call (ins := .invokevirtual 671) (len := 3) (j := 411) (as := [.ref 281, .int 7]) (rest := []) rfl rfl rfl rfl (fun _ => rfl) rfl ?_
                      refine g_in (M := x_M411) (L := [some (.ref 281), some (.int 7)]) x_pl411 rfl ?_
                      refine g_n 7 (pc' := 15) (L' := [some (.ref 281), some (.int 7)]) (st' := [.int 1]) rfl ?_
                      refine g_ret (ins := .ireturn) (len := 1) (r := (some (.int 1))) rfl rfl rfl ?_
                      refine g_n 2 (pc' := 9) (L' := [some (.ref 281), some (.int 7), some (.int b), some (.int c)]) (st' := [.int b]) rfl ?_
                      refine g_brF (c := b < (0 : Int32)) (t := 33) (f := 12) (L' := [some (.ref 281), some (.int 7), some (.int b), some (.int c)]) (st' := []) rfl (x_Flt (l := 0) (u := 0) p9 (by decide) (by decide)) ?_
                      refine g_n 5 (pc' := 19) (L' := [some (.ref 281), some (.int 7), some (.int b), some (.int c)]) (st' := [.int 0, .int b]) rfl ?_
                      refine g_brT (c := (0 : Int32) ≤ b) (t := 33) (f := 22) (L' := [some (.ref 281), some (.int 7), some (.int b), some (.int c)]) (st' := []) rfl (x_Tle (u := 0) (l := 0) (by decide) p9 (by decide)) ?_
                      refine g_n 1 (pc' := 34) (L' := [some (.ref 281), some (.int 7), some (.int b), some (.int c)]) (st' := [.int (-1)]) rfl ?_
                      exact g_ret (ins := .ireturn) (len := 1) (r := (some (.int (-1)))) rfl rfl rfl ⟨_, rfl, rfl, (x_sv_rf _)⟩
set_option maxRecDepth 100000 in
set_option maxHeartbeats 4000000 in
theorem x_op7 {fi : Nat → Nat → Int32} {fl : Nat → Nat → Int64} {fr : Nat → Nat → Option Nat} (hF : x_F fl fr) (a b : Int32) : x_ev 30 359 [.ref 0, .int a, .int b] (x_W fi fl fr) fun r S1 => (∃ fs, x_obj S1 281 = some (12, fs)) ∧ x_ev 30 420 [.ref 281, .int a, .int b] S1 (x_finI (x_W fi fl fr) r) := by
  refine g_in (M := x_M359) (L := [some (.ref 0), some (.int a), some (.int b)]) x_pl359 rfl ?_
  refine g_n 1 (pc' := 1) (L' := [some (.ref 0), some (.int a), some (.int b)]) (st' := [.int a]) rfl ?_
  refine g_call (ins := .invokestatic 150) (len := 3) (j := 347) (as := [.int a]) (rest := []) rfl rfl rfl rfl (fun _ => rfl) rfl ?_
  refine g_in (M := x_M347) (L := [some (.int a)]) x_pl347 rfl ?_
  refine g_n 1 (pc' := 1) (L' := [some (.int a)]) (st' := [.int a]) rfl ?_
  refine g_br (c := a < (0 : Int32)) (t := 14) (f := 4) (L' := [some (.int a)]) (st' := []) rfl (fun h1 => ?_) (fun h1 => ?_)
  · have p2 : a.toInt ≤ -1 := x_up_lt h1 (by decide)
    refine g_n 1 (pc' := 15) (L' := [some (.int a)]) (st' := [.int 0]) rfl ?_
    refine g_ret (ins := .ireturn) (len := 1) (r := (some (.int 0))) rfl rfl rfl ?_
    refine g_n 2 (pc' := 15) (L' := [some (.ref 0), some (.int a), some (.int b)]) (st' := [.int (-1)]) rfl ?_
    refine g_ret (ins := .ireturn) (len := 1) (r := (some (.int (-1)))) rfl rfl rfl ?_
    refine ⟨⟨_, rfl⟩, ?_⟩
    refine g_in (M := x_M420) (L := [some (.ref 281), some (.int a), some (.int b), none, none]) x_pl420 rfl ?_
    refine g_n 2 (pc' := 2) (L' := [some (.ref 281), some (.int a), some (.int b), none, none]) (st' := [.int a, .ref 281]) rfl ?_
    refine g_call (ins := .invokevirtual 671) (len := 3) (j := 411) (as := [.ref 281, .int a]) (rest := []) rfl rfl rfl rfl (fun _ => rfl) rfl ?_
    refine g_in (M := x_M411) (L := [some (.ref 281), some (.int a)]) x_pl411 rfl ?_
    refine g_n 1 (pc' := 1) (L' := [some (.ref 281), some (.int a)]) (st' := [.int a]) rfl ?_
    refine g_brT (c := a < (0 : Int32)) (t := 14) (f := 4) (L' := [some (.ref 281), some (.int a)]) (st' := []) rfl (x_Tlt (u := -1) (l := 0) p2 (by decide) (by decide)) ?_
    refine g_n 1 (pc' := 15) (L' := [some (.ref 281), some (.int a)]) (st' := [.int 0]) rfl ?_
    refine g_ret (ins := .ireturn) (len := 1) (r := (some (.int 0))) rfl rfl rfl ?_
    refine g_n 2 (pc' := 17) (L' := [some (.ref 281), some (.int a), some (.int b), none, none]) (st' := [.int (-1)]) rfl ?_
    exact g_ret (ins := .ireturn) (len := 1) (r := (some (.int (-1)))) rfl rfl rfl ⟨_, rfl, rfl, (x_sv_rf _)⟩
  · have p3 : 0 ≤ a.toInt := x_lo_le (x_nlt h1) (by decide)
    refine g_n 2 (pc' := 7) (L' := [some (.int a)]) (st' := [.int 8, .int a]) rfl ?_
    refine g_br (c := (8 : Int32) ≤ a) (t := 14) (f := 10) (L' := [some (.int a)]) (st' := []) rfl (fun h4 => ?_) (fun h4 => ?_)
    · have p5 : 8 ≤ a.toInt := x_lo_le h4 (by decide)
      refine g_n 1 (pc' := 15) (L' := [some (.int a)]) (st' := [.int 0]) rfl ?_
      refine g_ret (ins := .ireturn) (len := 1) (r := (some (.int 0))) rfl rfl rfl ?_
      refine g_n 2 (pc' := 15) (L' := [some (.ref 0), some (.int a), some (.int b)]) (st' := [.int (-1)]) rfl ?_
      refine g_ret (ins := .ireturn) (len := 1) (r := (some (.int (-1)))) rfl rfl rfl ?_
      refine ⟨⟨_, rfl⟩, ?_⟩
      refine g_in (M := x_M420) (L := [some (.ref 281), some (.int a), some (.int b), none, none]) x_pl420 rfl ?_
      refine g_n 2 (pc' := 2) (L' := [some (.ref 281), some (.int a), some (.int b), none, none]) (st' := [.int a, .ref 281]) rfl ?_
      refine g_call (ins := .invokevirtual 671) (len := 3) (j := 411) (as := [.ref 281, .int a]) (rest := []) rfl rfl rfl rfl (fun _ => rfl) rfl ?_
      refine g_in (M := x_M411) (L := [some (.ref 281), some (.int a)]) x_pl411 rfl ?_
      refine g_n 1 (pc' := 1) (L' := [some (.ref 281), some (.int a)]) (st' := [.int a]) rfl ?_
      refine g_brF (c := a < (0 : Int32)) (t := 14) (f := 4) (L' := [some (.ref 281), some (.int a)]) (st' := []) rfl (x_Flt (l := 8) (u := 0) p5 (by decide) (by decide)) ?_
      refine g_n 2 (pc' := 7) (L' := [some (.ref 281), some (.int a)]) (st' := [.int 8, .int a]) rfl ?_
      refine g_brT (c := (8 : Int32) ≤ a) (t := 14) (f := 10) (L' := [some (.ref 281), some (.int a)]) (st' := []) rfl (x_Tle (u := 8) (l := 8) (by decide) p5 (by decide)) ?_
      refine g_n 1 (pc' := 15) (L' := [some (.ref 281), some (.int a)]) (st' := [.int 0]) rfl ?_
      refine g_ret (ins := .ireturn) (len := 1) (r := (some (.int 0))) rfl rfl rfl ?_
      refine g_n 2 (pc' := 17) (L' := [some (.ref 281), some (.int a), some (.int b), none, none]) (st' := [.int (-1)]) rfl ?_
      exact g_ret (ins := .ireturn) (len := 1) (r := (some (.int (-1)))) rfl rfl rfl ⟨_, rfl, rfl, (x_sv_rf _)⟩
    · have p6 : a.toInt ≤ 7 := x_up_lt (x_nle h4) (by decide)
      refine g_n 2 (pc' := 15) (L' := [some (.int a)]) (st' := [.int 1]) rfl ?_
      refine g_ret (ins := .ireturn) (len := 1) (r := (some (.int 1))) rfl rfl rfl ?_
      refine g_n 2 (pc' := 8) (L' := [some (.ref 0), some (.int a), some (.int b)]) (st' := [.int b]) rfl ?_
      refine g_call (ins := .invokestatic 150) (len := 3) (j := 347) (as := [.int b]) (rest := []) rfl rfl rfl rfl (fun _ => rfl) rfl ?_
      refine g_in (M := x_M347) (L := [some (.int b)]) x_pl347 rfl ?_
      refine g_n 1 (pc' := 1) (L' := [some (.int b)]) (st' := [.int b]) rfl ?_
      refine g_br (c := b < (0 : Int32)) (t := 14) (f := 4) (L' := [some (.int b)]) (st' := []) rfl (fun h7 => ?_) (fun h7 => ?_)
      · have p8 : b.toInt ≤ -1 := x_up_lt h7 (by decide)
        refine g_n 1 (pc' := 15) (L' := [some (.int b)]) (st' := [.int 0]) rfl ?_
        refine g_ret (ins := .ireturn) (len := 1) (r := (some (.int 0))) rfl rfl rfl ?_
        refine g_n 2 (pc' := 15) (L' := [some (.ref 0), some (.int a), some (.int b)]) (st' := [.int (-1)]) rfl ?_
        refine g_ret (ins := .ireturn) (len := 1) (r := (some (.int (-1)))) rfl rfl rfl ?_
        refine ⟨⟨_, rfl⟩, ?_⟩
        refine g_in (M := x_M420) (L := [some (.ref 281), some (.int a), some (.int b), none, none]) x_pl420 rfl ?_
        refine g_n 2 (pc' := 2) (L' := [some (.ref 281), some (.int a), some (.int b), none, none]) (st' := [.int a, .ref 281]) rfl ?_
        refine g_call (ins := .invokevirtual 671) (len := 3) (j := 411) (as := [.ref 281, .int a]) (rest := []) rfl rfl rfl rfl (fun _ => rfl) rfl ?_
        refine g_in (M := x_M411) (L := [some (.ref 281), some (.int a)]) x_pl411 rfl ?_
        refine g_n 1 (pc' := 1) (L' := [some (.ref 281), some (.int a)]) (st' := [.int a]) rfl ?_
        refine g_brF (c := a < (0 : Int32)) (t := 14) (f := 4) (L' := [some (.ref 281), some (.int a)]) (st' := []) rfl (x_Flt (l := 0) (u := 0) p3 (by decide) (by decide)) ?_
        refine g_n 2 (pc' := 7) (L' := [some (.ref 281), some (.int a)]) (st' := [.int 8, .int a]) rfl ?_
        refine g_brF (c := (8 : Int32) ≤ a) (t := 14) (f := 10) (L' := [some (.ref 281), some (.int a)]) (st' := []) rfl (x_Fle (l := 8) (u := 7) (by decide) p6 (by decide)) ?_
        refine g_n 2 (pc' := 15) (L' := [some (.ref 281), some (.int a)]) (st' := [.int 1]) rfl ?_
        refine g_ret (ins := .ireturn) (len := 1) (r := (some (.int 1))) rfl rfl rfl ?_
        refine g_n 3 (pc' := 10) (L' := [some (.ref 281), some (.int a), some (.int b), none, none]) (st' := [.int b, .ref 281]) rfl ?_
        refine g_call (ins := .invokevirtual 671) (len := 3) (j := 411) (as := [.ref 281, .int b]) (rest := []) rfl rfl rfl rfl (fun _ => rfl) rfl ?_
        refine g_in (M := x_M411) (L := [some (.ref 281), some (.int b)]) x_pl411 rfl ?_
        refine g_n 1 (pc' := 1) (L' := [some (.ref 281), some (.int b)]) (st' := [.int b]) rfl ?_
        refine g_brT (c := b < (0 : Int32)) (t := 14) (f := 4) (L' := [some (.ref 281), some (.int b)]) (st' := []) rfl (x_Tlt (u := -1) (l := 0) p8 (by decide) (by decide)) ?_
        refine g_n 1 (pc' := 15) (L' := [some (.ref 281), some (.int b)]) (st' := [.int 0]) rfl ?_
        refine g_ret (ins := .ireturn) (len := 1) (r := (some (.int 0))) rfl rfl rfl ?_
        refine g_n 2 (pc' := 17) (L' := [some (.ref 281), some (.int a), some (.int b), none, none]) (st' := [.int (-1)]) rfl ?_
        exact g_ret (ins := .ireturn) (len := 1) (r := (some (.int (-1)))) rfl rfl rfl ⟨_, rfl, rfl, (x_sv_rf _)⟩
      · have p9 : 0 ≤ b.toInt := x_lo_le (x_nlt h7) (by decide)
        refine g_n 2 (pc' := 7) (L' := [some (.int b)]) (st' := [.int 8, .int b]) rfl ?_
        refine g_br (c := (8 : Int32) ≤ b) (t := 14) (f := 10) (L' := [some (.int b)]) (st' := []) rfl (fun h10 => ?_) (fun h10 => ?_)
        · have p11 : 8 ≤ b.toInt := x_lo_le h10 (by decide)
          refine g_n 1 (pc' := 15) (L' := [some (.int b)]) (st' := [.int 0]) rfl ?_
          refine g_ret (ins := .ireturn) (len := 1) (r := (some (.int 0))) rfl rfl rfl ?_
          refine g_n 2 (pc' := 15) (L' := [some (.ref 0), some (.int a), some (.int b)]) (st' := [.int (-1)]) rfl ?_
          refine g_ret (ins := .ireturn) (len := 1) (r := (some (.int (-1)))) rfl rfl rfl ?_
          refine ⟨⟨_, rfl⟩, ?_⟩
          refine g_in (M := x_M420) (L := [some (.ref 281), some (.int a), some (.int b), none, none]) x_pl420 rfl ?_
          refine g_n 2 (pc' := 2) (L' := [some (.ref 281), some (.int a), some (.int b), none, none]) (st' := [.int a, .ref 281]) rfl ?_
          refine g_call (ins := .invokevirtual 671) (len := 3) (j := 411) (as := [.ref 281, .int a]) (rest := []) rfl rfl rfl rfl (fun _ => rfl) rfl ?_
          refine g_in (M := x_M411) (L := [some (.ref 281), some (.int a)]) x_pl411 rfl ?_
          refine g_n 1 (pc' := 1) (L' := [some (.ref 281), some (.int a)]) (st' := [.int a]) rfl ?_
          refine g_brF (c := a < (0 : Int32)) (t := 14) (f := 4) (L' := [some (.ref 281), some (.int a)]) (st' := []) rfl (x_Flt (l := 0) (u := 0) p3 (by decide) (by decide)) ?_
          refine g_n 2 (pc' := 7) (L' := [some (.ref 281), some (.int a)]) (st' := [.int 8, .int a]) rfl ?_
          refine g_brF (c := (8 : Int32) ≤ a) (t := 14) (f := 10) (L' := [some (.ref 281), some (.int a)]) (st' := []) rfl (x_Fle (l := 8) (u := 7) (by decide) p6 (by decide)) ?_
          refine g_n 2 (pc' := 15) (L' := [some (.ref 281), some (.int a)]) (st' := [.int 1]) rfl ?_
          refine g_ret (ins := .ireturn) (len := 1) (r := (some (.int 1))) rfl rfl rfl ?_
          refine g_n 3 (pc' := 10) (L' := [some (.ref 281), some (.int a), some (.int b), none, none]) (st' := [.int b, .ref 281]) rfl ?_
          refine g_call (ins := .invokevirtual 671) (len := 3) (j := 411) (as := [.ref 281, .int b]) (rest := []) rfl rfl rfl rfl (fun _ => rfl) rfl ?_
          refine g_in (M := x_M411) (L := [some (.ref 281), some (.int b)]) x_pl411 rfl ?_
          refine g_n 1 (pc' := 1) (L' := [some (.ref 281), some (.int b)]) (st' := [.int b]) rfl ?_
          refine g_brF (c := b < (0 : Int32)) (t := 14) (f := 4) (L' := [some (.ref 281), some (.int b)]) (st' := []) rfl (x_Flt (l := 8) (u := 0) p11 (by decide) (by decide)) ?_
          refine g_n 2 (pc' := 7) (L' := [some (.ref 281), some (.int b)]) (st' := [.int 8, .int b]) rfl ?_
          refine g_brT (c := (8 : Int32) ≤ b) (t := 14) (f := 10) (L' := [some (.ref 281), some (.int b)]) (st' := []) rfl (x_Tle (u := 8) (l := 8) (by decide) p11 (by decide)) ?_
          refine g_n 1 (pc' := 15) (L' := [some (.ref 281), some (.int b)]) (st' := [.int 0]) rfl ?_
          refine g_ret (ins := .ireturn) (len := 1) (r := (some (.int 0))) rfl rfl rfl ?_
          refine g_n 2 (pc' := 17) (L' := [some (.ref 281), some (.int a), some (.int b), none, none]) (st' := [.int (-1)]) rfl ?_
          exact g_ret (ins := .ireturn) (len := 1) (r := (some (.int (-1)))) rfl rfl rfl ⟨_, rfl, rfl, (x_sv_rf _)⟩
        · have p12 : b.toInt ≤ 7 := x_up_lt (x_nle h10) (by decide)
          refine g_n 2 (pc' := 15) (L' := [some (.int b)]) (st' := [.int 1]) rfl ?_
          refine g_ret (ins := .ireturn) (len := 1) (r := (some (.int 1))) rfl rfl rfl ?_
          refine g_n 4 (pc' := 21) (L' := [some (.ref 0), some (.int a), some (.int b)]) (st' := [.int a, .ref 1]) rfl ?_
          by_cases h13 : a = 0
          · have e14 : a = 0 := h13
            subst e14
            refine g_aa (i := 0) (a := 1) (n := 8) (v := 11) rfl rfl (by decide) (x_at (x_f1 hF) (k := 0) rfl) ?_
            refine g_n 4 (pc' := 28) (L' := [some (.ref 0), some (.int 0), some (.int b)]) (st' := [.int 0, .ref 1, .int 0, .ref 11]) rfl ?_
            refine g_aa (i := 0) (a := 1) (n := 8) (v := 11) rfl rfl (by decide) (x_at (x_f1 hF) (k := 0) rfl) ?_
            refine g_n 4 (pc' := 37) (L' := [some (.ref 0), some (.int 0), some (.int b)]) (st' := [.int b, .ref 1, .int 0, .int 0, .ref 11]) rfl ?_
            by_cases h15 : b = 0
            · have e16 : b = 0 := h15
              subst e16
              refine g_aa (i := 0) (a := 1) (n := 8) (v := 11) rfl rfl (by decide) (x_at (x_f1 hF) (k := 0) rfl) ?_
              refine g_n 4 (pc' := 44) (L' := [some (.ref 0), some (.int 0), some (.int 0)]) (st' := [.int 0, .ref 1, .int 0, .ref 11, .int 0, .int 0, .ref 11]) rfl ?_
              refine g_aa (i := 0) (a := 1) (n := 8) (v := 11) rfl rfl (by decide) (x_at (x_f1 hF) (k := 0) rfl) ?_
              refine g_n 1 (pc' := 48) (L' := [some (.ref 0), some (.int 0), some (.int 0)]) (st' := [.int 0, .int 0, .ref 11, .int 0, .int 0, .ref 11]) rfl ?_
              refine g_call (ins := .invokevirtual 169) (len := 3) (j := 15) (as := [.ref 11, .int 0, .int 0, .ref 11, .int 0, .int 0]) (rest := []) rfl rfl rfl rfl (fun _ => rfl) rfl ?_
              refine g_in (M := x_M15) (L := [some (.ref 11), some (.int 0), some (.int 0), some (.ref 11), some (.int 0), some (.int 0), none, none, none, none]) x_pl15 rfl ?_
              refine g_n 10 (pc' := 106) (L' := [some (.ref 11), some (.int 0), some (.int 0), some (.ref 11), some (.int 0), some (.int 0), some (.int 0), none, none, none]) (st' := [.int 1]) rfl ?_
              refine g_ret (ins := .ireturn) (len := 1) (r := (some (.int 1))) rfl rfl rfl ?_
              refine g_n 3 (pc' := 59) (L' := [some (.ref 0), some (.int 0), some (.int 0)]) (st' := [.int 1]) rfl ?_
              refine g_ret (ins := .ireturn) (len := 1) (r := (some (.int 1))) rfl rfl rfl ?_
              refine ⟨⟨_, rfl⟩, ?_⟩
              refine g_in (M := x_M420) (L := [some (.ref 281), some (.int 0), some (.int 0), none, none]) x_pl420 rfl ?_
              refine g_n 2 (pc' := 2) (L' := [some (.ref 281), some (.int 0), some (.int 0), none, none]) (st' := [.int 0, .ref 281]) rfl ?_
              refine g_call (ins := .invokevirtual 671) (len := 3) (j := 411) (as := [.ref 281, .int 0]) (rest := []) rfl rfl rfl rfl (fun _ => rfl) rfl ?_
              refine g_in (M := x_M411) (L := [some (.ref 281), some (.int 0)]) x_pl411 rfl ?_
              refine g_n 7 (pc' := 15) (L' := [some (.ref 281), some (.int 0)]) (st' := [.int 1]) rfl ?_
              refine g_ret (ins := .ireturn) (len := 1) (r := (some (.int 1))) rfl rfl rfl ?_
              refine g_n 3 (pc' := 10) (L' := [some (.ref 281), some (.int 0), some (.int 0), none, none]) (st' := [.int 0, .ref 281]) rfl ?_
              refine g_call (ins := .invokevirtual 671) (len := 3) (j := 411) (as := [.ref 281, .int 0]) (rest := []) rfl rfl rfl rfl (fun _ => rfl) rfl ?_
              refine g_in (M := x_M411) (L := [some (.ref 281), some (.int 0)]) x_pl411 rfl ?_
              refine g_n 7 (pc' := 15) (L' := [some (.ref 281), some (.int 0)]) (st' := [.int 1]) rfl ?_
              refine g_ret (ins := .ireturn) (len := 1) (r := (some (.int 1))) rfl rfl rfl ?_
              refine g_n 25 (pc' := 107) (L' := [some (.ref 281), some (.int 0), some (.int 0), some (.int 1), some (.int 0)]) (st' := [.int 1]) rfl ?_
              exact g_ret (ins := .ireturn) (len := 1) (r := (some (.int 1))) rfl rfl rfl ⟨_, rfl, rfl, (x_sv_rf _)⟩
            · have q17 : ¬ b = 0 := h15
              have p18 : 1 ≤ b.toInt := x_lo_ne q17 p9 (by decide)
              by_cases h19 : b = 1
              · have e20 : b = 1 := h19
                subst e20
                refine g_aa (i := 1) (a := 1) (n := 8) (v := 13) rfl rfl (by decide) (x_at (x_f1 hF) (k := 1) rfl) ?_
                refine g_n 4 (pc' := 44) (L' := [some (.ref 0), some (.int 0), some (.int 1)]) (st' := [.int 1, .ref 1, .int 0, .ref 13, .int 0, .int 0, .ref 11]) rfl ?_
                refine g_aa (i := 1) (a := 1) (n := 8) (v := 13) rfl rfl (by decide) (x_at (x_f1 hF) (k := 1) rfl) ?_
                refine g_n 1 (pc' := 48) (L' := [some (.ref 0), some (.int 0), some (.int 1)]) (st' := [.int 0, .int 0, .ref 13, .int 0, .int 0, .ref 11]) rfl ?_
                refine g_call (ins := .invokevirtual 169) (len := 3) (j := 15) (as := [.ref 11, .int 0, .int 0, .ref 13, .int 0, .int 0]) (rest := []) rfl rfl rfl rfl (fun _ => rfl) rfl ?_
                refine g_in (M := x_M15) (L := [some (.ref 11), some (.int 0), some (.int 0), some (.ref 13), some (.int 0), some (.int 0), none, none, none, none]) x_pl15 rfl ?_
                refine g_n 10 (pc' := 106) (L' := [some (.ref 11), some (.int 0), some (.int 0), some (.ref 13), some (.int 0), some (.int 0), some (.int 0), none, none, none]) (st' := [.int 1]) rfl ?_
                refine g_ret (ins := .ireturn) (len := 1) (r := (some (.int 1))) rfl rfl rfl ?_
                refine g_n 3 (pc' := 59) (L' := [some (.ref 0), some (.int 0), some (.int 1)]) (st' := [.int 1]) rfl ?_
                refine g_ret (ins := .ireturn) (len := 1) (r := (some (.int 1))) rfl rfl rfl ?_
                refine ⟨⟨_, rfl⟩, ?_⟩
                refine g_in (M := x_M420) (L := [some (.ref 281), some (.int 0), some (.int 1), none, none]) x_pl420 rfl ?_
                refine g_n 2 (pc' := 2) (L' := [some (.ref 281), some (.int 0), some (.int 1), none, none]) (st' := [.int 0, .ref 281]) rfl ?_
                refine g_call (ins := .invokevirtual 671) (len := 3) (j := 411) (as := [.ref 281, .int 0]) (rest := []) rfl rfl rfl rfl (fun _ => rfl) rfl ?_
                refine g_in (M := x_M411) (L := [some (.ref 281), some (.int 0)]) x_pl411 rfl ?_
                refine g_n 7 (pc' := 15) (L' := [some (.ref 281), some (.int 0)]) (st' := [.int 1]) rfl ?_
                refine g_ret (ins := .ireturn) (len := 1) (r := (some (.int 1))) rfl rfl rfl ?_
                refine g_n 3 (pc' := 10) (L' := [some (.ref 281), some (.int 0), some (.int 1), none, none]) (st' := [.int 1, .ref 281]) rfl ?_
                refine g_call (ins := .invokevirtual 671) (len := 3) (j := 411) (as := [.ref 281, .int 1]) (rest := []) rfl rfl rfl rfl (fun _ => rfl) rfl ?_
                refine g_in (M := x_M411) (L := [some (.ref 281), some (.int 1)]) x_pl411 rfl ?_
                refine g_n 7 (pc' := 15) (L' := [some (.ref 281), some (.int 1)]) (st' := [.int 1]) rfl ?_
                refine g_ret (ins := .ireturn) (len := 1) (r := (some (.int 1))) rfl rfl rfl ?_
                refine g_n 25 (pc' := 107) (L' := [some (.ref 281), some (.int 0), some (.int 1), some (.int 1), some (.int 0)]) (st' := [.int 1]) rfl ?_
                exact g_ret (ins := .ireturn) (len := 1) (r := (some (.int 1))) rfl rfl rfl ⟨_, rfl, rfl, (x_sv_rf _)⟩
              · have q21 : ¬ b = 1 := h19
                have p22 : 2 ≤ b.toInt := x_lo_ne q21 p18 (by decide)
                by_cases h23 : b = 2
                · have e24 : b = 2 := h23
                  subst e24
                  refine g_aa (i := 2) (a := 1) (n := 8) (v := 15) rfl rfl (by decide) (x_at (x_f1 hF) (k := 2) rfl) ?_
                  refine g_n 4 (pc' := 44) (L' := [some (.ref 0), some (.int 0), some (.int 2)]) (st' := [.int 2, .ref 1, .int 0, .ref 15, .int 0, .int 0, .ref 11]) rfl ?_
                  refine g_aa (i := 2) (a := 1) (n := 8) (v := 15) rfl rfl (by decide) (x_at (x_f1 hF) (k := 2) rfl) ?_
                  refine g_n 1 (pc' := 48) (L' := [some (.ref 0), some (.int 0), some (.int 2)]) (st' := [.int 0, .int 0, .ref 15, .int 0, .int 0, .ref 11]) rfl ?_
                  refine g_call (ins := .invokevirtual 169) (len := 3) (j := 15) (as := [.ref 11, .int 0, .int 0, .ref 15, .int 0, .int 0]) (rest := []) rfl rfl rfl rfl (fun _ => rfl) rfl ?_
                  refine g_in (M := x_M15) (L := [some (.ref 11), some (.int 0), some (.int 0), some (.ref 15), some (.int 0), some (.int 0), none, none, none, none]) x_pl15 rfl ?_
                  refine g_n 10 (pc' := 106) (L' := [some (.ref 11), some (.int 0), some (.int 0), some (.ref 15), some (.int 0), some (.int 0), some (.int 0), none, none, none]) (st' := [.int 1]) rfl ?_
                  refine g_ret (ins := .ireturn) (len := 1) (r := (some (.int 1))) rfl rfl rfl ?_
                  refine g_n 3 (pc' := 59) (L' := [some (.ref 0), some (.int 0), some (.int 2)]) (st' := [.int 1]) rfl ?_
                  refine g_ret (ins := .ireturn) (len := 1) (r := (some (.int 1))) rfl rfl rfl ?_
                  refine ⟨⟨_, rfl⟩, ?_⟩
                  refine g_in (M := x_M420) (L := [some (.ref 281), some (.int 0), some (.int 2), none, none]) x_pl420 rfl ?_
                  refine g_n 2 (pc' := 2) (L' := [some (.ref 281), some (.int 0), some (.int 2), none, none]) (st' := [.int 0, .ref 281]) rfl ?_
                  refine g_call (ins := .invokevirtual 671) (len := 3) (j := 411) (as := [.ref 281, .int 0]) (rest := []) rfl rfl rfl rfl (fun _ => rfl) rfl ?_
                  refine g_in (M := x_M411) (L := [some (.ref 281), some (.int 0)]) x_pl411 rfl ?_
                  refine g_n 7 (pc' := 15) (L' := [some (.ref 281), some (.int 0)]) (st' := [.int 1]) rfl ?_
                  refine g_ret (ins := .ireturn) (len := 1) (r := (some (.int 1))) rfl rfl rfl ?_
                  refine g_n 3 (pc' := 10) (L' := [some (.ref 281), some (.int 0), some (.int 2), none, none]) (st' := [.int 2, .ref 281]) rfl ?_
                  refine g_call (ins := .invokevirtual 671) (len := 3) (j := 411) (as := [.ref 281, .int 2]) (rest := []) rfl rfl rfl rfl (fun _ => rfl) rfl ?_
                  refine g_in (M := x_M411) (L := [some (.ref 281), some (.int 2)]) x_pl411 rfl ?_
                  refine g_n 7 (pc' := 15) (L' := [some (.ref 281), some (.int 2)]) (st' := [.int 1]) rfl ?_
                  refine g_ret (ins := .ireturn) (len := 1) (r := (some (.int 1))) rfl rfl rfl ?_
                  refine g_n 25 (pc' := 107) (L' := [some (.ref 281), some (.int 0), some (.int 2), some (.int 1), some (.int 0)]) (st' := [.int 1]) rfl ?_
                  exact g_ret (ins := .ireturn) (len := 1) (r := (some (.int 1))) rfl rfl rfl ⟨_, rfl, rfl, (x_sv_rf _)⟩
                · have q25 : ¬ b = 2 := h23
                  have p26 : 3 ≤ b.toInt := x_lo_ne q25 p22 (by decide)
                  by_cases h27 : b = 3
                  · have e28 : b = 3 := h27
                    subst e28
                    refine g_aa (i := 3) (a := 1) (n := 8) (v := 17) rfl rfl (by decide) (x_at (x_f1 hF) (k := 3) rfl) ?_
                    refine g_n 4 (pc' := 44) (L' := [some (.ref 0), some (.int 0), some (.int 3)]) (st' := [.int 3, .ref 1, .int 0, .ref 17, .int 0, .int 0, .ref 11]) rfl ?_
                    refine g_aa (i := 3) (a := 1) (n := 8) (v := 17) rfl rfl (by decide) (x_at (x_f1 hF) (k := 3) rfl) ?_
                    refine g_n 1 (pc' := 48) (L' := [some (.ref 0), some (.int 0), some (.int 3)]) (st' := [.int 0, .int 0, .ref 17, .int 0, .int 0, .ref 11]) rfl ?_
                    refine g_call (ins := .invokevirtual 169) (len := 3) (j := 15) (as := [.ref 11, .int 0, .int 0, .ref 17, .int 0, .int 0]) (rest := []) rfl rfl rfl rfl (fun _ => rfl) rfl ?_
                    refine g_in (M := x_M15) (L := [some (.ref 11), some (.int 0), some (.int 0), some (.ref 17), some (.int 0), some (.int 0), none, none, none, none]) x_pl15 rfl ?_
                    refine g_n 10 (pc' := 106) (L' := [some (.ref 11), some (.int 0), some (.int 0), some (.ref 17), some (.int 0), some (.int 0), some (.int 0), none, none, none]) (st' := [.int 1]) rfl ?_
                    refine g_ret (ins := .ireturn) (len := 1) (r := (some (.int 1))) rfl rfl rfl ?_
                    refine g_n 3 (pc' := 59) (L' := [some (.ref 0), some (.int 0), some (.int 3)]) (st' := [.int 1]) rfl ?_
                    refine g_ret (ins := .ireturn) (len := 1) (r := (some (.int 1))) rfl rfl rfl ?_
                    refine ⟨⟨_, rfl⟩, ?_⟩
                    refine g_in (M := x_M420) (L := [some (.ref 281), some (.int 0), some (.int 3), none, none]) x_pl420 rfl ?_
                    refine g_n 2 (pc' := 2) (L' := [some (.ref 281), some (.int 0), some (.int 3), none, none]) (st' := [.int 0, .ref 281]) rfl ?_
                    refine g_call (ins := .invokevirtual 671) (len := 3) (j := 411) (as := [.ref 281, .int 0]) (rest := []) rfl rfl rfl rfl (fun _ => rfl) rfl ?_
                    refine g_in (M := x_M411) (L := [some (.ref 281), some (.int 0)]) x_pl411 rfl ?_
                    refine g_n 7 (pc' := 15) (L' := [some (.ref 281), some (.int 0)]) (st' := [.int 1]) rfl ?_
                    refine g_ret (ins := .ireturn) (len := 1) (r := (some (.int 1))) rfl rfl rfl ?_
                    refine g_n 3 (pc' := 10) (L' := [some (.ref 281), some (.int 0), some (.int 3), none, none]) (st' := [.int 3, .ref 281]) rfl ?_
                    refine g_call (ins := .invokevirtual 671) (len := 3) (j := 411) (as := [.ref 281, .int 3]) (rest := []) rfl rfl rfl rfl (fun _ => rfl) rfl ?_
                    refine g_in (M := x_M411) (L := [some (.ref 281), some (.int 3)]) x_pl411 rfl ?_
                    refine g_n 7 (pc' := 15) (L' := [some (.ref 281), some (.int 3)]) (st' := [.int 1]) rfl ?_
                    refine g_ret (ins := .ireturn) (len := 1) (r := (some (.int 1))) rfl rfl rfl ?_
                    refine g_n 25 (pc' := 107) (L' := [some (.ref 281), some (.int 0), some (.int 3), some (.int 1), some (.int 0)]) (st' := [.int 1]) rfl ?_
                    exact g_ret (ins := .ireturn) (len := 1) (r := (some (.int 1))) rfl rfl rfl ⟨_, rfl, rfl, (x_sv_rf _)⟩
                  · have q29 : ¬ b = 3 := h27
                    have p30 : 4 ≤ b.toInt := x_lo_ne q29 p26 (by decide)
                    by_cases h31 : b = 4
                    · have e32 : b = 4 := h31
                      subst e32
                      refine g_aa (i := 4) (a := 1) (n := 8) (v := 19) rfl rfl (by decide) (x_at (x_f1 hF) (k := 4) rfl) ?_
                      refine g_n 4 (pc' := 44) (L' := [some (.ref 0), some (.int 0), some (.int 4)]) (st' := [.int 4, .ref 1, .int 0, .ref 19, .int 0, .int 0, .ref 11]) rfl ?_
                      refine g_aa (i := 4) (a := 1) (n := 8) (v := 19) rfl rfl (by decide) (x_at (x_f1 hF) (k := 4) rfl) ?_
                      refine g_n 1 (pc' := 48) (L' := [some (.ref 0), some (.int 0), some (.int 4)]) (st' := [.int 0, .int 0, .ref 19, .int 0, .int 0, .ref 11]) rfl ?_
                      refine g_call (ins := .invokevirtual 169) (len := 3) (j := 15) (as := [.ref 11, .int 0, .int 0, .ref 19, .int 0, .int 0]) (rest := []) rfl rfl rfl rfl (fun _ => rfl) rfl ?_
                      refine g_in (M := x_M15) (L := [some (.ref 11), some (.int 0), some (.int 0), some (.ref 19), some (.int 0), some (.int 0), none, none, none, none]) x_pl15 rfl ?_
                      refine g_n 10 (pc' := 106) (L' := [some (.ref 11), some (.int 0), some (.int 0), some (.ref 19), some (.int 0), some (.int 0), some (.int 0), none, none, none]) (st' := [.int 1]) rfl ?_
                      refine g_ret (ins := .ireturn) (len := 1) (r := (some (.int 1))) rfl rfl rfl ?_
                      refine g_n 3 (pc' := 59) (L' := [some (.ref 0), some (.int 0), some (.int 4)]) (st' := [.int 1]) rfl ?_
                      refine g_ret (ins := .ireturn) (len := 1) (r := (some (.int 1))) rfl rfl rfl ?_
                      refine ⟨⟨_, rfl⟩, ?_⟩
                      refine g_in (M := x_M420) (L := [some (.ref 281), some (.int 0), some (.int 4), none, none]) x_pl420 rfl ?_
                      refine g_n 2 (pc' := 2) (L' := [some (.ref 281), some (.int 0), some (.int 4), none, none]) (st' := [.int 0, .ref 281]) rfl ?_
                      refine g_call (ins := .invokevirtual 671) (len := 3) (j := 411) (as := [.ref 281, .int 0]) (rest := []) rfl rfl rfl rfl (fun _ => rfl) rfl ?_
                      refine g_in (M := x_M411) (L := [some (.ref 281), some (.int 0)]) x_pl411 rfl ?_
                      refine g_n 7 (pc' := 15) (L' := [some (.ref 281), some (.int 0)]) (st' := [.int 1]) rfl ?_
                      refine g_ret (ins := .ireturn) (len := 1) (r := (some (.int 1))) rfl rfl rfl ?_
                      refine g_n 3 (pc' := 10) (L' := [some (.ref 281), some (.int 0), some (.int 4), none, none]) (st' := [.int 4, .ref 281]) rfl ?_
                      refine g_call (ins := .invokevirtual 671) (len := 3) (j := 411) (as := [.ref 281, .int 4]) (rest := []) rfl rfl rfl rfl (fun _ => rfl) rfl ?_
                      refine g_in (M := x_M411) (L := [some (.ref 281), some (.int 4)]) x_pl411 rfl ?_
                      refine g_n 7 (pc' := 15) (L' := [some (.ref 281), some (.int 4)]) (st' := [.int 1]) rfl ?_
                      refine g_ret (ins := .ireturn) (len := 1) (r := (some (.int 1))) rfl rfl rfl ?_
                      refine g_n 25 (pc' := 107) (L' := [some (.ref 281), some (.int 0), some (.int 4), some (.int 1), some (.int 0)]) (st' := [.int 1]) rfl ?_
                      exact g_ret (ins := .ireturn) (len := 1) (r := (some (.int 1))) rfl rfl rfl ⟨_, rfl, rfl, (x_sv_rf _)⟩
                    · have q33 : ¬ b = 4 := h31
                      have p34 : 5 ≤ b.toInt := x_lo_ne q33 p30 (by decide)
                      by_cases h35 : b = 5
                      · have e36 : b = 5 := h35
                        subst e36
                        refine g_aa (i := 5) (a := 1) (n := 8) (v := 21) rfl rfl (by decide) (x_at (x_f1 hF) (k := 5) rfl) ?_
                        refine g_n 4 (pc' := 44) (L' := [some (.ref 0), some (.int 0), some (.int 5)]) (st' := [.int 5, .ref 1, .int 0, .ref 21, .int 0, .int 0, .ref 11]) rfl ?_
                        refine g_aa (i := 5) (a := 1) (n := 8) (v := 21) rfl rfl (by decide) (x_at (x_f1 hF) (k := 5) rfl) ?_
                        refine g_n 1 (pc' := 48) (L' := [some (.ref 0), some (.int 0), some (.int 5)]) (st' := [.int 0, .int 0, .ref 21, .int 0, .int 0, .ref 11]) rfl ?_
                        refine g_call (ins := .invokevirtual 169) (len := 3) (j := 15) (as := [.ref 11, .int 0, .int 0, .ref 21, .int 0, .int 0]) (rest := []) rfl rfl rfl rfl (fun _ => rfl) rfl ?_
                        refine g_in (M := x_M15) (L := [some (.ref 11), some (.int 0), some (.int 0), some (.ref 21), some (.int 0), some (.int 0), none, none, none, none]) x_pl15 rfl ?_
                        refine g_n 10 (pc' := 106) (L' := [some (.ref 11), some (.int 0), some (.int 0), some (.ref 21), some (.int 0), some (.int 0), some (.int 0), none, none, none]) (st' := [.int 1]) rfl ?_
                        refine g_ret (ins := .ireturn) (len := 1) (r := (some (.int 1))) rfl rfl rfl ?_
                        refine g_n 3 (pc' := 59) (L' := [some (.ref 0), some (.int 0), some (.int 5)]) (st' := [.int 1]) rfl ?_
                        refine g_ret (ins := .ireturn) (len := 1) (r := (some (.int 1))) rfl rfl rfl ?_
                        refine ⟨⟨_, rfl⟩, ?_⟩
                        refine g_in (M := x_M420) (L := [some (.ref 281), some (.int 0), some (.int 5), none, none]) x_pl420 rfl ?_
                        refine g_n 2 (pc' := 2) (L' := [some (.ref 281), some (.int 0), some (.int 5), none, none]) (st' := [.int 0, .ref 281]) rfl ?_
                        refine g_call (ins := .invokevirtual 671) (len := 3) (j := 411) (as := [.ref 281, .int 0]) (rest := []) rfl rfl rfl rfl (fun _ => rfl) rfl ?_
                        refine g_in (M := x_M411) (L := [some (.ref 281), some (.int 0)]) x_pl411 rfl ?_
                        refine g_n 7 (pc' := 15) (L' := [some (.ref 281), some (.int 0)]) (st' := [.int 1]) rfl ?_
                        refine g_ret (ins := .ireturn) (len := 1) (r := (some (.int 1))) rfl rfl rfl ?_
                        refine g_n 3 (pc' := 10) (L' := [some (.ref 281), some (.int 0), some (.int 5), none, none]) (st' := [.int 5, .ref 281]) rfl ?_
                        refine g_call (ins := .invokevirtual 671) (len := 3) (j := 411) (as := [.ref 281, .int 5]) (rest := []) rfl rfl rfl rfl (fun _ => rfl) rfl ?_
                        refine g_in (M := x_M411) (L := [some (.ref 281), some (.int 5)]) x_pl411 rfl ?_
                        refine g_n 7 (pc' := 15) (L' := [some (.ref 281), some (.int 5)]) (st' := [.int 1]) rfl ?_
                        refine g_ret (ins := .ireturn) (len := 1) (r := (some (.int 1))) rfl rfl rfl ?_
                        refine g_n 25 (pc' := 107) (L' := [some (.ref 281), some (.int 0), some (.int 5), some (.int 1), some (.int 0)]) (st' := [.int 1]) rfl ?_
                        exact g_ret (ins := .ireturn) (len := 1) (r := (some (.int 1))) rfl rfl rfl ⟨_, rfl, rfl, (x_sv_rf _)⟩
                      · have q37 : ¬ b = 5 := h35
                        have p38 : 6 ≤ b.toInt := x_lo_ne q37 p34 (by decide)
                        by_cases h39 : b = 6
                        · have e40 : b = 6 := h39
                          subst e40
                          refine g_aa (i := 6) (a := 1) (n := 8) (v := 23) rfl rfl (by decide) (x_at (x_f1 hF) (k := 6) rfl) ?_
                          refine g_n 4 (pc' := 44) (L' := [some (.ref 0), some (.int 0), some (.int 6)]) (st' := [.int 6, .ref 1, .int 0, .ref 23, .int 0, .int 0, .ref 11]) rfl ?_
                          refine g_aa (i := 6) (a := 1) (n := 8) (v := 23) rfl rfl (by decide) (x_at (x_f1 hF) (k := 6) rfl) ?_
                          refine g_n 1 (pc' := 48) (L' := [some (.ref 0), some (.int 0), some (.int 6)]) (st' := [.int 0, .int 0, .ref 23, .int 0, .int 0, .ref 11]) rfl ?_
                          refine g_call (ins := .invokevirtual 169) (len := 3) (j := 15) (as := [.ref 11, .int 0, .int 0, .ref 23, .int 0, .int 0]) (rest := []) rfl rfl rfl rfl (fun _ => rfl) rfl ?_
                          refine g_in (M := x_M15) (L := [some (.ref 11), some (.int 0), some (.int 0), some (.ref 23), some (.int 0), some (.int 0), none, none, none, none]) x_pl15 rfl ?_
                          refine g_n 10 (pc' := 106) (L' := [some (.ref 11), some (.int 0), some (.int 0), some (.ref 23), some (.int 0), some (.int 0), some (.int 0), none, none, none]) (st' := [.int 1]) rfl ?_
                          refine g_ret (ins := .ireturn) (len := 1) (r := (some (.int 1))) rfl rfl rfl ?_
                          refine g_n 3 (pc' := 59) (L' := [some (.ref 0), some (.int 0), some (.int 6)]) (st' := [.int 1]) rfl ?_
                          refine g_ret (ins := .ireturn) (len := 1) (r := (some (.int 1))) rfl rfl rfl ?_
                          refine ⟨⟨_, rfl⟩, ?_⟩
                          refine g_in (M := x_M420) (L := [some (.ref 281), some (.int 0), some (.int 6), none, none]) x_pl420 rfl ?_
                          refine g_n 2 (pc' := 2) (L' := [some (.ref 281), some (.int 0), some (.int 6), none, none]) (st' := [.int 0, .ref 281]) rfl ?_
                          refine g_call (ins := .invokevirtual 671) (len := 3) (j := 411) (as := [.ref 281, .int 0]) (rest := []) rfl rfl rfl rfl (fun _ => rfl) rfl ?_
                          refine g_in (M := x_M411) (L := [some (.ref 281), some (.int 0)]) x_pl411 rfl ?_
                          refine g_n 7 (pc' := 15) (L' := [some (.ref 281), some (.int 0)]) (st' := [.int 1]) rfl ?_
                          refine g_ret (ins := .ireturn) (len := 1) (r := (some (.int 1))) rfl rfl rfl ?_
                          refine g_n 3 (pc' := 10) (L' := [some (.ref 281), some (.int 0), some (.int 6), none, none]) (st' := [.int 6, .ref 281]) rfl ?_
                          refine g_call (ins := .invokevirtual 671) (len := 3) (j := 411) (as := [.ref 281, .int 6]) (rest := []) rfl rfl rfl rfl (fun _ => rfl) rfl ?_
                          refine g_in (M := x_M411) (L := [some (.ref 281), some (.int 6)]) x_pl411 rfl ?_
                          refine g_n 7 (pc' := 15) (L' := [some (.ref 281), some (.int 6)]) (st' := [.int 1]) rfl ?_
                          refine g_ret (ins := .ireturn) (len := 1) (r := (some (.int 1))) rfl rfl rfl ?_
                          refine g_n 25 (pc' := 107) (L' := [some (.ref 281), some (.int 0), some (.int 6), some (.int 1), some (.int 0)]) (st' := [.int 1]) rfl ?_
                          exact g_ret (ins := .ireturn) (len := 1) (r := (some (.int 1))) rfl rfl rfl ⟨_, rfl, rfl, (x_sv_rf _)⟩
                        · have q41 : ¬ b = 6 := h39
                          have p42 : 7 ≤ b.toInt := x_lo_ne q41 p38 (by decide)
                          have e43 : b = 7 := x_sing p42 p12 (by decide)
                          subst e43
                          refine g_aa (i := 7) (a := 1) (n := 8) (v := 25) rfl rfl (by decide) (x_at (x_f1 hF) (k := 7) rfl) ?_
                          refine g_n 4 (pc' := 44) (L' := [some (.ref 0), some (.int 0), some (.int 7)]) (st' := [.int 7, .ref 1, .int 0, .ref 25, .int 0, .int 0, .ref 11]) rfl ?_
                          refine g_aa (i := 7) (a := 1) (n := 8) (v := 25) rfl rfl (by decide) (x_at (x_f1 hF) (k := 7) rfl) ?_
                          refine g_n 1 (pc' := 48) (L' := [some (.ref 0), some (.int 0), some (.int 7)]) (st' := [.int 0, .int 0, .ref 25, .int 0, .int 0, .ref 11]) rfl ?_
                          refine g_call (ins := .invokevirtual 169) (len := 3) (j := 15) (as := [.ref 11, .int 0, .int 0, .ref 25, .int 0, .int 0]) (rest := []) rfl rfl rfl rfl (fun _ => rfl) rfl ?_
                          refine g_in (M := x_M15) (L := [some (.ref 11), some (.int 0), some (.int 0), some (.ref 25), some (.int 0), some (.int 0), none, none, none, none]) x_pl15 rfl ?_
                          refine g_n 10 (pc' := 106) (L' := [some (.ref 11), some (.int 0), some (.int 0), some (.ref 25), some (.int 0), some (.int 0), some (.int 0), none, none, none]) (st' := [.int 1]) rfl ?_
                          refine g_ret (ins := .ireturn) (len := 1) (r := (some (.int 1))) rfl rfl rfl ?_
                          refine g_n 3 (pc' := 59) (L' := [some (.ref 0), some (.int 0), some (.int 7)]) (st' := [.int 1]) rfl ?_
                          refine g_ret (ins := .ireturn) (len := 1) (r := (some (.int 1))) rfl rfl rfl ?_
                          refine ⟨⟨_, rfl⟩, ?_⟩
                          refine g_in (M := x_M420) (L := [some (.ref 281), some (.int 0), some (.int 7), none, none]) x_pl420 rfl ?_
                          refine g_n 2 (pc' := 2) (L' := [some (.ref 281), some (.int 0), some (.int 7), none, none]) (st' := [.int 0, .ref 281]) rfl ?_
                          refine g_call (ins := .invokevirtual 671) (len := 3) (j := 411) (as := [.ref 281, .int 0]) (rest := []) rfl rfl rfl rfl (fun _ => rfl) rfl ?_
                          refine g_in (M := x_M411) (L := [some (.ref 281), some (.int 0)]) x_pl411 rfl ?_
                          refine g_n 7 (pc' := 15) (L' := [some (.ref 281), some (.int 0)]) (st' := [.int 1]) rfl ?_
                          refine g_ret (ins := .ireturn) (len := 1) (r := (some (.int 1))) rfl rfl rfl ?_
                          refine g_n 3 (pc' := 10) (L' := [some (.ref 281), some (.int 0), some (.int 7), none, none]) (st' := [.int 7, .ref 281]) rfl ?_
                          refine g_call (ins := .invokevirtual 671) (len := 3) (j := 411) (as := [.ref 281, .int 7]) (rest := []) rfl rfl rfl rfl (fun _ => rfl) rfl ?_
                          refine g_in (M := x_M411) (L := [some (.ref 281), some (.int 7)]) x_pl411 rfl ?_
                          refine g_n 7 (pc' := 15) (L' := [some (.ref 281), some (.int 7)]) (st' := [.int 1]) rfl ?_
                          refine g_ret (ins := .ireturn) (len := 1) (r := (some (.int 1))) rfl rfl rfl ?_
                          refine g_n 25 (pc' := 107) (L' := [some (.ref 281), some (.int 0), some (.int 7), some (.int 1), some (.int 0)]) (st' := [.int 1]) rfl ?_
                          exact g_ret (ins := .ireturn) (len := 1) (r := (some (.int 1))) rfl rfl rfl ⟨_, rfl, rfl, (x_sv_rf _)⟩
          · have q44 : ¬ a = 0 := h13
            have p45 : 1 ≤ a.toInt := x_lo_ne q44 p3 (by decide)
            by_cases h46 : a = 1
            · have e47 : a = 1 := h46
              subst e47
              refine g_aa (i := 1) (a := 1) (n := 8) (v := 13) rfl rfl (by decide) (x_at (x_f1 hF) (k := 1) rfl) ?_
              refine g_n 4 (pc' := 28) (L' := [some (.ref 0), some (.int 1), some (.int b)]) (st' := [.int 1, .ref 1, .int 0, .ref 13]) rfl ?_
              refine g_aa (i := 1) (a := 1) (n := 8) (v := 13) rfl rfl (by decide) (x_at (x_f1 hF) (k := 1) rfl) ?_
              refine g_n 4 (pc' := 37) (L' := [some (.ref 0), some (.int 1), some (.int b)]) (st' := [.int b, .ref 1, .int 0, .int 0, .ref 13]) rfl ?_
              by_cases h48 : b = 0
              · have e49 : b = 0 := h48
                subst e49
                refine g_aa (i := 0) (a := 1) (n := 8) (v := 11) rfl rfl (by decide) (x_at (x_f1 hF) (k := 0) rfl) ?_
                refine g_n 4 (pc' := 44) (L' := [some (.ref 0), some (.int 1), some (.int 0)]) (st' := [.int 0, .ref 1, .int 0, .ref 11, .int 0, .int 0, .ref 13]) rfl ?_
                refine g_aa (i := 0) (a := 1) (n := 8) (v := 11) rfl rfl (by decide) (x_at (x_f1 hF) (k := 0) rfl) ?_
                refine g_n 1 (pc' := 48) (L' := [some (.ref 0), some (.int 1), some (.int 0)]) (st' := [.int 0, .int 0, .ref 11, .int 0, .int 0, .ref 13]) rfl ?_
                refine g_call (ins := .invokevirtual 169) (len := 3) (j := 15) (as := [.ref 13, .int 0, .int 0, .ref 11, .int 0, .int 0]) (rest := []) rfl rfl rfl rfl (fun _ => rfl) rfl ?_
                refine g_in (M := x_M15) (L := [some (.ref 13), some (.int 0), some (.int 0), some (.ref 11), some (.int 0), some (.int 0), none, none, none, none]) x_pl15 rfl ?_
                refine g_n 10 (pc' := 106) (L' := [some (.ref 13), some (.int 0), some (.int 0), some (.ref 11), some (.int 0), some (.int 0), some (.int 0), none, none, none]) (st' := [.int 1]) rfl ?_
                refine g_ret (ins := .ireturn) (len := 1) (r := (some (.int 1))) rfl rfl rfl ?_
                refine g_n 3 (pc' := 59) (L' := [some (.ref 0), some (.int 1), some (.int 0)]) (st' := [.int 1]) rfl ?_
                refine g_ret (ins := .ireturn) (len := 1) (r := (some (.int 1))) rfl rfl rfl ?_
                refine ⟨⟨_, rfl⟩, ?_⟩
                refine g_in (M := x_M420) (L := [some (.ref 281), some (.int 1), some (.int 0), none, none]) x_pl420 rfl ?_
                refine g_n 2 (pc' := 2) (L' := [some (.ref 281), some (.int 1), some (.int 0), none, none]) (st' := [.int 1, .ref 281]) rfl ?_
                refine g_call (ins := .invokevirtual 671) (len := 3) (j := 411) (as := [.ref 281, .int 1]) (rest := []) rfl rfl rfl rfl (fun _ => rfl) rfl ?_
                refine g_in (M := x_M411) (L := [some (.ref 281), some (.int 1)]) x_pl411 rfl ?_
                refine g_n 7 (pc' := 15) (L' := [some (.ref 281), some (.int 1)]) (st' := [.int 1]) rfl ?_
                refine g_ret (ins := .ireturn) (len := 1) (r := (some (.int 1))) rfl rfl rfl ?_
                refine g_n 3 (pc' := 10) (L' := [some (.ref 281), some (.int 1), some (.int 0), none, none]) (st' := [.int 0, .ref 281]) rfl ?_
                refine g_call (ins := .invokevirtual 671) (len := 3) (j := 411) (as := [.ref 281, .int 0]) (rest := []) rfl rfl rfl rfl (fun _ => rfl) rfl ?_
                refine g_in (M := x_M411) (L := [some (.ref 281), some (.int 0)]) x_pl411 rfl ?_
                refine g_n 7 (pc' := 15) (L' := [some (.ref 281), some (.int 0)]) (st' := [.int 1]) rfl ?_
                refine g_ret (ins := .ireturn) (len := 1) (r := (some (.int 1))) rfl rfl rfl ?_
                refine g_n 25 (pc' := 107) (L' := [some (.ref 281), some (.int 1), some (.int 0), some (.int 1), some (.int 0)]) (st' := [.int 1]) rfl ?_
                exact g_ret (ins := .ireturn) (len := 1) (r := (some (.int 1))) rfl rfl rfl ⟨_, rfl, rfl, (x_sv_rf _)⟩
              · have q50 : ¬ b = 0 := h48
                have p51 : 1 ≤ b.toInt := x_lo_ne q50 p9 (by decide)
                by_cases h52 : b = 1
                · have e53 : b = 1 := h52
                  subst e53
                  refine g_aa (i := 1) (a := 1) (n := 8) (v := 13) rfl rfl (by decide) (x_at (x_f1 hF) (k := 1) rfl) ?_
                  refine g_n 4 (pc' := 44) (L' := [some (.ref 0), some (.int 1), some (.int 1)]) (st' := [.int 1, .ref 1, .int 0, .ref 13, .int 0, .int 0, .ref 13]) rfl ?_
                  refine g_aa (i := 1) (a := 1) (n := 8) (v := 13) rfl rfl (by decide) (x_at (x_f1 hF) (k := 1) rfl) ?_
                  refine g_n 1 (pc' := 48) (L' := [some (.ref 0), some (.int 1), some (.int 1)]) (st' := [.int 0, .int 0, .ref 13, .int 0, .int 0, .ref 13]) rfl ?_
                  refine g_call (ins := .invokevirtual 169) (len := 3) (j := 15) (as := [.ref 13, .int 0, .int 0, .ref 13, .int 0, .int 0]) (rest := []) rfl rfl rfl rfl (fun _ => rfl) rfl ?_
                  refine g_in (M := x_M15) (L := [some (.ref 13), some (.int 0), some (.int 0), some (.ref 13), some (.int 0), some (.int 0), none, none, none, none]) x_pl15 rfl ?_
                  refine g_n 10 (pc' := 106) (L' := [some (.ref 13), some (.int 0), some (.int 0), some (.ref 13), some (.int 0), some (.int 0), some (.int 0), none, none, none]) (st' := [.int 1]) rfl ?_
                  refine g_ret (ins := .ireturn) (len := 1) (r := (some (.int 1))) rfl rfl rfl ?_
                  refine g_n 3 (pc' := 59) (L' := [some (.ref 0), some (.int 1), some (.int 1)]) (st' := [.int 1]) rfl ?_
                  refine g_ret (ins := .ireturn) (len := 1) (r := (some (.int 1))) rfl rfl rfl ?_
                  refine ⟨⟨_, rfl⟩, ?_⟩
                  refine g_in (M := x_M420) (L := [some (.ref 281), some (.int 1), some (.int 1), none, none]) x_pl420 rfl ?_
                  refine g_n 2 (pc' := 2) (L' := [some (.ref 281), some (.int 1), some (.int 1), none, none]) (st' := [.int 1, .ref 281]) rfl ?_
                  refine g_call (ins := .invokevirtual 671) (len := 3) (j := 411) (as := [.ref 281, .int 1]) (rest := []) rfl rfl rfl rfl (fun _ => rfl) rfl ?_
                  refine g_in (M := x_M411) (L := [some (.ref 281), some (.int 1)]) x_pl411 rfl ?_
                  refine g_n 7 (pc' := 15) (L' := [some (.ref 281), some (.int 1)]) (st' := [.int 1]) rfl ?_
                  refine g_ret (ins := .ireturn) (len := 1) (r := (some (.int 1))) rfl rfl rfl ?_
                  refine g_n 3 (pc' := 10) (L' := [some (.ref 281), some (.int 1), some (.int 1), none, none]) (st' := [.int 1, .ref 281]) rfl ?_
                  refine g_call (ins := .invokevirtual 671) (len := 3) (j := 411) (as := [.ref 281, .int 1]) (rest := []) rfl rfl rfl rfl (fun _ => rfl) rfl ?_
                  refine g_in (M := x_M411) (L := [some (.ref 281), some (.int 1)]) x_pl411 rfl ?_
                  refine g_n 7 (pc' := 15) (L' := [some (.ref 281), some (.int 1)]) (st' := [.int 1]) rfl ?_
                  refine g_ret (ins := .ireturn) (len := 1) (r := (some (.int 1))) rfl rfl rfl ?_
                  refine g_n 25 (pc' := 107) (L' := [some (.ref 281), some (.int 1), some (.int 1), some (.int 1), some (.int 0)]) (st' := [.int 1]) rfl ?_
                  exact g_ret (ins := .ireturn) (len := 1) (r := (some (.int 1))) rfl rfl rfl ⟨_, rfl, rfl, (x_sv_rf _)⟩
                · have q54 : ¬ b = 1 := h52
                  have p55 : 2 ≤ b.toInt := x_lo_ne q54 p51 (by decide)
                  by_cases h56 : b = 2
                  · have e57 : b = 2 := h56
                    subst e57
                    refine g_aa (i := 2) (a := 1) (n := 8) (v := 15) rfl rfl (by decide) (x_at (x_f1 hF) (k := 2) rfl) ?_
                    refine g_n 4 (pc' := 44) (L' := [some (.ref 0), some (.int 1), some (.int 2)]) (st' := [.int 2, .ref 1, .int 0, .ref 15, .int 0, .int 0, .ref 13]) rfl ?_
                    refine g_aa (i := 2) (a := 1) (n := 8) (v := 15) rfl rfl (by decide) (x_at (x_f1 hF) (k := 2) rfl) ?_
                    refine g_n 1 (pc' := 48) (L' := [some (.ref 0), some (.int 1), some (.int 2)]) (st' := [.int 0, .int 0, .ref 15, .int 0, .int 0, .ref 13]) rfl ?_
                    refine g_call (ins := .invokevirtual 169) (len := 3) (j := 15) (as := [.ref 13, .int 0, .int 0, .ref 15, .int 0, .int 0]) (rest := []) rfl rfl rfl rfl (fun _ => rfl) rfl ?_
                    refine g_in (M := x_M15) (L := [some (.ref 13), some (.int 0), some (.int 0), some (.ref 15), some (.int 0), some (.int 0), none, none, none, none]) x_pl15 rfl ?_
                    refine g_n 10 (pc' := 106) (L' := [some (.ref 13), some (.int 0), some (.int 0), some (.ref 15), some (.int 0), some (.int 0), some (.int 0), none, none, none]) (st' := [.int 1]) rfl ?_
                    refine g_ret (ins := .ireturn) (len := 1) (r := (some (.int 1))) rfl rfl rfl ?_
                    refine g_n 3 (pc' := 59) (L' := [some (.ref 0), some (.int 1), some (.int 2)]) (st' := [.int 1]) rfl ?_
                    refine g_ret (ins := .ireturn) (len := 1) (r := (some (.int 1))) rfl rfl rfl ?_
                    refine ⟨⟨_, rfl⟩, ?_⟩
                    refine g_in (M := x_M420) (L := [some (.ref 281), some (.int 1), some (.int 2), none, none]) x_pl420 rfl ?_
                    refine g_n 2 (pc' := 2) (L' := [some (.ref 281), some (.int 1), some (.int 2), none, none]) (st' := [.int 1, .ref 281]) rfl ?_
                    refine g_call (ins := .invokevirtual 671) (len := 3) (j := 411) (as := [.ref 281, .int 1]) (rest := []) rfl rfl rfl rfl (fun _ => rfl) rfl ?_
                    refine g_in (M := x_M411) (L := [some (.ref 281), some (.int 1)]) x_pl411 rfl ?_
                    refine g_n 7 (pc' := 15) (L' := [some (.ref 281), some (.int 1)]) (st' := [.int 1]) rfl ?_
                    refine g_ret (ins := .ireturn) (len := 1) (r := (some (.int 1))) rfl rfl rfl ?_
                    refine g_n 3 (pc' := 10) (L' := [some (.ref 281), some (.int 1), some (.int 2), none, none]) (st' := [.int 2, .ref 281]) rfl ?_
                    refine g_call (ins := .invokevirtual 671) (len := 3) (j := 411) (as := [.ref 281, .int 2]) (rest := []) rfl rfl rfl rfl (fun _ => rfl) rfl ?_
                    refine g_in (M := x_M411) (L := [some (.ref 281), some (.int 2)]) x_pl411 rfl ?_
                    refine g_n 7 (pc' := 15) (L' := [some (.ref 281), some (.int 2)]) (st' := [.int 1]) rfl ?_
                    refine g_ret (ins := .ireturn) (len := 1) (r := (some (.int 1))) rfl rfl rfl ?_
                    refine g_n 25 (pc' := 107) (L' := [some (.ref 281), some (.int 1), some (.int 2), some (.int 1), some (.int 0)]) (st' := [.int 1]) rfl ?_
                    exact g_ret (ins := .ireturn) (len := 1) (r := (some (.int 1))) rfl rfl rfl ⟨_, rfl, rfl, (x_sv_rf _)⟩
                  · have q58 : ¬ b = 2 := h56
                    have p59 : 3 ≤ b.toInt := x_lo_ne q58 p55 (by decide)
                    by_cases h60 : b = 3
                    · have e61 : b = 3 := h60
                      subst e61
                      refine g_aa (i := 3) (a := 1) (n := 8) (v := 17) rfl rfl (by decide) (x_at (x_f1 hF) (k := 3) rfl) ?_
                      refine g_n 4 (pc' := 44) (L' := [some (.ref 0), some (.int 1), some (.int 3)]) (st' := [.int 3, .ref 1, .int 0, .ref 17, .int 0, .int 0, .ref 13]) rfl ?_
                      refine g_aa (i := 3) (a := 1) (n := 8) (v := 17) rfl rfl (by decide) (x_at (x_f1 hF) (k := 3) rfl) ?_
                      refine g_n 1 (pc' := 48) (L' := [some (.ref 0), some (.int 1), some (.int 3)]) (st' := [.int 0, .int 0, .ref 17, .int 0, .int 0, .ref 13]) rfl ?_
                      refine g_call (ins := .invokevirtual 169) (len := 3) (j := 15) (as := [.ref 13, .int 0, .int 0, .ref 17, .int 0, .int 0]) (rest := []) rfl rfl rfl rfl (fun _ => rfl) rfl ?_
                      refine g_in (M := x_M15) (L := [some (.ref 13), some (.int 0), some (.int 0), some (.ref 17), some (.int 0), some (.int 0), none, none, none, none]) x_pl15 rfl ?_
                      refine g_n 10 (pc' := 106) (L' := [some (.ref 13), some (.int 0), some (.int 0), some (.ref 17), some (.int 0), some (.int 0), some (.int 0), none, none, none]) (st' := [.int 1]) rfl ?_
                      refine g_ret (ins := .ireturn) (len := 1) (r := (some (.int 1))) rfl rfl rfl ?_
                      refine g_n 3 (pc' := 59) (L' := [some (.ref 0), some (.int 1), some (.int 3)]) (st' := [.int 1]) rfl ?_
                      refine g_ret (ins := .ireturn) (len := 1) (r := (some (.int 1))) rfl rfl rfl ?_
                      refine ⟨⟨_, rfl⟩, ?_⟩
                      refine g_in (M := x_M420) (L := [some (.ref 281), some (.int 1), some (.int 3), none, none]) x_pl420 rfl ?_
                      refine g_n 2 (pc' := 2) (L' := [some (.ref 281), some (.int 1), some (.int 3), none, none]) (st' := [.int 1, .ref 281]) rfl ?_
                      refine g_call (ins := .invokevirtual 671) (len := 3) (j := 411) (as := [.ref 281, .int 1]) (rest := []) rfl rfl rfl rfl (fun _ => rfl) rfl ?_
                      refine g_in (M := x_M411) (L := [some (.ref 281), some (.int 1)]) x_pl411 rfl ?_
                      refine g_n 7 (pc' := 15) (L' := [some (.ref 281), some (.int 1)]) (st' := [.int 1]) rfl ?_
                      refine g_ret (ins := .ireturn) (len := 1) (r := (some (.int 1))) rfl rfl rfl ?_
                      refine g_n 3 (pc' := 10) (L' := [some (.ref 281), some (.int 1), some (.int 3), none, none]) (st' := [.int 3, .ref 281]) rfl ?_
                      refine g_call (ins := .invokevirtual 671) (len := 3) (j := 411) (as := [.ref 281, .int 3]) (rest := []) rfl rfl rfl rfl (fun _ => rfl) rfl ?_
                      refine g_in (M := x_M411) (L := [some (.ref 281), some (.int 3)]) x_pl411 rfl ?_
                      refine g_n 7 (pc' := 15) (L' := [some (.ref 281), some (.int 3)]) (st' := [.int 1]) rfl ?_
                      refine g_ret (ins := .ireturn) (len := 1) (r := (some (.int 1))) rfl rfl rfl ?_
                      refine g_n 25 (pc' := 107) (L' := [some (.ref 281), some (.int 1), some (.int 3), some (.int 1), some (.int 0)]) (st' := [.int 1]) rfl ?_
                      exact g_ret (ins := .ireturn) (len := 1) (r := (some (.int 1))) rfl rfl rfl ⟨_, rfl, rfl, (x_sv_rf _)⟩
                    · have q62 : ¬ b = 3 := h60
                      have p63 : 4 ≤ b.toInt := x_lo_ne q62 p59 (by decide)
                      by_cases h64 : b = 4
                      · have e65 : b = 4 := h64
                        subst e65
                        refine g_aa (i := 4) (a := 1) (n := 8) (v := 19) rfl rfl (by decide) (x_at (x_f1 hF) (k := 4) rfl) ?_
                        refine g_n 4 (pc' := 44) (L' := [some (.ref 0), some (.int 1), some (.int 4)]) (st' := [.int 4, .ref 1, .int 0, .ref 19, .int 0, .int 0, .ref 13]) rfl ?_
                        refine g_aa (i := 4) (a := 1) (n := 8) (v := 19) rfl rfl (by decide) (x_at (x_f1 hF) (k := 4) rfl) ?_
                        refine g_n 1 (pc' := 48) (L' := [some (.ref 0), some (.int 1), some (.int 4)]) (st' := [.int 0, .int 0, .ref 19, .int 0, .int 0, .ref 13]) rfl ?_
                        refine g_call (ins := .invokevirtual 169) (len := 3) (j := 15) (as := [.ref 13, .int 0, .int 0, .ref 19, .int 0, .int 0]) (rest := []) rfl rfl rfl rfl (fun _ => rfl) rfl ?_
                        refine g_in (M := x_M15) (L := [some (.ref 13), some (.int 0), some (.int 0), some (.ref 19), some (.int 0), some (.int 0), none, none, none, none]) x_pl15 rfl ?_
                        refine g_n 10 (pc' := 106) (L' := [some (.ref 13), some (.int 0), some (.int 0), some (.ref 19), some (.int 0), some (.int 0), some (.int 0), none, none, none]) (st' := [.int 1]) rfl ?_
                        refine g_ret (ins := .ireturn) (len := 1) (r := (some (.int 1))) rfl rfl rfl ?_
                        refine g_n 3 (pc' := 59) (L' := [some (.ref 0), some (.int 1), some (.int 4)]) (st' := [.int 1]) rfl ?_
                        refine g_ret (ins := .ireturn) (len := 1) (r := (some (.int 1))) rfl rfl rfl ?_
                        refine ⟨⟨_, rfl⟩, ?_⟩
                        refine g_in (M := x_M420) (L := [some (.ref 281), some (.int 1), some (.int 4), none, none]) x_pl420 rfl ?_
                        refine g_n 2 (pc' := 2) (L' := [some (.ref 281), some (.int 1), some (.int 4), none, none]) (st' := [.int 1, .ref 281]) rfl ?_
                        refine g_call (ins := .invokevirtual 671) (len := 3) (j := 411) (as := [.ref 281, .int 1]) (rest := []) rfl rfl rfl rfl (fun _ => rfl) rfl ?_
                        refine g_in (M := x_M411) (L := [some (.ref 281), some (.int 1)]) x_pl411 rfl ?_
                        refine g_n 7 (pc' := 15) (L' := [some (.ref 281), some (.int 1)]) (st' := [.int 1]) rfl ?_
                        refine g_ret (ins := .ireturn) (len := 1) (r := (some (.int 1))) rfl rfl rfl ?_
                        refine g_n 3 (pc' := 10) (L' := [some (.ref 281), some (.int 1), some (.int 4), none, none]) (st' := [.int 4, .ref 281]) rfl ?_
                        refine g_call (ins := .invokevirtual 671) (len := 3) (j := 411) (as := [.ref 281, .int 4]) (rest := []) rfl rfl rfl rfl (fun _ => rfl) rfl ?_
                        refine g_in (M := x_M411) (L := [some (.ref 281), some (.int 4)]) x_pl411 rfl ?_
                        refine g_n 7 (pc' := 15) (L' := [some (.ref 281), some (.int 4)]) (st' := [.int 1]) rfl ?_
                        refine g_ret (ins := .ireturn) (len := 1) (r := (some (.int 1))) rfl rfl rfl ?_
                        refine g_n 25 (pc' := 107) (L' := [some (.ref 281), some (.int 1), some (.int 4), some (.int 1), some (.int 0)]) (st' := [.int 1]) rfl ?_
                        exact g_ret (ins := .ireturn) (len := 1) (r := (some (.int 1))) rfl rfl rfl ⟨_, rfl, rfl, (x_sv_rf _)⟩
                      · have q66 : ¬ b = 4 := h64
                        have p67 : 5 ≤ b.toInt := x_lo_ne q66 p63 (by decide)
                        by_cases h68 : b = 5
                        · have e69 : b = 5 := h68
                          subst e69
                          refine g_aa (i := 5) (a := 1) (n := 8) (v := 21) rfl rfl (by decide) (x_at (x_f1 hF) (k := 5) rfl) ?_
                          refine g_n 4 (pc' := 44) (L' := [some (.ref 0), some (.int 1), some (.int 5)]) (st' := [.int 5, .ref 1, .int 0, .ref 21, .int 0, .int 0, .ref 13]) rfl ?_
                          refine g_aa (i := 5) (a := 1) (n := 8) (v := 21) rfl rfl (by decide) (x_at (x_f1 hF) (k := 5) rfl) ?_
                          refine g_n 1 (pc' := 48) (L' := [some (.ref 0), some (.int 1), some (.int 5)]) (st' := [.int 0, .int 0, .ref 21, .int 0, .int 0, .ref 13]) rfl ?_
                          refine g_call (ins := .invokevirtual 169) (len := 3) (j := 15) (as := [.ref 13, .int 0, .int 0, .ref 21, .int 0, .int 0]) (rest := []) rfl rfl rfl rfl (fun _ => rfl) rfl ?_
                          refine g_in (M := x_M15) (L := [some (.ref 13), some (.int 0), some (.int 0), some (.ref 21), some (.int 0), some (.int 0), none, none, none, none]) x_pl15 rfl ?_
                          refine g_n 10 (pc' := 106) (L' := [some (.ref 13), some (.int 0), some (.int 0), some (.ref 21), some (.int 0), some (.int 0), some (.int 0), none, none, none]) (st' := [.int 1]) rfl ?_
                          refine g_ret (ins := .ireturn) (len := 1) (r := (some (.int 1))) rfl rfl rfl ?_
                          refine g_n 3 (pc' := 59) (L' := [some (.ref 0), some (.int 1), some (.int 5)]) (st' := [.int 1]) rfl ?_
                          refine g_ret (ins := .ireturn) (len := 1) (r := (some (.int 1))) rfl rfl rfl ?_
                          refine ⟨⟨_, rfl⟩, ?_⟩
                          refine g_in (M := x_M420) (L := [some (.ref 281), some (.int 1), some (.int 5), none, none]) x_pl420 rfl ?_
                          refine g_n 2 (pc' := 2) (L' := [some (.ref 281), some (.int 1), some (.int 5), none, none]) (st' := [.int 1, .ref 281]) rfl ?_
                          refine g_call (ins := .invokevirtual 671) (len := 3) (j := 411) (as := [.ref 281, .int 1]) (rest := []) rfl rfl rfl rfl (fun _ => rfl) rfl ?_
                          refine g_in (M := x_M411) (L := [some (.ref 281), some (.int 1)]) x_pl411 rfl ?_
                          refine g_n 7 (pc' := 15) (L' := [some (.ref 281), some (.int 1)]) (st' := [.int 1]) rfl ?_
                          refine g_ret (ins := .ireturn) (len := 1) (r := (some (.int 1))) rfl rfl rfl ?_
                          refine g_n 3 (pc' := 10) (L' := [some (.ref 281), some (.int 1), some (.int 5), none, none]) (st' := [.int 5, .ref 281]) rfl ?_
                          refine g_call (ins := .invokevirtual 671) (len := 3) (j := 411) (as := [.ref 281, .int 5]) (rest := []) rfl rfl rfl rfl (fun _ => rfl) rfl ?_
                          refine g_in (M := x_M411) (L := [some (.ref 281), some (.int 5)]) x_pl411 rfl ?_
                          refine g_n 7 (pc' := 15) (L' := [some (.ref 281), some (.int 5)]) (st' := [.int 1]) rfl ?_
                          refine g_ret (ins := .ireturn) (len := 1) (r := (some (.int 1))) rfl rfl rfl ?_
                          refine g_n 25 (pc' := 107) (L' := [some (.ref 281), some (.int 1), some (.int 5), some (.int 1), some (.int 0)]) (st' := [.int 1]) rfl ?_
                          exact g_ret (ins := .ireturn) (len := 1) (r := (some (.int 1))) rfl rfl rfl ⟨_, rfl, rfl, (x_sv_rf _)⟩
                        · have q70 : ¬ b = 5 := h68
                          have p71 : 6 ≤ b.toInt := x_lo_ne q70 p67 (by decide)
                          by_cases h72 : b = 6
                          · have e73 : b = 6 := h72
                            subst e73
                            refine g_aa (i := 6) (a := 1) (n := 8) (v := 23) rfl rfl (by decide) (x_at (x_f1 hF) (k := 6) rfl) ?_
                            refine g_n 4 (pc' := 44) (L' := [some (.ref 0), some (.int 1), some (.int 6)]) (st' := [.int 6, .ref 1, .int 0, .ref 23, .int 0, .int 0, .ref 13]) rfl ?_
                            refine g_aa (i := 6) (a := 1) (n := 8) (v := 23) rfl rfl (by decide) (x_at (x_f1 hF) (k := 6) rfl) ?_
                            refine g_n 1 (pc' := 48) (L' := [some (.ref 0), some (.int 1), some (.int 6)]) (st' := [.int 0, .int 0, .ref 23, .int 0, .int 0, .ref 13]) rfl ?_
                            refine g_call (ins := .invokevirtual 169) (len := 3) (j := 15) (as := [.ref 13, .int 0, .int 0, .ref 23, .int 0, .int 0]) (rest := []) rfl rfl rfl rfl (fun _ => rfl) rfl ?_
                            refine g_in (M := x_M15) (L := [some (.ref 13), some (.int 0), some (.int 0), some (.ref 23), some (.int 0), some (.int 0), none, none, none, none]) x_pl15 rfl ?_
                            refine g_n 10 (pc' := 106) (L' := [some (.ref 13), some (.int 0), some (.int 0), some (.ref 23), some (.int 0), some (.int 0), some (.int 0), none, none, none]) (st' := [.int 1]) rfl ?_
                            refine g_ret (ins := .ireturn) (len := 1) (r := (some (.int 1))) rfl rfl rfl ?_
                            refine g_n 3 (pc' := 59) (L' := [some (.ref 0), some (.int 1), some (.int 6)]) (st' := [.int 1]) rfl ?_
                            refine g_ret (ins := .ireturn) (len := 1) (r := (some (.int 1))) rfl rfl rfl ?_
                            refine ⟨⟨_, rfl⟩, ?_⟩
                            refine g_in (M := x_M420) (L := [some (.ref 281), some (.int 1), some (.int 6), none, none]) x_pl420 rfl ?_
                            refine g_n 2 (pc' := 2) (L' := [some (.ref 281), some (.int 1), some (.int 6), none, none]) (st' := [.int 1, .ref 281]) rfl ?_
                            refine g_call (ins := .invokevirtual 671) (len := 3) (j := 411) (as := [.ref 281, .int 1]) (rest := []) rfl rfl rfl rfl (fun _ => rfl) rfl ?_
                            refine g_in (M := x_M411) (L := [some (.ref 281), some (.int 1)]) x_pl411 rfl ?_
                            refine g_n 7 (pc' := 15) (L' := [some (.ref 281), some (.int 1)]) (st' := [.int 1]) rfl ?_
                            refine g_ret (ins := .ireturn) (len := 1) (r := (some (.int 1))) rfl rfl rfl ?_
                            refine g_n 3 (pc' := 10) (L' := [some (.ref 281), some (.int 1), some (.int 6), none, none]) (st' := [.int 6, .ref 281]) rfl ?_
                            refine g_call (ins := .invokevirtual 671) (len := 3) (j := 411) (as := [.ref 281, .int 6]) (rest := []) rfl rfl rfl rfl (fun _ => rfl) rfl ?_
                            refine g_in (M := x_M411) (L := [some (.ref 281), some (.int 6)]) x_pl411 rfl ?_
                            refine g_n 7 (pc' := 15) (L' := [some (.ref 281), some (.int 6)]) (st' := [.int 1]) rfl ?_
                            refine g_ret (ins := .ireturn) (len := 1) (r := (some (.int 1))) rfl rfl rfl ?_
                            refine g_n 25 (pc' := 107) (L' := [some (.ref 281), some (.int 1), some (.int 6), some (.int 1), some (.int 0)]) (st' := [.int 1]) rfl ?_
                            exact g_ret (ins := .ireturn) (len := 1) (r := (some (.int 1))) rfl rfl rfl ⟨_, rfl, rfl, (x_sv_rf _)⟩
                          · have q74 : ¬ b = 6 := h72
                            have p75 : 7 ≤ b.toInt := x_lo_ne q74 p71 (by decide)
                            have e76 : b = 7 := x_sing p75 p12 (by decide)
                            subst e76
                            refine g_aa (i := 7) (a := 1) (n := 8) (v := 25) rfl rfl (by decide) (x_at (x_f1 hF) (k := 7) rfl) ?_
                            refine g_n 4 (pc' := 44) (L' := [some (.ref 0), some (.int 1), some (.int 7)]) (st' := [.int 7, .ref 1, .int 0, .ref 25, .int 0, .int 0, .ref 13]) rfl ?_
                            refine g_aa (i := 7) (a := 1) (n := 8) (v := 25) rfl rfl (by decide) (x_at (x_f1 hF) (k := 7) rfl) ?_
                            refine g_n 1 (pc' := 48) (L' := [some (.ref 0), some (.int 1), some (.int 7)]) (st' := [.int 0, .int 0, .ref 25, .int 0, .int 0, .ref 13]) rfl ?_
                            refine g_call (ins := .invokevirtual 169) (len := 3) (j := 15) (as := [.ref 13, .int 0, .int 0, .ref 25, .int 0, .int 0]) (rest := []) rfl rfl rfl rfl (fun _ => rfl) rfl ?_
                            refine g_in (M := x_M15) (L := [some (.ref 13), some (.int 0), some (.int 0), some (.ref 25), some (.int 0), some (.int 0), none, none, none, none]) x_pl15 rfl ?_
                            refine g_n 10 (pc' := 106) (L' := [some (.ref 13), some (.int 0), some (.int 0), some (.ref 25), some (.int 0), some (.int 0), some (.int 0), none, none, none]) (st' := [.int 1]) rfl ?_
                            refine g_ret (ins := .ireturn) (len := 1) (r := (some (.int 1))) rfl rfl rfl ?_
                            refine g_n 3 (pc' := 59) (L' := [some (.ref 0), some (.int 1), some (.int 7)]) (st' := [.int 1]) rfl ?_
                            refine g_ret (ins := .ireturn) (len := 1) (r := (some (.int 1))) rfl rfl rfl ?_
                            refine ⟨⟨_, rfl⟩, ?_⟩
                            refine g_in (M := x_M420) (L := [some (.ref 281), some (.int 1), some (.int 7), none, none]) x_pl420 rfl ?_
                            refine g_n 2 (pc' := 2) (L' := [some (.ref 281), some (.int 1), some (.int 7), none, none]) (st' := [.int 1, .ref 281]) rfl ?_
                            refine g_call (ins := .invokevirtual 671) (len := 3) (j := 411) (as := [.ref 281, .int 1]) (rest := []) rfl rfl rfl rfl (fun _ => rfl) rfl ?_
                            refine g_in (M := x_M411) (L := [some (.ref 281), some (.int 1)]) x_pl411 rfl ?_
                            refine g_n 7 (pc' := 15) (L' := [some (.ref 281), some (.int 1)]) (st' := [.int 1]) rfl ?_
                            refine g_ret (ins := .ireturn) (len := 1) (r := (some (.int 1))) rfl rfl rfl ?_
                            refine g_n 3 (pc' := 10) (L' := [some (.ref 281), some (.int 1), some (.int 7), none, none]) (st' := [.int 7, .ref 281]) rfl ?_
                            refine g_call (ins := .invokevirtual 671) (len := 3) (j := 411) (as := [.ref 281, .int 7]) (rest := []) rfl rfl rfl rfl (fun _ => rfl) rfl ?_
                            refine g_in (M := x_M411) (L := [some (.ref 281), some (.int 7)]) x_pl411 rfl ?_
                            refine g_n 7 (pc' := 15) (L' := [some (.ref 281), some (.int 7)]) (st' := [.int 1]) rfl ?_
                            refine g_ret (ins := .ireturn) (len := 1) (r := (some (.int 1))) rfl rfl rfl ?_
                            refine g_n 25 (pc' := 107) (L' := [some (.ref 281), some (.int 1), some (.int 7), some (.int 1), some (.int 0)]) (st' := [.int 1]) rfl ?_
                            exact g_ret (ins := .ireturn) (len := 1) (r := (some (.int 1))) rfl rfl rfl ⟨_, rfl, rfl, (x_sv_rf _)⟩
            · have q77 : ¬ a = 1 := h46
              have p78 : 2 ≤ a.toInt := x_lo_ne q77 p45 (by decide)
              by_cases h79 : a = 2
              · have e80 : a = 2 := h79
                subst e80
                refine g_aa (i := 2) (a := 1) (n := 8) (v := 15) rfl rfl (by decide) (x_at (x_f1 hF) (k := 2) rfl) ?_
                refine g_n 4 (pc' := 28) (L' := [some (.ref 0), some (.int 2), some (.int b)]) (st' := [.int 2, .ref 1, .int 0, .ref 15]) rfl ?_
                refine g_aa (i := 2) (a := 1) (n := 8) (v := 15) rfl rfl (by decide) (x_at (x_f1 hF) (k := 2) rfl) ?_
                refine g_n 4 (pc' := 37) (L' := [some (.ref 0), some (.int 2), some (.int b)]) (st' := [.int b, .ref 1, .int 0, .int 0, .ref 15]) rfl ?_
                by_cases h81 : b = 0
                · have e82 : b = 0 := h81
                  subst e82
                  refine g_aa (i := 0) (a := 1) (n := 8) (v := 11) rfl rfl (by decide) (x_at (x_f1 hF) (k := 0) rfl) ?_
                  refine g_n 4 (pc' := 44) (L' := [some (.ref 0), some (.int 2), some (.int 0)]) (st' := [.int 0, .ref 1, .int 0, .ref 11, .int 0, .int 0, .ref 15]) rfl ?_
                  refine g_aa (i := 0) (a := 1) (n := 8) (v := 11) rfl rfl (by decide) (x_at (x_f1 hF) (k := 0) rfl) ?_
                  refine g_n 1 (pc' := 48) (L' := [some (.ref 0), some (.int 2), some (.int 0)]) (st' := [.int 0, .int 0, .ref 11, .int 0, .int 0, .ref 15]) rfl ?_
                  refine g_call (ins := .invokevirtual 169) (len := 3) (j := 15) (as := [.ref 15, .int 0, .int 0, .ref 11, .int 0, .int 0]) (rest := []) rfl rfl rfl rfl (fun _ => rfl) rfl ?_
                  refine g_in (M := x_M15) (L := [some (.ref 15), some (.int 0), some (.int 0), some (.ref 11), some (.int 0), some (.int 0), none, none, none, none]) x_pl15 rfl ?_
                  refine g_n 10 (pc' := 106) (L' := [some (.ref 15), some (.int 0), some (.int 0), some (.ref 11), some (.int 0), some (.int 0), some (.int 0), none, none, none]) (st' := [.int 1]) rfl ?_
                  refine g_ret (ins := .ireturn) (len := 1) (r := (some (.int 1))) rfl rfl rfl ?_
                  refine g_n 3 (pc' := 59) (L' := [some (.ref 0), some (.int 2), some (.int 0)]) (st' := [.int 1]) rfl ?_
                  refine g_ret (ins := .ireturn) (len := 1) (r := (some (.int 1))) rfl rfl rfl ?_
                  refine ⟨⟨_, rfl⟩, ?_⟩
                  refine g_in (M := x_M420) (L := [some (.ref 281), some (.int 2), some (.int 0), none, none]) x_pl420 rfl ?_
                  refine g_n 2 (pc' := 2) (L' := [some (.ref 281), some (.int 2), some (.int 0), none, none]) (st' := [.int 2, .ref 281]) rfl ?_
                  refine g_call (ins := .invokevirtual 671) (len := 3) (j := 411) (as := [.ref 281, .int 2]) (rest := []) rfl rfl rfl rfl (fun _ => rfl) rfl ?_
                  refine g_in (M := x_M411) (L := [some (.ref 281), some (.int 2)]) x_pl411 rfl ?_
                  refine g_n 7 (pc' := 15) (L' := [some (.ref 281), some (.int 2)]) (st' := [.int 1]) rfl ?_
                  refine g_ret (ins := .ireturn) (len := 1) (r := (some (.int 1))) rfl rfl rfl ?_
                  refine g_n 3 (pc' := 10) (L' := [some (.ref 281), some (.int 2), some (.int 0), none, none]) (st' := [.int 0, .ref 281]) rfl ?_
                  refine g_call (ins := .invokevirtual 671) (len := 3) (j := 411) (as := [.ref 281, .int 0]) (rest := []) rfl rfl rfl rfl (fun _ => rfl) rfl ?_
                  refine g_in (M := x_M411) (L := [some (.ref 281), some (.int 0)]) x_pl411 rfl ?_
                  refine g_n 7 (pc' := 15) (L' := [some (.ref 281), some (.int 0)]) (st' := [.int 1]) rfl ?_
                  refine g_ret (ins := .ireturn) (len := 1) (r := (some (.int 1))) rfl rfl rfl ?_
                  refine g_n 25 (pc' := 107) (L' := [some (.ref 281), some (.int 2), some (.int 0), some (.int 1), some (.int 0)]) (st' := [.int 1]) rfl ?_
                  exact g_ret (ins := .ireturn) (len := 1) (r := (some (.int 1))) rfl rfl rfl ⟨_, rfl, rfl, (x_sv_rf _)⟩
                · have q83 : ¬ b = 0 := h81
                  have p84 : 1 ≤ b.toInt := x_lo_ne q83 p9 (by decide)
                  by_cases h85 : b = 1
                  · have e86 : b = 1 := h85
                    subst e86
                    refine g_aa (i := 1) (a := 1) (n := 8) (v := 13) rfl rfl (by decide) (x_at (x_f1 hF) (k := 1) rfl) ?_
                    refine g_n 4 (pc' := 44) (L' := [some (.ref 0), some (.int 2), some (.int 1)]) (st' := [.int 1, .ref 1, .int 0, .ref 13, .int 0, .int 0, .ref 15]) rfl ?_
                    refine g_aa (i := 1) (a := 1) (n := 8) (v := 13) rfl rfl (by decide) (x_at (x_f1 hF) (k := 1) rfl) ?_
                    refine g_n 1 (pc' := 48) (L' := [some (.ref 0), some (.int 2), some (.int 1)]) (st' := [.int 0, .int 0, .ref 13, .int 0, .int 0, .ref 15]) rfl ?_
                    refine g_call (ins := .invokevirtual 169) (len := 3) (j := 15) (as := [.ref 15, .int 0, .int 0, .ref 13, .int 0, .int 0]) (rest := []) rfl rfl rfl rfl (fun _ => rfl) rfl ?_
                    refine g_in (M := x_M15) (L := [some (.ref 15), some (.int 0), some (.int 0), some (.ref 13), some (.int 0), some (.int 0), none, none, none, none]) x_pl15 rfl ?_
                    refine g_n 10 (pc' := 106) (L' := [some (.ref 15), some (.int 0), some (.int 0), some (.ref 13), some (.int 0), some (.int 0), some (.int 0), none, none, none]) (st' := [.int 1]) rfl ?_
                    refine g_ret (ins := .ireturn) (len := 1) (r := (some (.int 1))) rfl rfl rfl ?_
                    refine g_n 3 (pc' := 59) (L' := [some (.ref 0), some (.int 2), some (.int 1)]) (st' := [.int 1]) rfl ?_
                    refine g_ret (ins := .ireturn) (len := 1) (r := (some (.int 1))) rfl rfl rfl ?_
                    refine ⟨⟨_, rfl⟩, ?_⟩
                    refine g_in (M := x_M420) (L := [some (.ref 281), some (.int 2), some (.int 1), none, none]) x_pl420 rfl ?_
                    refine g_n 2 (pc' := 2) (L' := [some (.ref 281), some (.int 2), some (.int 1), none, none]) (st' := [.int 2, .ref 281]) rfl ?_
                    refine g_call (ins := .invokevirtual 671) (len := 3) (j := 411) (as := [.ref 281, .int 2]) (rest := []) rfl rfl rfl rfl (fun _ => rfl) rfl ?_
                    refine g_in (M := x_M411) (L := [some (.ref 281), some (.int 2)]) x_pl411 rfl ?_
                    refine g_n 7 (pc' := 15) (L' := [some (.ref 281), some (.int 2)]) (st' := [.int 1]) rfl ?_
                    refine g_ret (ins := .ireturn) (len := 1) (r := (some (.int 1))) rfl rfl rfl ?_
                    refine g_n 3 (pc' := 10) (L' := [some (.ref 281), some (.int 2), some (.int 1), none, none]) (st' := [.int 1, .ref 281]) rfl ?_
                    refine g_call (ins := .invokevirtual 671) (len := 3) (j := 411) (as := [.ref 281, .int 1]) (rest := []) rfl rfl rfl rfl (fun _ => rfl) rfl ?_
                    refine g_in (M := x_M411) (L := [some (.ref 281), some (.int 1)]) x_pl411 rfl ?_
                    refine g_n 7 (pc' := 15) (L' := [some (.ref 281), some (.int 1)]) (st' := [.int 1]) rfl ?_
                    refine g_ret (ins := .ireturn) (len := 1) (r := (some (.int 1))) rfl rfl rfl ?_
                    refine g_n 25 (pc' := 107) (L' := [some (.ref 281), some (.int 2), some (.int 1), some (.int 1), some (.int 0)]) (st' := [.int 1]) rfl ?_
                    exact g_ret (ins := .ireturn) (len := 1) (r := (some (.int 1))) rfl rfl rfl ⟨_, rfl, rfl, (x_sv_rf _)⟩
                  · have q87 : ¬ b = 1 := h85
                    have p88 : 2 ≤ b.toInt := x_lo_ne q87 p84 (by decide)
                    by_cases h89 : b = 2
                    · have e90 : b = 2 := h89
                      subst e90
                      refine g_aa (i := 2) (a := 1) (n := 8) (v := 15) rfl rfl (by decide) (x_at (x_f1 hF) (k := 2) rfl) ?_
                      refine g_n 4 (pc' := 44) (L' := [some (.ref 0), some (.int 2), some (.int 2)]) (st' := [.int 2, .ref 1, .int 0, .ref 15, .int 0, .int 0, .ref 15]) rfl ?_
                      refine g_aa (i := 2) (a := 1) (n := 8) (v := 15) rfl rfl (by decide) (x_at (x_f1 hF) (k := 2) rfl) ?_
                      refine g_n 1 (pc' := 48) (L' := [some (.ref 0), some (.int 2), some (.int 2)]) (st' := [.int 0, .int 0, .ref 15, .int 0, .int 0, .ref 15]) rfl ?_
                      refine g_call (ins := .invokevirtual 169) (len := 3) (j := 15) (as := [.ref 15, .int 0, .int 0, .ref 15, .int 0, .int 0]) (rest := []) rfl rfl rfl rfl (fun _ => rfl) rfl ?_
                      refine g_in (M := x_M15) (L := [some (.ref 15), some (.int 0), some (.int 0), some (.ref 15), some (.int 0), some (.int 0), none, none, none, none]) x_pl15 rfl ?_
                      refine g_n 10 (pc' := 106) (L' := [some (.ref 15), some (.int 0), some (.int 0), some (.ref 15), some (.int 0), some (.int 0), some (.int 0), none, none, none]) (st' := [.int 1]) rfl ?_
                      refine g_ret (ins := .ireturn) (len := 1) (r := (some (.int 1))) rfl rfl rfl ?_
                      refine g_n 3 (pc' := 59) (L' := [some (.ref 0), some (.int 2), some (.int 2)]) (st' := [.int 1]) rfl ?_
                      refine g_ret (ins := .ireturn) (len := 1) (r := (some (.int 1))) rfl rfl rfl ?_
                      refine ⟨⟨_, rfl⟩, ?_⟩
                      refine g_in (M := x_M420) (L := [some (.ref 281), some (.int 2), some (.int 2), none, none]) x_pl420 rfl ?_
                      refine g_n 2 (pc' := 2) (L' := [some (.ref 281), some (.int 2), some (.int 2), none, none]) (st' := [.int 2, .ref 281]) rfl ?_
                      refine g_call (ins := .invokevirtual 671) (len := 3) (j := 411) (as := [.ref 281, .int 2]) (rest := []) rfl rfl rfl rfl (fun _ => rfl) rfl ?_
                      refine g_in (M := x_M411) (L := [some (.ref 281), some (.int 2)]) x_pl411 rfl ?_
                      refine g_n 7 (pc' := 15) (L' := [some (.ref 281), some (.int 2)]) (st' := [.int 1]) rfl ?_
                      refine g_ret (ins := .ireturn) (len := 1) (r := (some (.int 1))) rfl rfl rfl ?_
                      refine g_n 3 (pc' := 10) (L' := [some (.ref 281), some (.int 2), some (.int 2), none, none]) (st' := [.int 2, .ref 281]) rfl ?_
                      refine g_call (ins := .invokevirtual 671) (len := 3) (j := 411) (as := [.ref 281, .int 2]) (rest := []) rfl rfl rfl rfl (fun _ => rfl) rfl ?_
                      refine g_in (M := x_M411) (L := [some (.ref 281), some (.int 2)]) x_pl411 rfl ?_
                      refine g_n 7 (pc' := 15) (L' := [some (.ref 281), some (.int 2)]) (st' := [.int 1]) rfl ?_
                      refine g_ret (ins := .ireturn) (len := 1) (r := (some (.int 1))) rfl rfl rfl ?_
                      refine g_n 25 (pc' := 107) (L' := [some (.ref 281), some (.int 2), some (.int 2), some (.int 1), some (.int 0)]) (st' := [.int 1]) rfl ?_
                      exact g_ret (ins := .ireturn) (len := 1) (r := (some (.int 1))) rfl rfl rfl ⟨_, rfl, rfl, (x_sv_rf _)⟩
                    · have q91 : ¬ b = 2 := h89
                      have p92 : 3 ≤ b.toInt := x_lo_ne q91 p88 (by decide)
                      by_cases h93 : b = 3
                      · have e94 : b = 3 := h93
                        subst e94
                        refine g_aa (i := 3) (a := 1) (n := 8) (v := 17) rfl rfl (by decide) (x_at (x_f1 hF) (k := 3) rfl) ?_
                        refine g_n 4 (pc' := 44) (L' := [some (.ref 0), some (.int 2), some (.int 3)]) (st' := [.int 3, .ref 1, .int 0, .ref 17, .int 0, .int 0, .ref 15]) rfl ?_
                        refine g_aa (i := 3) (a := 1) (n := 8) (v := 17) rfl rfl (by decide) (x_at (x_f1 hF) (k := 3) rfl) ?_
                        refine g_n 1 (pc' := 48) (L' := [some (.ref 0), some (.int 2), some (.int 3)]) (st' := [.int 0, .int 0, .ref 17, .int 0, .int 0, .ref 15]) rfl ?_
                        refine g_call (ins := .invokevirtual 169) (len := 3) (j := 15) (as := [.ref 15, .int 0, .int 0, .ref 17, .int 0, .int 0]) (rest := []) rfl rfl rfl rfl (fun _ => rfl) rfl ?_
                        refine g_in (M := x_M15) (L := [some (.ref 15), some (.int 0), some (.int 0), some (.ref 17), some (.int 0), some (.int 0), none, none, none, none]) x_pl15 rfl ?_
                        refine g_n 10 (pc' := 106) (L' := [some (.ref 15), some (.int 0), some (.int 0), some (.ref 17), some (.int 0), some (.int 0), some (.int 0), none, none, none]) (st' := [.int 1]) rfl ?_
                        refine g_ret (ins := .ireturn) (len := 1) (r := (some (.int 1))) rfl rfl rfl ?_
                        refine g_n 3 (pc' := 59) (L' := [some (.ref 0), some (.int 2), some (.int 3)]) (st' := [.int 1]) rfl ?_
                        refine g_ret (ins := .ireturn) (len := 1) (r := (some (.int 1))) rfl rfl rfl ?_
                        refine ⟨⟨_, rfl⟩, ?_⟩
                        refine g_in (M := x_M420) (L := [some (.ref 281), some (.int 2), some (.int 3), none, none]) x_pl420 rfl ?_
                        refine g_n 2 (pc' := 2) (L' := [some (.ref 281), some (.int 2), some (.int 3), none, none]) (st' := [.int 2, .ref 281]) rfl ?_
                        refine g_call (ins := .invokevirtual 671) (len := 3) (j := 411) (as := [.ref 281, .int 2]) (rest := []) rfl rfl rfl rfl (fun _ => rfl) rfl ?_
                        refine g_in (M := x_M411) (L := [some (.ref 281), some (.int 2)]) x_pl411 rfl ?_
                        refine g_n 7 (pc' := 15) (L' := [some (.ref 281), some (.int 2)]) (st' := [.int 1]) rfl ?_
                        refine g_ret (ins := .ireturn) (len := 1) (r := (some (.int 1))) rfl rfl rfl ?_
                        refine g_n 3 (pc' := 10) (L' := [some (.ref 281), some (.int 2), some (.int 3), none, none]) (st' := [.int 3, .ref 281]) rfl ?_
                        refine g_call (ins := .invokevirtual 671) (len := 3) (j := 411) (as := [.ref 281, .int 3]) (rest := []) rfl rfl rfl rfl (fun _ => rfl) rfl ?_
                        refine g_in (M := x_M411) (L := [some (.ref 281), some (.int 3)]) x_pl411 rfl ?_
                        refine g_n 7 (pc' := 15) (L' := [some (.ref 281), some (.int 3)]) (st' := [.int 1]) rfl ?_
                        refine g_ret (ins := .ireturn) (len := 1) (r := (some (.int 1))) rfl rfl rfl ?_
                        refine g_n 25 (pc' := 107) (L' := [some (.ref 281), some (.int 2), some (.int 3), some (.int 1), some (.int 0)]) (st' := [.int 1]) rfl ?_
                        exact g_ret (ins := .ireturn) (len := 1) (r := (some (.int 1))) rfl rfl rfl ⟨_, rfl, rfl, (x_sv_rf _)⟩
                      · have q95 : ¬ b = 3 := h93
                        have p96 : 4 ≤ b.toInt := x_lo_ne q95 p92 (by decide)
                        by_cases h97 : b = 4
                        · have e98 : b = 4 := h97
                          subst e98
                          refine g_aa (i := 4) (a := 1) (n := 8) (v := 19) rfl rfl (by decide) (x_at (x_f1 hF) (k := 4) rfl) ?_
                          refine g_n 4 (pc' := 44) (L' := [some (.ref 0), some (.int 2), some (.int 4)]) (st' := [.int 4, .ref 1, .int 0, .ref 19, .int 0, .int 0, .ref 15]) rfl ?_
                          refine g_aa (i := 4) (a := 1) (n := 8) (v := 19) rfl rfl (by decide) (x_at (x_f1 hF) (k := 4) rfl) ?_
                          refine g_n 1 (pc' := 48) (L' := [some (.ref 0), some (.int 2), some (.int 4)]) (st' := [.int 0, .int 0, .ref 19, .int 0, .int 0, .ref 15]) rfl ?_
                          refine g_call (ins := .invokevirtual 169) (len := 3) (j := 15) (as := [.ref 15, .int 0, .int 0, .ref 19, .int 0, .int 0]) (rest := []) rfl rfl rfl rfl (fun _ => rfl) rfl ?_
                          refine g_in (M := x_M15) (L := [some (.ref 15), some (.int 0), some (.int 0), some (.ref 19), some (.int 0), some (.int 0), none, none, none, none]) x_pl15 rfl ?_
                          refine g_n 10 (pc' := 106) (L' := [some (.ref 15), some (.int 0), some (.int 0), some (.ref 19), some (.int 0), some (.int 0), some (.int 0), none, none, none]) (st' := [.int 1]) rfl ?_
                          refine g_ret (ins := .ireturn) (len := 1) (r := (some (.int 1))) rfl rfl rfl ?_
                          refine g_n 3 (pc' := 59) (L' := [some (.ref 0), some (.int 2), some (.int 4)]) (st' := [.int 1]) rfl ?_
                          refine g_ret (ins := .ireturn) (len := 1) (r := (some (.int 1))) rfl rfl rfl ?_
                          refine ⟨⟨_, rfl⟩, ?_⟩
                          refine g_in (M := x_M420) (L := [some (.ref 281), some (.int 2), some (.int 4), none, none]) x_pl420 rfl ?_
                          refine g_n 2 (pc' := 2) (L' := [some (.ref 281), some (.int 2), some (.int 4), none, none]) (st' := [.int 2, .ref 281]) rfl ?_
                          refine g_call (ins := .invokevirtual 671) (len := 3) (j := 411) (as := [.ref 281, .int 2]) (rest := []) rfl rfl rfl rfl (fun _ => rfl) rfl ?_
                          refine g_in (M := x_M411) (L := [some (.ref 281), some (.int 2)]) x_pl411 rfl ?_
                          refine g_n 7 (pc' := 15) (L' := [some (.ref 281), some (.int 2)]) (st' := [.int 1]) rfl ?_
                          refine g_ret (ins := .ireturn) (len := 1) (r := (some (.int 1))) rfl rfl rfl ?_
                          refine g_n 3 (pc' := 10) (L' := [some (.ref 281), some (.int 2), some (.int 4), none, none]) (st' := [.int 4, .ref 281]) rfl ?_
                          refine g_call (ins := .invokevirtual 671) (len := 3) (j := 411) (as := [.ref 281, .int 4]) (rest := []) rfl rfl rfl rfl (fun _ => rfl) rfl ?_
                          refine g_in (M := x_M411) (L := [some (.ref 281), some (.int 4)]) x_pl411 rfl ?_
                          refine g_n 7 (pc' := 15) (L' := [some (.ref 281), some (.int 4)]) (st' := [.int 1]) rfl ?_
                          refine g_ret (ins := .ireturn) (len := 1) (r := (some (.int 1))) rfl rfl rfl ?_
                          refine g_n 25 (pc' := 107) (L' := [some (.ref 281), some (.int 2), some (.int 4), some (.int 1), some (.int 0)]) (st' := [.int 1]) rfl ?_
                          exact g_ret (ins := .ireturn) (len := 1) (r := (some (.int 1))) rfl rfl rfl ⟨_, rfl, rfl, (x_sv_rf _)⟩
                        · have q99 : ¬ b = 4 := h97
                          have p100 : 5 ≤ b.toInt := x_lo_ne q99 p96 (by decide)
                          by_cases h101 : b = 5
                          · have e102 : b = 5 := h101
                            subst e102
                            refine g_aa (i := 5) (a := 1) (n := 8) (v := 21) rfl rfl (by decide) (x_at (x_f1 hF) (k := 5) rfl) ?_
                            refine g_n 4 (pc' := 44) (L' := [some (.ref 0), some (.int 2), some (.int 5)]) (st' := [.int 5, .ref 1, .int 0, .ref 21, .int 0, .int 0, .ref 15]) rfl ?_
                            refine g_aa (i := 5) (a := 1) (n := 8) (v := 21) rfl rfl (by decide) (x_at (x_f1 hF) (k := 5) rfl) ?_
                            refine g_n 1 (pc' := 48) (L' := [some (.ref 0), some (.int 2), some (.int 5)]) (st' := [.int 0, .int 0, .ref 21, .int 0, .int 0, .ref 15]) rfl ?_
                            refine g_call (ins := .invokevirtual 169) (len := 3) (j := 15) (as := [.ref 15, .int 0, .int 0, .ref 21, .int 0, .int 0]) (rest := []) rfl rfl rfl rfl (fun _ => rfl) rfl ?_
                            refine g_in (M := x_M15) (L := [some (.ref 15), some (.int 0), some (.int 0), some (.ref 21), some (.int 0), some (.int 0), none, none, none, none]) x_pl15 rfl ?_
                            refine g_n 10 (pc' := 106) (L' := [some (.ref 15), some (.int 0), some (.int 0), some (.ref 21), some (.int 0), some (.int 0), some (.int 0), none, none, none]) (st' := [.int 1]) rfl ?_
                            refine g_ret (ins := .ireturn) (len := 1) (r := (some (.int 1))) rfl rfl rfl ?_
                            refine g_n 3 (pc' := 59) (L' := [some (.ref 0), some (.int 2), some (.int 5)]) (st' := [.int 1]) rfl ?_
                            refine g_ret (ins := .ireturn) (len := 1) (r := (some (.int 1))) rfl rfl rfl ?_
                            refine ⟨⟨_, rfl⟩, ?_⟩
                            refine g_in (M := x_M420) (L := [some (.ref 281), some (.int 2), some (.int 5), none, none]) x_pl420 rfl ?_
                            refine g_n 2 (pc' := 2) (L' := [some (.ref 281), some (.int 2), some (.int 5), none, none]) (st' := [.int 2, .ref 281]) rfl ?_
                            refine g_call (ins := .invokevirtual 671) (len := 3) (j := 411) (as := [.ref 281, .int 2]) (rest := []) rfl rfl rfl rfl (fun _ => rfl) rfl ?_
                            refine g_in (M := x_M411) (L := [some (.ref 281), some (.int 2)]) x_pl411 rfl ?_
                            refine g_n 7 (pc' := 15) (L' := [some (.ref 281), some (.int 2)]) (st' := [.int 1]) rfl ?_
                            refine g_ret (ins := .ireturn) (len := 1) (r := (some (.int 1))) rfl rfl rfl ?_
                            refine g_n 3 (pc' := 10) (L' := [some (.ref 281), some (.int 2), some (.int 5), none, none]) (st' := [.int 5, .ref 281]) rfl ?_
                            refine g_call (ins := .invokevirtual 671) (len := 3) (j := 411) (as := [.ref 281, .int 5]) (rest := []) rfl rfl rfl rfl (fun _ => rfl) rfl ?_
                            refine g_in (M := x_M411) (L := [some (.ref 281), some (.int 5)]) x_pl411 rfl ?_
                            refine g_n 7 (pc' := 15) (L' := [some (.ref 281), some (.int 5)]) (st' := [.int 1]) rfl ?_
                            refine g_ret (ins := .ireturn) (len := 1) (r := (some (.int 1))) rfl rfl rfl ?_
                            refine g_n 25 (pc' := 107) (L' := [some (.ref 281), some (.int 2), some (.int 5), some (.int 1), some (.int 0)]) (st' := [.int 1]) rfl ?_
                            exact g_ret (ins := .ireturn) (len := 1) (r := (some (.int 1))) rfl rfl rfl ⟨_, rfl, rfl, (x_sv_rf _)⟩
                          · have q103 : ¬ b = 5 := h101
                            have p104 : 6 ≤ b.toInt := x_lo_ne q103 p100 (by decide)
                            by_cases h105 : b = 6
                            · have e106 : b = 6 := h105
                              subst e106
                              refine g_aa (i := 6) (a := 1) (n := 8) (v := 23) rfl rfl (by decide) (x_at (x_f1 hF) (k := 6) rfl) ?_
                              refine g_n 4 (pc' := 44) (L' := [some (.ref 0), some (.int 2), some (.int 6)]) (st' := [.int 6, .ref 1, .int 0, .ref 23, .int 0, .int 0, .ref 15]) rfl ?_
                              refine g_aa (i := 6) (a := 1) (n := 8) (v := 23) rfl rfl (by decide) (x_at (x_f1 hF) (k := 6) rfl) ?_
                              refine g_n 1 (pc' := 48) (L' := [some (.ref 0), some (.int 2), some (.int 6)]) (st' := [.int 0, .int 0, .ref 23, .int 0, .int 0, .ref 15]) rfl ?_
                              refine g_call (ins := .invokevirtual 169) (len := 3) (j := 15) (as := [.ref 15, .int 0, .int 0, .ref 23, .int 0, .int 0]) (rest := []) rfl rfl rfl rfl (fun _ => rfl) rfl ?_
                              refine g_in (M := x_M15) (L := [some (.ref 15), some (.int 0), some (.int 0), some (.ref 23), some (.int 0), some (.int 0), none, none, none, none]) x_pl15 rfl ?_
                              refine g_n 10 (pc' := 106) (L' := [some (.ref 15), some (.int 0), some (.int 0), some (.ref 23), some (.int 0), some (.int 0), some (.int 0), none, none, none]) (st' := [.int 1]) rfl ?_
                              refine g_ret (ins := .ireturn) (len := 1) (r := (some (.int 1))) rfl rfl rfl ?_
                              refine g_n 3 (pc' := 59) (L' := [some (.ref 0), some (.int 2), some (.int 6)]) (st' := [.int 1]) rfl ?_
                              refine g_ret (ins := .ireturn) (len := 1) (r := (some (.int 1))) rfl rfl rfl ?_
                              refine ⟨⟨_, rfl⟩, ?_⟩
                              refine g_in (M := x_M420) (L := [some (.ref 281), some (.int 2), some (.int 6), none, none]) x_pl420 rfl ?_
                              refine g_n 2 (pc' := 2) (L' := [some (.ref 281), some (.int 2), some (.int 6), none, none]) (st' := [.int 2, .ref 281]) rfl ?_
                              refine g_call (ins := .invokevirtual 671) (len := 3) (j := 411) (as := [.ref 281, .int 2]) (rest := []) rfl rfl rfl rfl (fun _ => rfl) rfl ?_
                              refine g_in (M := x_M411) (L := [some (.ref 281), some (.int 2)]) x_pl411 rfl ?_
                              refine g_n 7 (pc' := 15) (L' := [some (.ref 281), some (.int 2)]) (st' := [.int 1]) rfl ?_
                              refine g_ret (ins := .ireturn) (len := 1) (r := (some (.int 1))) rfl rfl rfl ?_
                              refine g_n 3 (pc' := 10) (L' := [some (.ref 281), some (.int 2), some (.int 6), none, none]) (st' := [.int 6, .ref 281]) rfl ?_
                              refine g_call (ins := .invokevirtual 671) (len := 3) (j := 411) (as := [.ref 281, .int 6]) (rest := []) rfl rfl rfl rfl (fun _ => rfl) rfl ?_
                              refine g_in (M := x_M411) (L := [some (.ref 281), some (.int 6)]) x_pl411 rfl ?_
                              refine g_n 7 (pc' := 15) (L' := [some (.ref 281), some (.int 6)]) (st' := [.int 1]) rfl ?_
                              refine g_ret (ins := .ireturn) (len := 1) (r := (some (.int 1))) rfl rfl rfl ?_
                              refine g_n 25 (pc' := 107) (L' := [some (.ref 281), some (.int 2), some (.int 6), some (.int 1), some (.int 0)]) (st' := [.int 1]) rfl ?_
                              exact g_ret (ins := .ireturn) (len := 1) (r := (some (.int 1))) rfl rfl rfl ⟨_, rfl, rfl, (x_sv_rf _)⟩
                            · have q107 : ¬ b = 6 := h105
                              have p108 : 7 ≤ b.toInt := x_lo_ne q107 p104 (by decide)
                              have e109 : b = 7 := x_sing p108 p12 (by decide)
                              subst e109
                              refine g_aa (i := 7) (a := 1) (n := 8) (v := 25) rfl rfl (by decide) (x_at (x_f1 hF) (k := 7) rfl) ?_
                              refine g_n 4 (pc' := 44) (L' := [some (.ref 0), some (.int 2), some (.int 7)]) (st' := [.int 7, .ref 1, .int 0, .ref 25, .int 0, .int 0, .ref 15]) rfl ?_
                              refine g_aa (i := 7) (a := 1) (n := 8) (v := 25) rfl rfl (by decide) (x_at (x_f1 hF) (k := 7) rfl) ?_
                              refine g_n 1 (pc' := 48) (L' := [some (.ref 0), some (.int 2), some (.int 7)]) (st' := [.int 0, .int 0, .ref 25, .int 0, .int 0, .ref 15]) rfl ?_
                              refine g_call (ins := .invokevirtual 169) (len := 3) (j := 15) (as := [.ref 15, .int 0, .int 0, .ref 25, .int 0, .int 0]) (rest := []) rfl rfl rfl rfl (fun _ => rfl) rfl ?_
                              refine g_in (M := x_M15) (L := [some (.ref 15), some (.int 0), some (.int 0), some (.ref 25), some (.int 0), some (.int 0), none, none, none, none]) x_pl15 rfl ?_
                              refine g_n 10 (pc' := 106) (L' := [some (.ref 15), some (.int 0), some (.int 0), some (.ref 25), some (.int 0), some (.int 0), some (.int 0), none, none, none]) (st' := [.int 1]) rfl ?_
                              refine g_ret (ins := .ireturn) (len := 1) (r := (some (.int 1))) rfl rfl rfl ?_
                              refine g_n 3 (pc' := 59) (L' := [some (.ref 0), some (.int 2), some (.int 7)]) (st' := [.int 1]) rfl ?_
                              refine g_ret (ins := .ireturn) (len := 1) (r := (some (.int 1))) rfl rfl rfl ?_
                              refine ⟨⟨_, rfl⟩, ?_⟩
                              refine g_in (M := x_M420) (L := [some (.ref 281), some (.int 2), some (.int 7), none, none]) x_pl420 rfl ?_
                              refine g_n 2 (pc' := 2) (L' := [some (.ref 281), some (.int 2), some (.int 7), none, none]) (st' := [.int 2, .ref 281]) rfl ?_
                              refine g_call (ins := .invokevirtual 671) (len := 3) (j := 411) (as := [.ref 281, .int 2]) (rest := []) rfl rfl rfl rfl (fun _ => rfl) rfl ?_
                              refine g_in (M := x_M411) (L := [some (.ref 281), some (.int 2)]) x_pl411 rfl ?_
                              refine g_n 7 (pc' := 15) (L' := [some (.ref 281), some (.int 2)]) (st' := [.int 1]) rfl ?_
                              refine g_ret (ins := .ireturn) (len := 1) (r := (some (.int 1))) rfl rfl rfl ?_
                              refine g_n 3 (pc' := 10) (L' := [some (.ref 281), some (.int 2), some (.int 7), none, none]) (st' := [.int 7, .ref 281]) rfl ?_
                              refine g_call (ins := .invokevirtual 671) (len := 3) (j := 411) (as := [.ref 281, .int 7]) (rest := []) rfl rfl rfl rfl (fun _ => rfl) rfl ?_
                              refine g_in (M := x_M411) (L := [some (.ref 281), some (.int 7)]) x_pl411 rfl ?_
                              refine g_n 7 (pc' := 15) (L' := [some (.ref 281), some (.int 7)]) (st' := [.int 1]) rfl ?_
                              refine g_ret (ins := .ireturn) (len := 1) (r := (some (.int 1))) rfl rfl rfl ?_
                              refine g_n 25 (pc' := 107) (L' := [some (.ref 281), some (.int 2), some (.int 7), some (.int 1), some (.int 0)]) (st' := [.int 1]) rfl ?_
                              exact g_ret (ins := .ireturn) (len := 1) (r := (some (.int 1))) rfl rfl rfl ⟨_, rfl, rfl, (x_sv_rf _)⟩
              · have q110 : ¬ a = 2 := h79
                have p111 : 3 ≤ a.toInt := x_lo_ne q110 p78 (by decide)
                by_cases h112 : a = 3
                · have e113 : a = 3 := h112
                  subst e113
                  refine g_aa (i := 3) (a := 1) (n := 8) (v := 17) rfl rfl (by decide) (x_at (x_f1 hF) (k := 3) rfl) ?_
                  refine g_n 4 (pc' := 28) (L' := [some (.ref 0), some (.int 3), some (.int b)]) (st' := [.int 3, .ref 1, .int 0, .ref 17]) rfl ?_
                  refine g_aa (i := 3) (a := 1) (n := 8) (v := 17) rfl rfl (by decide) (x_at (x_f1 hF) (k := 3) rfl) ?_
                  refine g_n 4 (pc' := 37) (L' := [some (.ref 0), some (.int 3), some (.int b)]) (st' := [.int b, .ref 1, .int 0, .int 0, .ref 17]) rfl ?_
                  by_cases h114 : b = 0
                  · have e115 : b = 0 := h114
                    subst e115
                    refine g_aa (i := 0) (a := 1) (n := 8) (v := 11) rfl rfl (by decide) (x_at (x_f1 hF) (k := 0) rfl) ?_
                    refine g_n 4 (pc' := 44) (L' := [some (.ref 0), some (.int 3), some (.int 0)]) (st' := [.int 0, .ref 1, .int 0, .ref 11, .int 0, .int 0, .ref 17]) rfl ?_
                    refine g_aa (i := 0) (a := 1) (n := 8) (v := 11) rfl rfl (by decide) (x_at (x_f1 hF) (k := 0) rfl) ?_
                    refine g_n 1 (pc' := 48) (L' := [some (.ref 0), some (.int 3), some (.int 0)]) (st' := [.int 0, .int 0, .ref 11, .int 0, .int 0, .ref 17]) rfl ?_
                    refine g_call (ins := .invokevirtual 169) (len := 3) (j := 15) (as := [.ref 17, .int 0, .int 0, .ref 11, .int 0, .int 0]) (rest := []) rfl rfl rfl rfl (fun _ => rfl) rfl ?_
                    refine g_in (M := x_M15) (L := [some (.ref 17), some (.int 0), some (.int 0), some (.ref 11), some (.int 0), some (.int 0), none, none, none, none]) x_pl15 rfl ?_
                    refine g_n 10 (pc' := 106) (L' := [some (.ref 17), some (.int 0), some (.int 0), some (.ref 11), some (.int 0), some (.int 0), some (.int 0), none, none, none]) (st' := [.int 1]) rfl ?_
                    refine g_ret (ins := .ireturn) (len := 1) (r := (some (.int 1))) rfl rfl rfl ?_
                    refine g_n 3 (pc' := 59) (L' := [some (.ref 0), some (.int 3), some (.int 0)]) (st' := [.int 1]) rfl ?_
                    refine g_ret (ins := .ireturn) (len := 1) (r := (some (.int 1))) rfl rfl rfl ?_
                    refine ⟨⟨_, rfl⟩, ?_⟩
                    refine g_in (M := x_M420) (L := [some (.ref 281), some (.int 3), some (.int 0), none, none]) x_pl420 rfl ?_
                    refine g_n 2 (pc' := 2) (L' := [some (.ref 281), some (.int 3), some (.int 0), none, none]) (st' := [.int 3, .ref 281]) rfl ?_
                    refine g_call (ins := .invokevirtual 671) (len := 3) (j := 411) (as := [.ref 281, .int 3]) (rest := []) rfl rfl rfl rfl (fun _ => rfl) rfl ?_
                    refine g_in (M := x_M411) (L := [some (.ref 281), some (.int 3)]) x_pl411 rfl ?_
                    refine g_n 7 (pc' := 15) (L' := [some (.ref 281), some (.int 3)]) (st' := [.int 1]) rfl ?_
                    refine g_ret (ins := .ireturn) (len := 1) (r := (some (.int 1))) rfl rfl rfl ?_
                    refine g_n 3 (pc' := 10) (L' := [some (.ref 281), some (.int 3), some (.int 0), none, none]) (st' := [.int 0, .ref 281]) rfl ?_
                    refine g_call (ins := .invokevirtual 671) (len := 3) (j := 411) (as := [.ref 281, .int 0]) (rest := []) rfl rfl rfl rfl (fun _ => rfl) rfl ?_
                    refine g_in (M := x_M411) (L := [some (.ref 281), some (.int 0)]) x_pl411 rfl ?_
                    refine g_n 7 (pc' := 15) (L' := [some (.ref 281), some (.int 0)]) (st' := [.int 1]) rfl ?_
                    refine g_ret (ins := .ireturn) (len := 1) (r := (some (.int 1))) rfl rfl rfl ?_
                    refine g_n 25 (pc' := 107) (L' := [some (.ref 281), some (.int 3), some (.int 0), some (.int 1), some (.int 0)]) (st' := [.int 1]) rfl ?_
                    exact g_ret (ins := .ireturn) (len := 1) (r := (some (.int 1))) rfl rfl rfl ⟨_, rfl, rfl, (x_sv_rf _)⟩
                  · have q116 : ¬ b = 0 := h114
                    have p117 : 1 ≤ b.toInt := x_lo_ne q116 p9 (by decide)
                    by_cases h118 : b = 1
                    · have e119 : b = 1 := h118
                      subst e119
                      refine g_aa (i := 1) (a := 1) (n := 8) (v := 13) rfl rfl (by decide) (x_at (x_f1 hF) (k := 1) rfl) ?_
                      refine g_n 4 (pc' := 44) (L' := [some (.ref 0), some (.int 3), some (.int 1)]) (st' := [.int 1, .ref 1, .int 0, .ref 13, .int 0, .int 0, .ref 17]) rfl ?_
                      refine g_aa (i := 1) (a := 1) (n := 8) (v := 13) rfl rfl (by decide) (x_at (x_f1 hF) (k := 1) rfl) ?_
                      refine g_n 1 (pc' := 48) (L' := [some (.ref 0), some (.int 3), some (.int 1)]) (st' := [.int 0, .int 0, .ref 13, .int 0, .int 0, .ref 17]) rfl ?_
                      refine g_call (ins := .invokevirtual 169) (len := 3) (j := 15) (as := [.ref 17, .int 0, .int 0, .ref 13, .int 0, .int 0]) (rest := []) rfl rfl rfl rfl (fun _ => rfl) rfl ?_
                      refine g_in (M := x_M15) (L := [some (.ref 17), some (.int 0), some (.int 0), some (.ref 13), some (.int 0), some (.int 0), none, none, none, none]) x_pl15 rfl ?_
                      refine g_n 10 (pc' := 106) (L' := [some (.ref 17), some (.int 0), some (.int 0), some (.ref 13), some (.int 0), some (.int 0), some (.int 0), none, none, none]) (st' := [.int 1]) rfl ?_
                      refine g_ret (ins := .ireturn) (len := 1) (r := (some (.int 1))) rfl rfl rfl ?_
                      refine g_n 3 (pc' := 59) (L' := [some (.ref 0), some (.int 3), some (.int 1)]) (st' := [.int 1]) rfl ?_
                      refine g_ret (ins := .ireturn) (len := 1) (r := (some (.int 1))) rfl rfl rfl ?_
                      refine ⟨⟨_, rfl⟩, ?_⟩
                      refine g_in (M := x_M420) (L := [some (.ref 281), some (.int 3), some (.int 1), none, none]) x_pl420 rfl ?_
                      refine g_n 2 (pc' := 2) (L' := [some (.ref 281), some (.int 3), some (.int 1), none, none]) (st' := [.int 3, .ref 281]) rfl ?_
                      refine g_call (ins := .invokevirtual 671) (len := 3) (j := 411) (as := [.ref 281, .int 3]) (rest := []) rfl rfl rfl rfl (fun _ => rfl) rfl ?_
                      refine g_in (M := x_M411) (L := [some (.ref 281), some (.int 3)]) x_pl411 rfl ?_
                      refine g_n 7 (pc' := 15) (L' := [some (.ref 281), some (.int 3)]) (st' := [.int 1]) rfl ?_
                      refine g_ret (ins := .ireturn) (len := 1) (r := (some (.int 1))) rfl rfl rfl ?_
                      refine g_n 3 (pc' := 10) (L' := [some (.ref 281), some (.int 3), some (.int 1), none, none]) (st' := [.int 1, .ref 281]) rfl ?_
                      refine g_call (ins := .invokevirtual 671) (len := 3) (j := 411) (as := [.ref 281, .int 1]) (rest := []) rfl rfl rfl rfl (fun _ => rfl) rfl ?_
                      refine g_in (M := x_M411) (L := [some (.ref 281), some (.int 1)]) x_pl411 rfl ?_
                      refine g_n 7 (pc' := 15) (L' := [some (.ref 281), some (.int 1)]) (st' := [.int 1]) rfl ?_
                      refine g_ret (ins := .ireturn) (len := 1) (r := (some (.int 1))) rfl rfl rfl ?_
                      refine g_n 25 (pc' := 107) (L' := [some (.ref 281), some (.int 3), some (.int 1), some (.int 1), some (.int 0)]) (st' := [.int 1]) rfl ?_
                      exact g_ret (ins := .ireturn) (len := 1) (r := (some (.int 1))) rfl rfl rfl ⟨_, rfl, rfl, (x_sv_rf _)⟩
                    · have q120 : ¬ b = 1 := h118
                      have p121 : 2 ≤ b.toInt := x_lo_ne q120 p117 (by decide)
                      by_cases h122 : b = 2
                      · have e123 : b = 2 := h122
                        subst e123
                        refine g_aa (i := 2) (a := 1) (n := 8) (v := 15) rfl rfl (by decide) (x_at (x_f1 hF) (k := 2) rfl) ?_
                        refine g_n 4 (pc' := 44) (L' := [some (.ref 0), some (.int 3), some (.int 2)]) (st' := [.int 2, .ref 1, .int 0, .ref 15, .int 0, .int 0, .ref 17]) rfl ?_
                        refine g_aa (i := 2) (a := 1) (n := 8) (v := 15) rfl rfl (by decide) (x_at (x_f1 hF) (k := 2) rfl) ?_
                        refine g_n 1 (pc' := 48) (L' := [some (.ref 0), some (.int 3), some (.int 2)]) (st' := [.int 0, .int 0, .ref 15, .int 0, .int 0, .ref 17]) rfl ?_
                        refine g_call (ins := .invokevirtual 169) (len := 3) (j := 15) (as := [.ref 17, .int 0, .int 0, .ref 15, .int 0, .int 0]) (rest := []) rfl rfl rfl rfl (fun _ => rfl) rfl ?_
                        refine g_in (M := x_M15) (L := [some (.ref 17), some (.int 0), some (.int 0), some (.ref 15), some (.int 0), some (.int 0), none, none, none, none]) x_pl15 rfl ?_
                        refine g_n 10 (pc' := 106) (L' := [some (.ref 17), some (.int 0), some (.int 0), some (.ref 15), some (.int 0), some (.int 0), some (.int 0), none, none, none]) (st' := [.int 1]) rfl ?_
                        refine g_ret (ins := .ireturn) (len := 1) (r := (some (.int 1))) rfl rfl rfl ?_
                        refine g_n 3 (pc' := 59) (L' := [some (.ref 0), some (.int 3), some (.int 2)]) (st' := [.int 1]) rfl ?_
                        refine g_ret (ins := .ireturn) (len := 1) (r := (some (.int 1))) rfl rfl rfl ?_
                        refine ⟨⟨_, rfl⟩, ?_⟩
                        refine g_in (M := x_M420) (L := [some (.ref 281), some (.int 3), some (.int 2), none, none]) x_pl420 rfl ?_
                        refine g_n 2 (pc' := 2) (L' := [some (.ref 281), some (.int 3), some (.int 2), none, none]) (st' := [.int 3, .ref 281]) rfl ?_
                        refine g_call (ins := .invokevirtual 671) (len := 3) (j := 411) (as := [.ref 281, .int 3]) (rest := []) rfl rfl rfl rfl (fun _ => rfl) rfl ?_
                        refine g_in (M := x_M411) (L := [some (.ref 281), some (.int 3)]) x_pl411 rfl ?_
                        refine g_n 7 (pc' := 15) (L' := [some (.ref 281), some (.int 3)]) (st' := [.int 1]) rfl ?_
                        refine g_ret (ins := .ireturn) (len := 1) (r := (some (.int 1))) rfl rfl rfl ?_
                        refine g_n 3 (pc' := 10) (L' := [some (.ref 281), some (.int 3), some (.int 2), none, none]) (st' := [.int 2, .ref 281]) rfl ?_
                        refine g_call (ins := .invokevirtual 671) (len := 3) (j := 411) (as := [.ref 281, .int 2]) (rest := []) rfl rfl rfl rfl (fun _ => rfl) rfl ?_
                        refine g_in (M := x_M411) (L := [some (.ref 281), some (.int 2)]) x_pl411 rfl ?_
                        refine g_n 7 (pc' := 15) (L' := [some (.ref 281), some (.int 2)]) (st' := [.int 1]) rfl ?_
                        refine g_ret (ins := .ireturn) (len := 1) (r := (some (.int 1))) rfl rfl rfl ?_
                        refine g_n 25 (pc' := 107) (L' := [some (.ref 281), some (.int 3), some (.int 2), some (.int 1), some (.int 0)]) (st' := [.int 1]) rfl ?_
                        exact g_ret (ins := .ireturn) (len := 1) (r := (some (.int 1))) rfl rfl rfl ⟨_, rfl, rfl, (x_sv_rf _)⟩
                      · have q124 : ¬ b = 2 := h122
                        have p125 : 3 ≤ b.toInt := x_lo_ne q124 p121 (by decide)
                        by_cases h126 : b = 3
                        · have e127 : b = 3 := h126
                          subst e127
                          refine g_aa (i := 3) (a := 1) (n := 8) (v := 17) rfl rfl (by decide) (x_at (x_f1 hF) (k := 3) rfl) ?_
                          refine g_n 4 (pc' := 44) (L' := [some (.ref 0), some (.int 3), some (.int 3)]) (st' := [.int 3, .ref 1, .int 0, .ref 17, .int 0, .int 0, .ref 17]) rfl ?_
                          refine g_aa (i := 3) (a := 1) (n := 8) (v := 17) rfl rfl (by decide) (x_at (x_f1 hF) (k := 3) rfl) ?_
                          refine g_n 1 (pc' := 48) (L' := [some (.ref 0), some (.int 3), some (.int 3)]) (st' := [.int 0, .int 0, .ref 17, .int 0, .int 0, .ref 17]) rfl ?_
                          refine g_call (ins := .invokevirtual 169) (len := 3) (j := 15) (as := [.ref 17, .int 0, .int 0, .ref 17, .int 0, .int 0]) (rest := []) rfl rfl rfl rfl (fun _ => rfl) rfl ?_
                          refine g_in (M := x_M15) (L := [some (.ref 17), some (.int 0), some (.int 0), some (.ref 17), some (.int 0), some (.int 0), none, none, none, none]) x_pl15 rfl ?_
                          refine g_n 10 (pc' := 106) (L' := [some (.ref 17), some (.int 0), some (.int 0), some (.ref 17), some (.int 0), some (.int 0), some (.int 0), none, none, none]) (st' := [.int 1]) rfl ?_
                          refine g_ret (ins := .ireturn) (len := 1) (r := (some (.int 1))) rfl rfl rfl ?_
                          refine g_n 3 (pc' := 59) (L' := [some (.ref 0), some (.int 3), some (.int 3)]) (st' := [.int 1]) rfl ?_
                          refine g_ret (ins := .ireturn) (len := 1) (r := (some (.int 1))) rfl rfl rfl ?_
                          refine ⟨⟨_, rfl⟩, ?_⟩
                          refine g_in (M := x_M420) (L := [some (.ref 281), some (.int 3), some (.int 3), none, none]) x_pl420 rfl ?_
                          refine g_n 2 (pc' := 2) (L' := [some (.ref 281), some (.int 3), some (.int 3), none, none]) (st' := [.int 3, .ref 281]) rfl ?_
                          refine g_call (ins := .invokevirtual 671) (len := 3) (j := 411) (as := [.ref 281, .int 3]) (rest := []) rfl rfl rfl rfl (fun _ => rfl) rfl ?_
                          refine g_in (M := x_M411) (L := [some (.ref 281), some (.int 3)]) x_pl411 rfl ?_
                          refine g_n 7 (pc' := 15) (L' := [some (.ref 281), some (.int 3)]) (st' := [.int 1]) rfl ?_
                          refine g_ret (ins := .ireturn) (len := 1) (r := (some (.int 1))) rfl rfl rfl ?_
                          refine g_n 3 (pc' := 10) (L' := [some (.ref 281), some (.int 3), some (.int 3), none, none]) (st' := [.int 3, .ref 281]) rfl ?_
                          refine g_call (ins := .invokevirtual 671) (len := 3) (j := 411) (as := [.ref 281, .int 3]) (rest := []) rfl rfl rfl rfl (fun _ => rfl) rfl ?_
                          refine g_in (M := x_M411) (L := [some (.ref 281), some (.int 3)]) x_pl411 rfl ?_
                          refine g_n 7 (pc' := 15) (L' := [some (.ref 281), some (.int 3)]) (st' := [.int 1]) rfl ?_
                          refine g_ret (ins := .ireturn) (len := 1) (r := (some (.int 1))) rfl rfl rfl ?_
                          refine g_n 25 (pc' := 107) (L' := [some (.ref 281), some (.int 3), some (.int 3), some (.int 1), some (.int 0)]) (st' := [.int 1]) rfl ?_
                          exact g_ret (ins := .ireturn) (len := 1) (r := (some (.int 1))) rfl rfl rfl ⟨_, rfl, rfl, (x_sv_rf _)⟩
                        · have q128 : ¬ b = 3 := h126
                          have p129 : 4 ≤ b.toInt := x_lo_ne q128 p125 (by decide)
                          by_cases h130 : b = 4
                          · have e131 : b = 4 := h130
                            subst e131
                            refine g_aa (i := 4) (a := 1) (n := 8) (v := 19) rfl rfl (by decide) (x_at (x_f1 hF) (k := 4) rfl) ?_
                            refine g_n 4 (pc' := 44) (L' := [some (.ref 0), some (.int 3), some (.int 4)]) (st' := [.int 4, .ref 1, .int 0, .ref 19, .int 0, .int 0, .ref 17]) rfl ?_
                            refine g_aa (i := 4) (a := 1) (n := 8) (v := 19) rfl rfl (by decide) (x_at (x_f1 hF) (k := 4) rfl) ?_
                            refine g_n 1 (pc' := 48) (L' := [some (.ref 0), some (.int 3), some (.int 4)]) (st' := [.int 0, .int 0, .ref 19, .int 0, .int 0, .ref 17]) rfl ?_
                            refine g_call (ins := .invokevirtual 169) (len := 3) (j := 15) (as := [.ref 17, .int 0, .int 0, .ref 19, .int 0, .int 0]) (rest := []) rfl rfl rfl rfl (fun _ => rfl) rfl ?_
                            refine g_in (M := x_M15) (L := [some (.ref 17), some (.int 0), some (.int 0), some (.ref 19), some (.int 0), some (.int 0), none, none, none, none]) x_pl15 rfl ?_
                            refine g_n 10 (pc' := 106) (L' := [some (.ref 17), some (.int 0), some (.int 0), some (.ref 19), some (.int 0), some (.int 0), some (.int 0), none, none, none]) (st' := [.int 1]) rfl ?_
                            refine g_ret (ins := .ireturn) (len := 1) (r := (some (.int 1))) rfl rfl rfl ?_
                            refine g_n 3 (pc' := 59) (L' := [some (.ref 0), some (.int 3), some (.int 4)]) (st' := [.int 1]) rfl ?_
                            refine g_ret (ins := .ireturn) (len := 1) (r := (some (.int 1))) rfl rfl rfl ?_
                            refine ⟨⟨_, rfl⟩, ?_⟩
                            refine g_in (M := x_M420) (L := [some (.ref 281), some (.int 3), some (.int 4), none, none]) x_pl420 rfl ?_
                            refine g_n 2 (pc' := 2) (L' := [some (.ref 281), some (.int 3), some (.int 4), none, none]) (st' := [.int 3, .ref 281]) rfl ?_
                            refine g_call (ins := .invokevirtual 671) (len := 3) (j := 411) (as := [.ref 281, .int 3]) (rest := []) rfl rfl rfl rfl (fun _ => rfl) rfl ?_
                            refine g_in (M := x_M411) (L := [some (.ref 281), some (.int 3)]) x_pl411 rfl ?_
                            refine g_n 7 (pc' := 15) (L' := [some (.ref 281), some (.int 3)]) (st' := [.int 1]) rfl ?_
                            refine g_ret (ins := .ireturn) (len := 1) (r := (some (.int 1))) rfl rfl rfl ?_
                            refine g_n 3 (pc' := 10) (L' := [some (.ref 281), some (.int 3), some (.int 4), none, none]) (st' := [.int 4, .ref 281]) rfl ?_
                            refine g_call (ins := .invokevirtual 671) (len := 3) (j := 411) (as := [.ref 281, .int 4]) (rest := []) rfl rfl rfl rfl (fun _ => rfl) rfl ?_
                            refine g_in (M := x_M411) (L := [some (.ref 281), some (.int 4)]) x_pl411 rfl ?_
                            refine g_n 7 (pc' := 15) (L' := [some (.ref 281), some (.int 4)]) (st' := [.int 1]) rfl ?_
                            refine g_ret (ins := .ireturn) (len := 1) (r := (some (.int 1))) rfl rfl rfl ?_
                            refine g_n 25 (pc' := 107) (L' := [some (.ref 281), some (.int 3), some (.int 4), some (.int 1), some (.int 0)]) (st' := [.int 1]) rfl ?_
                            exact g_ret (ins := .ireturn) (len := 1) (r := (some (.int 1))) rfl rfl rfl ⟨_, rfl, rfl, (x_sv_rf _)⟩
                          · have q132 : ¬ b = 4 := h130
                            have p133 : 5 ≤ b.toInt := x_lo_ne q132 p129 (by decide)
                            by_cases h134 : b = 5
                            · have e135 : b = 5 := h134
                              subst e135
                              refine g_aa (i := 5) (a := 1) (n := 8) (v := 21) rfl rfl (by decide) (x_at (x_f1 hF) (k := 5) rfl) ?_
                              refine g_n 4 (pc' := 44) (L' := [some (.ref 0), some (.int 3), some (.int 5)]) (st' := [.int 5, .ref 1, .int 0, .ref 21, .int 0, .int 0, .ref 17]) rfl ?_
                              refine g_aa (i := 5) (a := 1) (n := 8) (v := 21) rfl rfl (by decide) (x_at (x_f1 hF) (k := 5) rfl) ?_
                              refine g_n 1 (pc' := 48) (L' := [some (.ref 0), some (.int 3), some (.int 5)]) (st' := [.int 0, .int 0, .ref 21, .int 0, .int 0, .ref 17]) rfl ?_
                              refine g_call (ins := .invokevirtual 169) (len := 3) (j := 15) (as := [.ref 17, .int 0, .int 0, .ref 21, .int 0, .int 0]) (rest := []) rfl rfl rfl rfl (fun _ => rfl) rfl ?_
                              refine g_in (M := x_M15) (L := [some (.ref 17), some (.int 0), some (.int 0), some (.ref 21), some (.int 0), some (.int 0), none, none, none, none]) x_pl15 rfl ?_
                              refine g_n 10 (pc' := 106) (L' := [some (.ref 17), some (.int 0), some (.int 0), some (.ref 21), some (.int 0), some (.int 0), some (.int 0), none, none, none]) (st' := [.int 1]) rfl ?_
                              refine g_ret (ins := .ireturn) (len := 1) (r := (some (.int 1))) rfl rfl rfl ?_
                              refine g_n 3 (pc' := 59) (L' := [some (.ref 0), some (.int 3), some (.int 5)]) (st' := [.int 1]) rfl ?_
                              refine g_ret (ins := .ireturn) (len := 1) (r := (some (.int 1))) rfl rfl rfl ?_
                              refine ⟨⟨_, rfl⟩, ?_⟩
                              refine g_in (M := x_M420) (L := [some (.ref 281), some (.int 3), some (.int 5), none, none]) x_pl420 rfl ?_
                              refine g_n 2 (pc' := 2) (L' := [some (.ref 281), some (.int 3), some (.int 5), none, none]) (st' := [.int 3, .ref 281]) rfl ?_
                              refine g_call (ins := .invokevirtual 671) (len := 3) (j := 411) (as := [.ref 281, .int 3]) (rest := []) rfl rfl rfl rfl (fun _ => rfl) rfl ?_
                              refine g_in (M := x_M411) (L := [some (.ref 281), some (.int 3)]) x_pl411 rfl ?_
                              refine g_n 7 (pc' := 15) (L' := [some (.ref 281), some (.int 3)]) (st' := [.int 1]) rfl ?_
                              refine g_ret (ins := .ireturn) (len := 1) (r := (some (.int 1))) rfl rfl rfl ?_
                              refine g_n 3 (pc' := 10) (L' := [some (.ref 281), some (.int 3), some (.int 5), none, none]) (st' := [.int 5, .ref 281]) rfl ?_
                              refine g_call (ins := .invokevirtual 671) (len := 3) (j := 411) (as := [.ref 281, .int 5]) (rest := []) rfl rfl rfl rfl (fun _ => rfl) rfl ?_
                              refine g_in (M := x_M411) (L := [some (.ref 281), some (.int 5)]) x_pl411 rfl ?_
                              refine g_n 7 (pc' := 15) (L' := [some (.ref 281), some (.int 5)]) (st' := [.int 1]) rfl ?_
                              refine g_ret (ins := .ireturn) (len := 1) (r := (some (.int 1))) rfl rfl rfl ?_
                              refine g_n 25 (pc' := 107) (L' := [some (.ref 281), some (.int 3), some (.int 5), some (.int 1), some (.int 0)]) (st' := [.int 1]) rfl ?_
                              exact g_ret (ins := .ireturn) (len := 1) (r := (some (.int 1))) rfl rfl rfl ⟨_, rfl, rfl, (x_sv_rf _)⟩
                            · have q136 : ¬ b = 5 := h134
                              have p137 : 6 ≤ b.toInt := x_lo_ne q136 p133 (by decide)
                              by_cases h138 : b = 6
                              · have e139 : b = 6 := h138
                                subst e139
                                refine g_aa (i := 6) (a := 1) (n := 8) (v := 23) rfl rfl (by decide) (x_at (x_f1 hF) (k := 6) rfl) ?_
                                refine g_n 4 (pc' := 44) (L' := [some (.ref 0), some (.int 3), some (.int 6)]) (st' := [.int 6, .ref 1, .int 0, .ref 23, .int 0, .int 0, .ref 17]) rfl ?_
                                refine g_aa (i := 6) (a := 1) (n := 8) (v := 23) rfl rfl (by decide) (x_at (x_f1 hF) (k := 6) rfl) ?_
                                refine g_n 1 (pc' := 48) (L' := [some (.ref 0), some (.int 3), some (.int 6)]) (st' := [.int 0, .int 0, .ref 23, .int 0, .int 0, .ref 17]) rfl ?_
                                refine g_call (ins := .invokevirtual 169) (len := 3) (j := 15) (as := [.ref 17, .int 0, .int 0, .ref 23, .int 0, .int 0]) (rest := []) rfl rfl rfl rfl (fun _ => rfl) rfl ?_
                                refine g_in (M := x_M15) (L := [some (.ref 17), some (.int 0), some (.int 0), some (.ref 23), some (.int 0), some (.int 0), none, none, none, none]) x_pl15 rfl ?_
                                refine g_n 10 (pc' := 106) (L' := [some (.ref 17), some (.int 0), some (.int 0), some (.ref 23), some (.int 0), some (.int 0), some (.int 0), none, none, none]) (st' := [.int 1]) rfl ?_
                                refine g_ret (ins := .ireturn) (len := 1) (r := (some (.int 1))) rfl rfl rfl ?_
                                refine g_n 3 (pc' := 59) (L' := [some (.ref 0), some (.int 3), some (.int 6)]) (st' := [.int 1]) rfl ?_
                                refine g_ret (ins := .ireturn) (len := 1) (r := (some (.int 1))) rfl rfl rfl ?_
                                refine ⟨⟨_, rfl⟩, ?_⟩
                                refine g_in (M := x_M420) (L := [some (.ref 281), some (.int 3), some (.int 6), none, none]) x_pl420 rfl ?_
                                refine g_n 2 (pc' := 2) (L' := [some (.ref 281), some (.int 3), some (.int 6), none, none]) (st' := [.int 3, .ref 281]) rfl ?_
                                refine g_call (ins := .invokevirtual 671) (len := 3) (j := 411) (as := [.ref 281, .int 3]) (rest := []) rfl rfl rfl rfl (fun _ => rfl) rfl ?_
                                refine g_in (M := x_M411) (L := [some (.ref 281), some (.int 3)]) x_pl411 rfl ?_
                                refine g_n 7 (pc' := 15) (L' := [some (.ref 281), some (.int 3)]) (st' := [.int 1]) rfl ?_
                                refine g_ret (ins := .ireturn) (len := 1) (r := (some (.int 1))) rfl rfl rfl ?_
                                refine g_n 3 (pc' := 10) (L' := [some (.ref 281), some (.int 3), some (.int 6), none, none]) (st' := [.int 6, .ref 281]) rfl ?_
                                refine g_call (ins := .invokevirtual 671) (len := 3) (j := 411) (as := [.ref 281, .int 6]) (rest := []) rfl rfl rfl rfl (fun _ => rfl) rfl ?_
                                refine g_in (M := x_M411) (L := [some (.ref 281), some (.int 6)]) x_pl411 rfl ?_
                                refine g_n 7 (pc' := 15) (L' := [some (.ref 281), some (.int 6)]) (st' := [.int 1]) rfl ?_
                                refine g_ret (ins := .ireturn) (len := 1) (r := (some (.int 1))) rfl rfl rfl ?_
                                refine g_n 25 (pc' := 107) (L' := [some (.ref 281), some (.int 3), some (.int 6), some (.int 1), some (.int 0)]) (st' := [.int 1]) rfl ?_
                                exact g_ret (ins := .ireturn) (len := 1) (r := (some (.int 1))) rfl rfl rfl ⟨_, rfl, rfl, (x_sv_rf _)⟩
                              · have q140 : ¬ b = 6 := h138
                                have p141 : 7 ≤ b.toInt := x_lo_ne q140 p137 (by decide)
                                have e142 : b = 7 := x_sing p141 p12 (by decide)
                                subst e142
                                refine g_aa (i := 7) (a := 1) (n := 8) (v := 25) rfl rfl (by decide) (x_at (x_f1 hF) (k := 7) rfl) ?_
                                refine g_n 4 (pc' := 44) (L' := [some (.ref 0), some (.int 3), some (.int 7)]) (st' := [.int 7, .ref 1, .int 0, .ref 25, .int 0, .int 0, .ref 17]) rfl ?_
                                refine g_aa (i := 7) (a := 1) (n := 8) (v := 25) rfl rfl (by decide) (x_at (x_f1 hF) (k := 7) rfl) ?_
                                refine g_n 1 (pc' := 48) (L' := [some (.ref 0), some (.int 3), some (.int 7)]) (st' := [.int 0, .int 0, .ref 25, .int 0, .int 0, .ref 17]) rfl ?_
                                refine g_call (ins := .invokevirtual 169) (len := 3) (j := 15) (as := [.ref 17, .int 0, .int 0, .ref 25, .int 0, .int 0]) (rest := []) rfl rfl rfl rfl (fun _ => rfl) rfl ?_
                                refine g_in (M := x_M15) (L := [some (.ref 17), some (.int 0), some (.int 0), some (.ref 25), some (.int 0), some (.int 0), none, none, none, none]) x_pl15 rfl ?_
                                refine g_n 10 (pc' := 106) (L' := [some (.ref 17), some (.int 0), some (.int 0), some (.ref 25), some (.int 0), some (.int 0), some (.int 0), none, none, none]) (st' := [.int 1]) rfl ?_
                                refine g_ret (ins := .ireturn) (len := 1) (r := (some (.int 1))) rfl rfl rfl ?_
                                refine g_n 3 (pc' := 59) (L' := [some (.ref 0), some (.int 3), some (.int 7)]) (st' := [.int 1]) rfl ?_
                                refine g_ret (ins := .ireturn) (len := 1) (r := (some (.int 1))) rfl rfl rfl ?_
                                refine ⟨⟨_, rfl⟩, ?_⟩
                                refine g_in (M := x_M420) (L := [some (.ref 281), some (.int 3), some (.int 7), none, none]) x_pl420 rfl ?_
                                refine g_n 2 (pc' := 2) (L' := [some (.ref 281), some (.int 3), some (.int 7), none, none]) (st' := [.int 3, .ref 281]) rfl ?_
                                refine g_call (ins := .invokevirtual 671) (len := 3) (j := 411) (as := [.ref 281, .int 3]) (rest := []) rfl rfl rfl rfl (fun _ => rfl) rfl ?_
                                refine g_in (M := x_M411) (L := [some (.ref 281), some (.int 3)]) x_pl411 rfl ?_
                                refine g_n 7 (pc' := 15) (L' := [some (.ref 281), some (.int 3)]) (st' := [.int 1]) rfl ?_
                                refine g_ret (ins := .ireturn) (len := 1) (r := (some (.int 1))) rfl rfl rfl ?_
                                refine g_n 3 (pc' := 10) (L' := [some (.ref 281), some (.int 3), some (.int 7), none, none]) (st' := [.int 7, .ref 281]) rfl ?_
                                refine g_call (ins := .invokevirtual 671) (len := 3) (j := 411) (as := [.ref 281, .int 7]) (rest := []) rfl rfl rfl rfl (fun _ => rfl) rfl ?_
                                refine g_in (M := x_M411) (L := [some (.ref 281), some (.int 7)]) x_pl411 rfl ?_
                                refine g_n 7 (pc' := 15) (L' := [some (.ref 281), some (.int 7)]) (st' := [.int 1]) rfl ?_
                                refine g_ret (ins := .ireturn) (len := 1) (r := (some (.int 1))) rfl rfl rfl ?_
                                refine g_n 25 (pc' := 107) (L' := [some (.ref 281), some (.int 3), some (.int 7), some (.int 1), some (.int 0)]) (st' := [.int 1]) rfl ?_
                                exact g_ret (ins := .ireturn) (len := 1) (r := (some (.int 1))) rfl rfl rfl ⟨_, rfl, rfl, (x_sv_rf _)⟩
                · have q143 : ¬ a = 3 := h112
                  have p144 : 4 ≤ a.toInt := x_lo_ne q143 p111 (by decide)
                  by_cases h145 : a = 4
                  · have e146 : a = 4 := h145
                    subst e146
                    refine g_aa (i := 4) (a := 1) (n := 8) (v := 19) rfl rfl (by decide) (x_at (x_f1 hF) (k := 4) rfl) ?_
                    refine g_n 4 (pc' := 28) (L' := [some (.ref 0), some (.int 4), some (.int b)]) (st' := [.int 4, .ref 1, .int 0, .ref 19]) rfl ?_
                    refine g_aa (i := 4) (a := 1) (n := 8) (v := 19) rfl rfl (by decide) (x_at (x_f1 hF) (k := 4) rfl) ?_
                    refine g_n 4 (pc' := 37) (L' := [some (.ref 0), some (.int 4), some (.int b)]) (st' := [.int b, .ref 1, .int 0, .int 0, .ref 19]) rfl ?_
                    by_cases h147 : b = 0
                    · have e148 : b = 0 := h147
                      subst e148
                      refine g_aa (i := 0) (a := 1) (n := 8) (v := 11) rfl rfl (by decide) (x_at (x_f1 hF) (k := 0) rfl) ?_
                      refine g_n 4 (pc' := 44) (L' := [some (.ref 0), some (.int 4), some (.int 0)]) (st' := [.int 0, .ref 1, .int 0, .ref 11, .int 0, .int 0, .ref 19]) rfl ?_
                      refine g_aa (i := 0) (a := 1) (n := 8) (v := 11) rfl rfl (by decide) (x_at (x_f1 hF) (k := 0) rfl) ?_
                      refine g_n 1 (pc' := 48) (L' := [some (.ref 0), some (.int 4), some (.int 0)]) (st' := [.int 0, .int 0, .ref 11, .int 0, .int 0, .ref 19]) rfl ?_
                      refine g_call (ins := .invokevirtual 169) (len := 3) (j := 15) (as := [.ref 19, .int 0, .int 0, .ref 11, .int 0, .int 0]) (rest := []) rfl rfl rfl rfl (fun _ => rfl) rfl ?_
                      refine g_in (M := x_M15) (L := [some (.ref 19), some (.int 0), some (.int 0), some (.ref 11), some (.int 0), some (.int 0), none, none, none, none]) x_pl15 rfl ?_
                      refine g_n 10 (pc' := 106) (L' := [some (.ref 19), some (.int 0), some (.int 0), some (.ref 11), some (.int 0), some (.int 0), some (.int 0), none, none, none]) (st' := [.int 1]) rfl ?_
                      refine g_ret (ins := .ireturn) (len := 1) (r := (some (.int 1))) rfl rfl rfl ?_
                      refine g_n 3 (pc' := 59) (L' := [some (.ref 0), some (.int 4), some (.int 0)]) (st' := [.int 1]) rfl ?_
                      refine g_ret (ins := .ireturn) (len := 1) (r := (some (.int 1))) rfl rfl rfl ?_
                      refine ⟨⟨_, rfl⟩, ?_⟩
                      refine g_in (M := x_M420) (L := [some (.ref 281), some (.int 4), some (.int 0), none, none]) x_pl420 rfl ?_
                      refine g_n 2 (pc' := 2) (L' := [some (.ref 281), some (.int 4), some (.int 0), none, none]) (st' := [.int 4, .ref 281]) rfl ?_
                      refine g_call (ins := .invokevirtual 671) (len := 3) (j := 411) (as := [.ref 281, .int 4]) (rest := []) rfl rfl rfl rfl (fun _ => rfl) rfl ?_
                      refine g_in (M := x_M411) (L := [some (.ref 281), some (.int 4)]) x_pl411 rfl ?_
                      refine g_n 7 (pc' := 15) (L' := [some (.ref 281), some (.int 4)]) (st' := [.int 1]) rfl ?_
                      refine g_ret (ins := .ireturn) (len := 1) (r := (some (.int 1))) rfl rfl rfl ?_
                      refine g_n 3 (pc' := 10) (L' := [some (.ref 281), some (.int 4), some (.int 0), none, none]) (st' := [.int 0, .ref 281]) rfl ?_
                      refine g_call (ins := .invokevirtual 671) (len := 3) (j := 411) (as := [.ref 281, .int 0]) (rest := []) rfl rfl rfl rfl (fun _ => rfl) rfl ?_
                      refine g_in (M := x_M411) (L := [some (.ref 281), some (.int 0)]) x_pl411 rfl ?_
                      refine g_n 7 (pc' := 15) (L' := [some (.ref 281), some (.int 0)]) (st' := [.int 1]) rfl ?_
                      refine g_ret (ins := .ireturn) (len := 1) (r := (some (.int 1))) rfl rfl rfl ?_
                      refine g_n 25 (pc' := 107) (L' := [some (.ref 281), some (.int 4), some (.int 0), some (.int 1), some (.int 0)]) (st' := [.int 1]) rfl ?_
                      exact g_ret (ins := .ireturn) (len := 1) (r := (some (.int 1))) rfl rfl rfl ⟨_, rfl, rfl, (x_sv_rf _)⟩
                    · have q149 : ¬ b = 0 := h147
                      have p150 : 1 ≤ b.toInt := x_lo_ne q149 p9 (by decide)
                      by_cases h151 : b = 1
                      · have e152 : b = 1 := h151
                        subst e152
                        refine g_aa (i := 1) (a := 1) (n := 8) (v := 13) rfl rfl (by decide) (x_at (x_f1 hF) (k := 1) rfl) ?_
                        refine g_n 4 (pc' := 44) (L' := [some (.ref 0), some (.int 4), some (.int 1)]) (st' := [.int 1, .ref 1, .int 0, .ref 13, .int 0, .int 0, .ref 19]) rfl ?_
                        refine g_aa (i := 1) (a := 1) (n := 8) (v := 13) rfl rfl (by decide) (x_at (x_f1 hF) (k := 1) rfl) ?_
                        refine g_n 1 (pc' := 48) (L' := [some (.ref 0), some (.int 4), some (.int 1)]) (st' := [.int 0, .int 0, .ref 13, .int 0, .int 0, .ref 19]) rfl ?_
                        refine g_call (ins := .invokevirtual 169) (len := 3) (j := 15) (as := [.ref 19, .int 0, .int 0, .ref 13, .int 0, .int 0]) (rest := []) rfl rfl rfl rfl (fun _ => rfl) rfl ?_
                        refine g_in (M := x_M15) (L := [some (.ref 19), some (.int 0), some (.int 0), some (.ref 13), some (.int 0), some (.int 0), none, none, none, none]) x_pl15 rfl ?_
                        refine g_n 10 (pc' := 106) (L' := [some (.ref 19), some (.int 0), some (.int 0), some (.ref 13), some (.int 0), some (.int 0), some (.int 0), none, none, none]) (st' := [.int 1]) rfl ?_
                        refine g_ret (ins := .ireturn) (len := 1) (r := (some (.int 1))) rfl rfl rfl ?_
                        refine g_n 3 (pc' := 59) (L' := [some (.ref 0), some (.int 4), some (.int 1)]) (st' := [.int 1]) rfl ?_
                        refine g_ret (ins := .ireturn) (len := 1) (r := (some (.int 1))) rfl rfl rfl ?_
                        refine ⟨⟨_, rfl⟩, ?_⟩
                        refine g_in (M := x_M420) (L := [some (.ref 281), some (.int 4), some (.int 1), none, none]) x_pl420 rfl ?_
                        refine g_n 2 (pc' := 2) (L' := [some (.ref 281), some (.int 4), some (.int 1), none, none]) (st' := [.int 4, .ref 281]) rfl ?_
                        refine g_call (ins := .invokevirtual 671) (len := 3) (j := 411) (as := [.ref 281, .int 4]) (rest := []) rfl rfl rfl rfl (fun _ => rfl) rfl ?_
                        refine g_in (M := x_M411) (L := [some (.ref 281), some (.int 4)]) x_pl411 rfl ?_
                        refine g_n 7 (pc' := 15) (L' := [some (.ref 281), some (.int 4)]) (st' := [.int 1]) rfl ?_
                        refine g_ret (ins := .ireturn) (len := 1) (r := (some (.int 1))) rfl rfl rfl ?_
                        refine g_n 3 (pc' := 10) (L' := [some (.ref 281), some (.int 4), some (.int 1), none, none]) (st' := [.int 1, .ref 281]) rfl ?_
                        refine g_call (ins := .invokevirtual 671) (len := 3) (j := 411) (as := [.ref 281, .int 1]) (rest := []) rfl rfl rfl rfl (fun _ => rfl) rfl ?_
                        refine g_in (M := x_M411) (L := [some (.ref 281), some (.int 1)]) x_pl411 rfl ?_
                        refine g_n 7 (pc' := 15) (L' := [some (.ref 281), some (.int 1)]) (st' := [.int 1]) rfl ?_
                        refine g_ret (ins := .ireturn) (len := 1) (r := (some (.int 1))) rfl rfl rfl ?_
                        refine g_n 25 (pc' := 107) (L' := [some (.ref 281), some (.int 4), some (.int 1), some (.int 1), some (.int 0)]) (st' := [.int 1]) rfl ?_
                        exact g_ret (ins := .ireturn) (len := 1) (r := (some (.int 1))) rfl rfl rfl ⟨_, rfl, rfl, (x_sv_rf _)⟩
                      · have q153 : ¬ b = 1 := h151
                        have p154 : 2 ≤ b.toInt := x_lo_ne q153 p150 (by decide)
                        by_cases h155 : b = 2
                        · have e156 : b = 2 := h155
                          subst e156
                          refine g_aa (i := 2) (a := 1) (n := 8) (v := 15) rfl rfl (by decide) (x_at (x_f1 hF) (k := 2) rfl) ?_
                          refine g_n 4 (pc' := 44) (L' := [some (.ref 0), some (.int 4), some (.int 2)]) (st' := [.int 2, .ref 1, .int 0, .ref 15, .int 0, .int 0, .ref 19]) rfl ?_
                          refine g_aa (i := 2) (a := 1) (n := 8) (v := 15) rfl rfl (by decide) (x_at (x_f1 hF) (k := 2) rfl) ?_
                          refine g_n 1 (pc' := 48) (L' := [some (.ref 0), some (.int 4), some (.int 2)]) (st' := [.int 0, .int 0, .ref 15, .int 0, .int 0, .ref 19]) rfl ?_
                          refine g_call (ins := .invokevirtual 169) (len := 3) (j := 15) (as := [.ref 19, .int 0, .int 0, .ref 15, .int 0, .int 0]) (rest := []) rfl rfl rfl rfl (fun _ => rfl) rfl ?_
                          refine g_in (M := x_M15) (L := [some (.ref 19), some (.int 0), some (.int 0), some (.ref 15), some (.int 0), some (.int 0), none, none, none, none]) x_pl15 rfl ?_
                          refine g_n 10 (pc' := 106) (L' := [some (.ref 19), some (.int 0), some (.int 0), some (.ref 15), some (.int 0), some (.int 0), some (.int 0), none, none, none]) (st' := [.int 1]) rfl ?_
                          refine g_ret (ins := .ireturn) (len := 1) (r := (some (.int 1))) rfl rfl rfl ?_
                          refine g_n 3 (pc' := 59) (L' := [some (.ref 0), some (.int 4), some (.int 2)]) (st' := [.int 1]) rfl ?_
                          refine g_ret (ins := .ireturn) (len := 1) (r := (some (.int 1))) rfl rfl rfl ?_
                          refine ⟨⟨_, rfl⟩, ?_⟩
                          refine g_in (M := x_M420) (L := [some (.ref 281), some (.int 4), some (.int 2), none, none]) x_pl420 rfl ?_
                          refine g_n 2 (pc' := 2) (L' := [some (.ref 281), some (.int 4), some (.int 2), none, none]) (st' := [.int 4, .ref 281]) rfl ?_
                          refine g_call (ins := .invokevirtual 671) (len := 3) (j := 411) (as := [.ref 281, .int 4]) (rest := []) rfl rfl rfl rfl (fun _ => rfl) rfl ?_
                          refine g_in (M := x_M411) (L := [some (.ref 281), some (.int 4)]) x_pl411 rfl ?_
                          refine g_n 7 (pc' := 15) (L' := [some (.ref 281), some (.int 4)]) (st' := [.int 1]) rfl ?_
                          refine g_ret (ins := .ireturn) (len := 1) (r := (some (.int 1))) rfl rfl rfl ?_
                          refine g_n 3 (pc' := 10) (L' := [some (.ref 281), some (.int 4), some (.int 2), none, none]) (st' := [.int 2, .ref 281]) rfl ?_
                          refine g_call (ins := .invokevirtual 671) (len := 3) (j := 411) (as := [.ref 281, .int 2]) (rest := []) rfl rfl rfl rfl (fun _ => rfl) rfl ?_
                          refine g_in (M := x_M411) (L := [some (.ref 281), some (.int 2)]) x_pl411 rfl ?_
                          refine g_n 7 (pc' := 15) (L' := [some (.ref 281), some (.int 2)]) (st' := [.int 1]) rfl ?_
                          refine g_ret (ins := .ireturn) (len := 1) (r := (some (.int 1))) rfl rfl rfl ?_
                          refine g_n 25 (pc' := 107) (L' := [some (.ref 281), some (.int 4), some (.int 2), some (.int 1), some (.int 0)]) (st' := [.int 1]) rfl ?_
                          exact g_ret (ins := .ireturn) (len := 1) (r := (some (.int 1))) rfl rfl rfl ⟨_, rfl, rfl, (x_sv_rf _)⟩
                        · have q157 : ¬ b = 2 := h155
                          have p158 : 3 ≤ b.toInt := x_lo_ne q157 p154 (by decide)
                          by_cases h159 : b = 3
                          · have e160 : b = 3 := h159
                            subst e160
                            refine g_aa (i := 3) (a := 1) (n := 8) (v := 17) rfl rfl (by decide) (x_at (x_f1 hF) (k := 3) rfl) ?_
                            refine g_n 4 (pc' := 44) (L' := [some (.ref 0), some (.int 4), some (.int 3)]) (st' := [.int 3, .ref 1, .int 0, .ref 17, .int 0, .int 0, .ref 19]) rfl ?_
                            refine g_aa (i := 3) (a := 1) (n := 8) (v := 17) rfl rfl (by decide) (x_at (x_f1 hF) (k := 3) rfl) ?_
                            refine g_n 1 (pc' := 48) (L' := [some (.ref 0), some (.int 4), some (.int 3)]) (st' := [.int 0, .int 0, .ref 17, .int 0, .int 0, .ref 19]) rfl ?_
                            refine g_call (ins := .invokevirtual 169) (len := 3) (j := 15) (as := [.ref 19, .int 0, .int 0, .ref 17, .int 0, .int 0]) (rest := []) rfl rfl rfl rfl (fun _ => rfl) rfl ?_
                            refine g_in (M := x_M15) (L := [some (.ref 19), some (.int 0), some (.int 0), some (.ref 17), some (.int 0), some (.int 0), none, none, none, none]) x_pl15 rfl ?_
                            refine g_n 10 (pc' := 106) (L' := [some (.ref 19), some (.int 0), some (.int 0), some (.ref 17), some (.int 0), some (.int 0), some (.int 0), none, none, none]) (st' := [.int 1]) rfl ?_
                            refine g_ret (ins := .ireturn) (len := 1) (r := (some (.int 1))) rfl rfl rfl ?_
                            refine g_n 3 (pc' := 59) (L' := [some (.ref 0), some (.int 4), some (.int 3)]) (st' := [.int 1]) rfl ?_
                            refine g_ret (ins := .ireturn) (len := 1) (r := (some (.int 1))) rfl rfl rfl ?_
                            refine ⟨⟨_, rfl⟩, ?_⟩
                            refine g_in (M := x_M420) (L := [some (.ref 281), some (.int 4), some (.int 3), none, none]) x_pl420 rfl ?_
                            refine g_n 2 (pc' := 2) (L' := [some (.ref 281), some (.int 4), some (.int 3), none, none]) (st' := [.int 4, .ref 281]) rfl ?_
                            refine g_call (ins := .invokevirtual 671) (len := 3) (j := 411) (as := [.ref 281, .int 4]) (rest := []) rfl rfl rfl rfl (fun _ => rfl) rfl ?_
                            refine g_in (M := x_M411) (L := [some (.ref 281), some (.int 4)]) x_pl411 rfl ?_
                            refine g_n 7 (pc' := 15) (L' := [some (.ref 281), some (.int 4)]) (st' := [.int 1]) rfl ?_
                            refine g_ret (ins := .ireturn) (len := 1) (r := (some (.int 1))) rfl rfl rfl ?_
                            refine g_n 3 (pc' := 10) (L' := [some (.ref 281), some (.int 4), some (.int 3), none, none]) (st' := [.int 3, .ref 281]) rfl ?_
                            refine g_call (ins := .invokevirtual 671) (len := 3) (j := 411) (as := [.ref 281, .int 3]) (rest := []) rfl rfl rfl rfl (fun _ => rfl) rfl ?_
                            refine g_in (M := x_M411) (L := [some (.ref 281), some (.int 3)]) x_pl411 rfl ?_
                            refine g_n 7 (pc' := 15) (L' := [some (.ref 281), some (.int 3)]) (st' := [.int 1]) rfl ?_
                            refine g_ret (ins := .ireturn) (len := 1) (r := (some (.int 1))) rfl rfl rfl ?_
                            refine g_n 25 (pc' := 107) (L' := [some (.ref 281), some (.int 4), some (.int 3), some (.int 1), some (.int 0)]) (st' := [.int 1]) rfl ?_
                            exact g_ret (ins := .ireturn) (len := 1) (r := (some (.int 1))) rfl rfl rfl ⟨_, rfl, rfl, (x_sv_rf _)⟩
                          · have q161 : ¬ b = 3 := h159
                            have p162 : 4 ≤ b.toInt := x_lo_ne q161 p158 (by decide)
                            by_cases h163 : b = 4
                            · have e164 : b = 4 := h163
                              subst e164
                              refine g_aa (i := 4) (a := 1) (n := 8) (v := 19) rfl rfl (by decide) (x_at (x_f1 hF) (k := 4) rfl) ?_
                              refine g_n 4 (pc' := 44) (L' := [some (.ref 0), some (.int 4), some (.int 4)]) (st' := [.int 4, .ref 1, .int 0, .ref 19, .int 0, .int 0, .ref 19]) rfl ?_
                              refine g_aa (i := 4) (a := 1) (n := 8) (v := 19) rfl rfl (by decide) (x_at (x_f1 hF) (k := 4) rfl) ?_
                              refine g_n 1 (pc' := 48) (L' := [some (.ref 0), some (.int 4), some (.int 4)]) (st' := [.int 0, .int 0, .ref 19, .int 0, .int 0, .ref 19]) rfl ?_
                              refine g_call (ins := .invokevirtual 169) (len := 3) (j := 15) (as := [.ref 19, .int 0, .int 0, .ref 19, .int 0, .int 0]) (rest := []) rfl rfl rfl rfl (fun _ => rfl) rfl ?_
                              refine g_in (M := x_M15) (L := [some (.ref 19), some (.int 0), some (.int 0), some (.ref 19), some (.int 0), some (.int 0), none, none, none, none]) x_pl15 rfl ?_
                              refine g_n 10 (pc' := 106) (L' := [some (.ref 19), some (.int 0), some (.int 0), some (.ref 19), some (.int 0), some (.int 0), some (.int 0), none, none, none]) (st' := [.int 1]) rfl ?_
                              refine g_ret (ins := .ireturn) (len := 1) (r := (some (.int 1))) rfl rfl rfl ?_
                              refine g_n 3 (pc' := 59) (L' := [some (.ref 0), some (.int 4), some (.int 4)]) (st' := [.int 1]) rfl ?_
                              refine g_ret (ins := .ireturn) (len := 1) (r := (some (.int 1))) rfl rfl rfl ?_
                              refine ⟨⟨_, rfl⟩, ?_⟩
                              refine g_in (M := x_M420) (L := [some (.ref 281), some (.int 4), some (.int 4), none, none]) x_pl420 rfl ?_
                              refine g_n 2 (pc' := 2) (L' := [some (.ref 281), some (.int 4), some (.int 4), none, none]) (st' := [.int 4, .ref 281]) rfl ?_
                              refine g_call (ins := .invokevirtual 671) (len := 3) (j := 411) (as := [.ref 281, .int 4]) (rest := []) rfl rfl rfl rfl (fun _ => rfl) rfl ?_
                              refine g_in (M := x_M411) (L := [some (.ref 281), some (.int 4)]) x_pl411 rfl ?_
                              refine g_n 7 (pc' := 15) (L' := [some (.ref 281), some (.int 4)]) (st' := [.int 1]) rfl ?_
                              refine g_ret (ins := .ireturn) (len := 1) (r := (some (.int 1))) rfl rfl rfl ?_
                              refine g_n 3 (pc' := 10) (L' := [some (.ref 281), some (.int 4), some (.int 4), none, none]) (st' := [.int 4, .ref 281]) rfl ?_
                              refine g_call (ins := .invokevirtual 671) (len := 3) (j := 411) (as := [.ref 281, .int 4]) (rest := []) rfl rfl rfl rfl (fun _ => rfl) rfl ?_
                              refine g_in (M := x_M411) (L := [some (.ref 281), some (.int 4)]) x_pl411 rfl ?_
                              refine g_n 7 (pc' := 15) (L' := [some (.ref 281), some (.int 4)]) (st' := [.int 1]) rfl ?_
                              refine g_ret (ins := .ireturn) (len := 1) (r := (some (.int 1))) rfl rfl rfl ?_
                              refine g_n 25 (pc' := 107) (L' := [some (.ref 281), some (.int 4), some (.int 4), some (.int 1), some (.int 0)]) (st' := [.int 1]) rfl ?_
                              exact g_ret (ins := .ireturn) (len := 1) (r := (some (.int 1))) rfl rfl rfl ⟨_, rfl, rfl, (x_sv_rf _)⟩
                            · have q165 : ¬ b = 4 := h163
                              have p166 : 5 ≤ b.toInt := x_lo_ne q165 p162 (by decide)
                              by_cases h167 : b = 5
                              · have e168 : b = 5 := h167
                                subst e168
                                refine g_aa (i := 5) (a := 1) (n := 8) (v := 21) rfl rfl (by decide) (x_at (x_f1 hF) (k := 5) rfl) ?_
                                refine g_n 4 (pc' := 44) (L' := [some (.ref 0), some (.int 4), some (.int 5)]) (st' := [.int 5, .ref 1, .int 0, .ref 21, .int 0, .int 0, .ref 19]) rfl ?_
                                refine g_aa (i := 5) (a := 1) (n := 8) (v := 21) rfl rfl (by decide) (x_at (x_f1 hF) (k := 5) rfl) ?_
                                refine g_n 1 (pc' := 48) (L' := [some (.ref 0), some (.int 4), some (.int 5)]) (st' := [.int 0, .int 0, .ref 21, .int 0, .int 0, .ref 19]) rfl ?_
                                refine g_call (ins := .invokevirtual 169) (len := 3) (j := 15) (as := [.ref 19, .int 0, .int 0, .ref 21, .int 0, .int 0]) (rest := []) rfl rfl rfl rfl (fun _ => rfl) rfl ?_
                                refine g_in (M := x_M15) (L := [some (.ref 19), some (.int 0), some (.int 0), some (.ref 21), some (.int 0), some (.int 0), none, none, none, none]) x_pl15 rfl ?_
                                refine g_n 10 (pc' := 106) (L' := [some (.ref 19), some (.int 0), some (.int 0), some (.ref 21), some (.int 0), some (.int 0), some (.int 0), none, none, none]) (st' := [.int 1]) rfl ?_
                                refine g_ret (ins := .ireturn) (len := 1) (r := (some (.int 1))) rfl rfl rfl ?_
                                refine g_n 3 (pc' := 59) (L' := [some (.ref 0), some (.int 4), some (.int 5)]) (st' := [.int 1]) rfl ?_
                                refine g_ret (ins := .ireturn) (len := 1) (r := (some (.int 1))) rfl rfl rfl ?_
                                refine ⟨⟨_, rfl⟩, ?_⟩
                                refine g_in (M := x_M420) (L := [some (.ref 281), some (.int 4), some (.int 5), none, none]) x_pl420 rfl ?_
                                refine g_n 2 (pc' := 2) (L' := [some (.ref 281), some (.int 4), some (.int 5), none, none]) (st' := [.int 4, .ref 281]) rfl ?_
                                refine g_call (ins := .invokevirtual 671) (len := 3) (j := 411) (as := [.ref 281, .int 4]) (rest := []) rfl rfl rfl rfl (fun _ => rfl) rfl ?_
                                refine g_in (M := x_M411) (L := [some (.ref 281), some (.int 4)]) x_pl411 rfl ?_
                                refine g_n 7 (pc' := 15) (L' := [some (.ref 281), some (.int 4)]) (st' := [.int 1]) rfl ?_
                                refine g_ret (ins := .ireturn) (len := 1) (r := (some (.int 1))) rfl rfl rfl ?_
                                refine g_n 3 (pc' := 10) (L' := [some (.ref 281), some (.int 4), some (.int 5), none, none]) (st' := [.int 5, .ref 281]) rfl ?_
                                refine g_call (ins := .invokevirtual 671) (len := 3) (j := 411) (as := [.ref 281, .int 5]) (rest := []) rfl rfl rfl rfl (fun _ => rfl) rfl ?_
                                refine g_in (M := x_M411) (L := [some (.ref 281), some (.int 5)]) x_pl411 rfl ?_
                                refine g_n 7 (pc' := 15) (L' := [some (.ref 281), some (.int 5)]) (st' := [.int 1]) rfl ?_
                                refine g_ret (ins := .ireturn) (len := 1) (r := (some (.int 1))) rfl rfl rfl ?_
                                refine g_n 25 (pc' := 107) (L' := [some (.ref 281), some (.int 4), some (.int 5), some (.int 1), some (.int 0)]) (st' := [.int 1]) rfl ?_
                                exact g_ret (ins := .ireturn) (len := 1) (r := (some (.int 1))) rfl rfl rfl ⟨_, rfl, rfl, (x_sv_rf _)⟩
                              · have q169 : ¬ b = 5 := h167
                                have p170 : 6 ≤ b.toInt := x_lo_ne q169 p166 (by decide)
                                by_cases h171 : b = 6
                                · have e172 : b = 6 := h171
                                  subst e172
                                  refine g_aa (i := 6) (a := 1) (n := 8) (v := 23) rfl rfl (by decide) (x_at (x_f1 hF) (k := 6) rfl) ?_
                                  refine g_n 4 (pc' := 44) (L' := [some (.ref 0), some (.int 4), some (.int 6)]) (st' := [.int 6, .ref 1, .int 0, .ref 23, .int 0, .int 0, .ref 19]) rfl ?_
                                  refine g_aa (i := 6) (a := 1) (n := 8) (v := 23) rfl rfl (by decide) (x_at (x_f1 hF) (k := 6) rfl) ?_
                                  refine g_n 1 (pc' := 48) (L' := [some (.ref 0), some (.int 4), some (.int 6)]) (st' := [.int 0, .int 0, .ref 23, .int 0, .int 0, .ref 19]) rfl ?_
                                  refine g_call (ins := .invokevirtual 169) (len := 3) (j := 15) (as := [.ref 19, .int 0, .int 0, .ref 23, .int 0, .int 0]) (rest := []) rfl rfl rfl rfl (fun _ => rfl) rfl ?_
                                  refine g_in (M := x_M15) (L := [some (.ref 19), some (.int 0), some (.int 0), some (.ref 23), some (.int 0), some (.int 0), none, none, none, none]) x_pl15 rfl ?_
                                  refine g_n 10 (pc' := 106) (L' := [some (.ref 19), some (.int 0), some (.int 0), some (.ref 23), some (.int 0), some (.int 0), some (.int 0), none, none, none]) (st' := [.int 1]) rfl ?_
                                  refine g_ret (ins := .ireturn) (len := 1) (r := (some (.int 1))) rfl rfl rfl ?_
                                  refine g_n 3 (pc' := 59) (L' := [some (.ref 0), some (.int 4), some (.int 6)]) (st' := [.int 1]) rfl ?_
                                  refine g_ret (ins := .ireturn) (len := 1) (r := (some (.int 1))) rfl rfl rfl ?_
                                  refine ⟨⟨_, rfl⟩, ?_⟩
                                  refine g_in (M := x_M420) (L := [some (.ref 281), some (.int 4), some (.int 6), none, none]) x_pl420 rfl ?_
                                  refine g_n 2 (pc' := 2) (L' := [some (.ref 281), some (.int 4), some (.int 6), none, none]) (st' := [.int 4, .ref 281]) rfl ?_
                                  refine g_call (ins := .invokevirtual 671) (len := 3) (j := 411) (as := [.ref 281, .int 4]) (rest := []) rfl rfl rfl rfl (fun _ => rfl) rfl ?_
                                  refine g_in (M := x_M411) (L := [some (.ref 281), some (.int 4)]) x_pl411 rfl ?_
                                  refine g_n 7 (pc' := 15) (L' := [some (.ref 281), some (.int 4)]) (st' := [.int 1]) rfl ?_
                                  refine g_ret (ins := .ireturn) (len := 1) (r := (some (.int 1))) rfl rfl rfl ?_
                                  refine g_n 3 (pc' := 10) (L' := [some (.ref 281), some (.int 4), some (.int 6), none, none]) (st' := [.int 6, .ref 281]) rfl ?_
                                  refine g_call (ins := .invokevirtual 671) (len := 3) (j := 411) (as := [.ref 281, .int 6]) (rest := []) rfl rfl rfl rfl (fun _ => rfl) rfl ?_
                                  refine g_in (M := x_M411) (L := [some (.ref 281), some (.int 6)]) x_pl411 rfl ?_
                                  refine g_n 7 (pc' := 15) (L' := [some (.ref 281), some (.int 6)]) (st' := [.int 1]) rfl ?_
                                  refine g_ret (ins := .ireturn) (len := 1) (r := (some (.int 1))) rfl rfl rfl ?_
                                  refine g_n 25 (pc' := 107) (L' := [some (.ref 281), some (.int 4), some (.int 6), some (.int 1), some (.int 0)]) (st' := [.int 1]) rfl ?_
                                  exact g_ret (ins := .ireturn) (len := 1) (r := (some (.int 1))) rfl rfl rfl ⟨_, rfl, rfl, (x_sv_rf _)⟩
                                · have q173 : ¬ b = 6 := h171
                                  have p174 : 7 ≤ b.toInt := x_lo_ne q173 p170 (by decide)
                                  have e175 : b = 7 := x_sing p174 p12 (by decide)
                                  subst e175
                                  refine g_aa (i := 7) (a := 1) (n := 8) (v := 25) rfl rfl (by decide) (x_at (x_f1 hF) (k := 7) rfl) ?_
                                  refine g_n 4 (pc' := 44) (L' := [some (.ref 0), some (.int 4), some (.int 7)]) (st' := [.int 7, .ref 1, .int 0, .ref 25, .int 0, .int 0, .ref 19]) rfl ?_
                                  refine g_aa (i := 7) (a := 1) (n := 8) (v := 25) rfl rfl (by decide) (x_at (x_f1 hF) (k := 7) rfl) ?_
                                  refine g_n 1 (pc' := 48) (L' := [some (.ref 0), some (.int 4), some (.int 7)]) (st' := [.int 0, .int 0, .ref 25, .int 0, .int 0, .ref 19]) rfl ?_
                                  refine g_call (ins := .invokevirtual 169) (len := 3) (j := 15) (as := [.ref 19, .int 0, .int 0, .ref 25, .int 0, .int 0]) (rest := []) rfl rfl rfl rfl (fun _ => rfl) rfl ?_
                                  refine g_in (M := x_M15) (L := [some (.ref 19), some (.int 0), some (.int 0), some (.ref 25), some (.int 0), some (.int 0), none, none, none, none]) x_pl15 rfl ?_
                                  refine g_n 10 (pc' := 106) (L' := [some (.ref 19), some (.int 0), some (.int 0), some (.ref 25), some (.int 0), some (.int 0), some (.int 0), none, none, none]) (st' := [.int 1]) rfl ?_
                                  refine g_ret (ins := .ireturn) (len := 1) (r := (some (.int 1))) rfl rfl rfl ?_
                                  refine g_n 3 (pc' := 59) (L' := [some (.ref 0), some (.int 4), some (.int 7)]) (st' := [.int 1]) rfl ?_
                                  refine g_ret (ins := .ireturn) (len := 1) (r := (some (.int 1))) rfl rfl rfl ?_
                                  refine ⟨⟨_, rfl⟩, ?_⟩
                                  refine g_in (M := x_M420) (L := [some (.ref 281), some (.int 4), some (.int 7), none, none]) x_pl420 rfl ?_
                                  refine g_n 2 (pc' := 2) (L' := [some (.ref 281), some (.int 4), some (.int 7), none, none]) (st' := [.int 4, .ref 281]) rfl ?_
                                  refine g_call (ins := .invokevirtual 671) (len := 3) (j := 411) (as := [.ref 281, .int 4]) (rest := []) rfl rfl rfl rfl (fun _ => rfl) rfl ?_
                                  refine g_in (M := x_M411) (L := [some (.ref 281), some (.int 4)]) x_pl411 rfl ?_
                                  refine g_n 7 (pc' := 15) (L' := [some (.ref 281), some (.int 4)]) (st' := [.int 1]) rfl ?_
                                  refine g_ret (ins := .ireturn) (len := 1) (r := (some (.int 1))) rfl rfl rfl ?_
                                  refine g_n 3 (pc' := 10) (L' := [some (.ref 281), some (.int 4), some (.int 7), none, none]) (st' := [.int 7, .ref 281]) rfl ?_
                                  refine g_call (ins := .invokevirtual 671) (len := 3) (j := 411) (as := [.ref 281, .int 7]) (rest := []) rfl rfl rfl rfl (fun _ => rfl) rfl ?_
                                  refine g_in (M := x_M411) (L := [some (.ref 281), some (.int 7)]) x_pl411 rfl ?_
                                  refine g_n 7 (pc' := 15) (L' := [some (.ref 281), some (.int 7)]) (st' := [.int 1]) rfl ?_
                                  refine g_ret (ins := .ireturn) (len := 1) (r := (some (.int 1))) rfl rfl rfl ?_
                                  refine g_n 25 (pc' := 107) (L' := [some (.ref 281), some (.int 4), some (.int 7), some (.int 1), some (.int 0)]) (st' := [.int 1]) rfl ?_
                                  exact g_ret (ins := .ireturn) (len := 1) (r := (some (.int 1))) rfl rfl rfl ⟨_, rfl, rfl, (x_sv_rf _)⟩
                  · have q176 : ¬ a = 4 := h145
                    have p177 : 5 ≤ a.toInt := x_lo_ne q176 p144 (by decide)
                    by_cases h178 : a = 5
                    · have e179 : a = 5 := h178
                      subst e179
                      refine g_aa (i := 5) (a := 1) (n := 8) (v := 21) rfl rfl (by decide) (x_at (x_f1 hF) (k := 5) rfl) ?_
                      refine g_n 4 (pc' := 28) (L' := [some (.ref 0), some (.int 5), some (.int b)]) (st' := [.int 5, .ref 1, .int 0, .ref 21]) rfl ?_
                      refine g_aa (i := 5) (a := 1) (n := 8) (v := 21) rfl rfl (by decide) (x_at (x_f1 hF) (k := 5) rfl) ?_
                      refine g_n 4 (pc' := 37) (L' := [some (.ref 0), some (.int 5), some (.int b)]) (st' := [.int b, .ref 1, .int 0, .int 0, .ref 21]) rfl ?_
                      by_cases h180 : b = 0
                      · have e181 : b = 0 := h180
                        subst e181
                        refine g_aa (i := 0) (a := 1) (n := 8) (v := 11) rfl rfl (by decide) (x_at (x_f1 hF) (k := 0) rfl) ?_
                        refine g_n 4 (pc' := 44) (L' := [some (.ref 0), some (.int 5), some (.int 0)]) (st' := [.int 0, .ref 1, .int 0, .ref 11, .int 0, .int 0, .ref 21]) rfl ?_
                        refine g_aa (i := 0) (a := 1) (n := 8) (v := 11) rfl rfl (by decide) (x_at (x_f1 hF) (k := 0) rfl) ?_
                        refine g_n 1 (pc' := 48) (L' := [some (.ref 0), some (.int 5), some (.int 0)]) (st' := [.int 0, .int 0, .ref 11, .int 0, .int 0, .ref 21]) rfl ?_
                        refine g_call (ins := .invokevirtual 169) (len := 3) (j := 15) (as := [.ref 21, .int 0, .int 0, .ref 11, .int 0, .int 0]) (rest := []) rfl rfl rfl rfl (fun _ => rfl) rfl ?_
                        refine g_in (M := x_M15) (L := [some (.ref 21), some (.int 0), some (.int 0), some (.ref 11), some (.int 0), some (.int 0), none, none, none, none]) x_pl15 rfl ?_
                        refine g_n 10 (pc' := 106) (L' := [some (.ref 21), some (.int 0), some (.int 0), some (.ref 11), some (.int 0), some (.int 0), some (.int 0), none, none, none]) (st' := [.int 1]) rfl ?_
                        refine g_ret (ins := .ireturn) (len := 1) (r := (some (.int 1))) rfl rfl rfl ?_
                        refine g_n 3 (pc' := 59) (L' := [some (.ref 0), some (.int 5), some (.int 0)]) (st' := [.int 1]) rfl ?_
                        refine g_ret (ins := .ireturn) (len := 1) (r := (some (.int 1))) rfl rfl rfl ?_
                        refine ⟨⟨_, rfl⟩, ?_⟩
                        refine g_in (M := x_M420) (L := [some (.ref 281), some (.int 5), some (.int 0), none, none]) x_pl420 rfl ?_
                        refine g_n 2 (pc' := 2) (L' := [some (.ref 281), some (.int 5), some (.int 0), none, none]) (st' := [.int 5, .ref 281]) rfl ?_
                        refine g_call (ins := .invokevirtual 671) (len := 3) (j := 411) (as := [.ref 281, .int 5]) (rest := []) rfl rfl rfl rfl (fun _ => rfl) rfl ?_
                        refine g_in (M := x_M411) (L := [some (.ref 281), some (.int 5)]) x_pl411 rfl ?_
                        refine g_n 7 (pc' := 15) (L' := [some (.ref 281), some (.int 5)]) (st' := [.int 1]) rfl ?_
                        refine g_ret (ins := .ireturn) (len := 1) (r := (some (.int 1))) rfl rfl rfl ?_
                        refine g_n 3 (pc' := 10) (L' := [some (.ref 281), some (.int 5), some (.int 0), none, none]) (st' := [.int 0, .ref 281]) rfl ?_
                        refine g_call (ins := .invokevirtual 671) (len := 3) (j := 411) (as := [.ref 281, .int 0]) (rest := []) rfl rfl rfl rfl (fun _ => rfl) rfl ?_
                        refine g_in (M := x_M411) (L := [some (.ref 281), some (.int 0)]) x_pl411 rfl ?_
                        refine g_n 7 (pc' := 15) (L' := [some (.ref 281), some (.int 0)]) (st' := [.int 1]) rfl ?_
                        refine g_ret (ins := .ireturn) (len := 1) (r := (some (.int 1))) rfl rfl rfl ?_
                        refine g_n 25 (pc' := 107) (L' := [some (.ref 281), some (.int 5), some (.int 0), some (.int 1), some (.int 0)]) (st' := [.int 1]) rfl ?_
                        exact g_ret (ins := .ireturn) (len := 1) (r := (some (.int 1))) rfl rfl rfl ⟨_, rfl, rfl, (x_sv_rf _)⟩
                      · have q182 : ¬ b = 0 := h180
                        have p183 : 1 ≤ b.toInt := x_lo_ne q182 p9 (by decide)
                        by_cases h184 : b = 1
                        · have e185 : b = 1 := h184
                          subst e185
                          refine g_aa (i := 1) (a := 1) (n := 8) (v := 13) rfl rfl (by decide) (x_at (x_f1 hF) (k := 1) rfl) ?_
                          refine g_n 4 (pc' := 44) (L' := [some (.ref 0), some (.int 5), some (.int 1)]) (st' := [.int 1, .ref 1, .int 0, .ref 13, .int 0, .int 0, .ref 21]) rfl ?_
                          refine g_aa (i := 1) (a := 1) (n := 8) (v := 13) rfl rfl (by decide) (x_at (x_f1 hF) (k := 1) rfl) ?_
                          refine g_n 1 (pc' := 48) (L' := [some (.ref 0), some (.int 5), some (.int 1)]) (st' := [.int 0, .int 0, .ref 13, .int 0, .int 0, .ref 21]) rfl ?_
                          refine g_call (ins := .invokevirtual 169) (len := 3) (j := 15) (as := [.ref 21, .int 0, .int 0, .ref 13, .int 0, .int 0]) (rest := []) rfl rfl rfl rfl (fun _ => rfl) rfl ?_
                          refine g_in (M := x_M15) (L := [some (.ref 21), some (.int 0), some (.int 0), some (.ref 13), some (.int 0), some (.int 0), none, none, none, none]) x_pl15 rfl ?_
                          refine g_n 10 (pc' := 106) (L' := [some (.ref 21), some (.int 0), some (.int 0), some (.ref 13), some (.int 0), some (.int 0), some (.int 0), none, none, none]) (st' := [.int 1]) rfl ?_
                          refine g_ret (ins := .ireturn) (len := 1) (r := (some (.int 1))) rfl rfl rfl ?_
                          refine g_n 3 (pc' := 59) (L' := [some (.ref 0), some (.int 5), some (.int 1)]) (st' := [.int 1]) rfl ?_
                          refine g_ret (ins := .ireturn) (len := 1) (r := (some (.int 1))) rfl rfl rfl ?_
                          refine ⟨⟨_, rfl⟩, ?_⟩
                          refine g_in (M := x_M420) (L := [some (.ref 281), some (.int 5), some (.int 1), none, none]) x_pl420 rfl ?_
                          refine g_n 2 (pc' := 2) (L' := [some (.ref 281), some (.int 5), some (.int 1), none, none]) (st' := [.int 5, .ref 281]) rfl ?_
                          refine g_call (ins := .invokevirtual 671) (len := 3) (j := 411) (as := [.ref 281, .int 5]) (rest := []) rfl rfl rfl rfl (fun _ => rfl) rfl ?_
                          refine g_in (M := x_M411) (L := [some (.ref 281), some (.int 5)]) x_pl411 rfl ?_
                          refine g_n 7 (pc' := 15) (L' := [some (.ref 281), some (.int 5)]) (st' := [.int 1]) rfl ?_
                          refine g_ret (ins := .ireturn) (len := 1) (r := (some (.int 1))) rfl rfl rfl ?_
                          refine g_n 3 (pc' := 10) (L' := [some (.ref 281), some (.int 5), some (.int 1), none, none]) (st' := [.int 1, .ref 281]) rfl ?_
                          refine g_call (ins := .invokevirtual 671) (len := 3) (j := 411) (as := [.ref 281, .int 1]) (rest := []) rfl rfl rfl rfl (fun _ => rfl) rfl ?_
                          refine g_in (M := x_M411) (L := [some (.ref 281), some (.int 1)]) x_pl411 rfl ?_
                          refine g_n 7 (pc' := 15) (L' := [some (.ref 281), some (.int 1)]) (st' := [.int 1]) rfl ?_
                          refine g_ret (ins := .ireturn) (len := 1) (r := (some (.int 1))) rfl rfl rfl ?_
                          refine g_n 25 (pc' := 107) (L' := [some (.ref 281), some (.int 5), some (.int 1), some (.int 1), some (.int 0)]) (st' := [.int 1]) rfl ?_
                          exact g_ret (ins := .ireturn) (len := 1) (r := (some (.int 1))) rfl rfl rfl ⟨_, rfl, rfl, (x_sv_rf _)⟩
                        · have q186 : ¬ b = 1 := h184
                          have p187 : 2 ≤ b.toInt := x_lo_ne q186 p183 (by decide)
                          by_cases h188 : b = 2
                          · have e189 : b = 2 := h188
                            subst e189
                            refine g_aa (i := 2) (a := 1) (n := 8) (v := 15) rfl rfl (by decide) (x_at (x_f1 hF) (k := 2) rfl) ?_
                            refine g_n 4 (pc' := 44) (L' := [some (.ref 0), some (.int 5), some (.int 2)]) (st' := [.int 2, .ref 1, .int 0, .ref 15, .int 0, .int 0, .ref 21]) rfl ?_
                            refine g_aa (i := 2) (a := 1) (n := 8) (v := 15) rfl rfl (by decide) (x_at (x_f1 hF) (k := 2) rfl) ?_
                            refine g_n 1 (pc' := 48) (L' := [some (.ref 0), some (.int 5), some (.int 2)]) (st' := [.int 0, .int 0, .ref 15, .int 0, .int 0, .ref 21]) rfl ?_
                            refine g_call (ins := .invokevirtual 169) (len := 3) (j := 15) (as := [.ref 21, .int 0, .int 0, .ref 15, .int 0, .int 0]) (rest := []) rfl rfl rfl rfl (fun _ => rfl) rfl ?_
                            refine g_in (M := x_M15) (L := [some (.ref 21), some (.int 0), some (.int 0), some (.ref 15), some (.int 0), some (.int 0), none, none, none, none]) x_pl15 rfl ?_
                            refine g_n 10 (pc' := 106) (L' := [some (.ref 21), some (.int 0), some (.int 0), some (.ref 15), some (.int 0), some (.int 0), some (.int 0), none, none, none]) (st' := [.int 1]) rfl ?_
                            refine g_ret (ins := .ireturn) (len := 1) (r := (some (.int 1))) rfl rfl rfl ?_
                            refine g_n 3 (pc' := 59) (L' := [some (.ref 0), some (.int 5), some (.int 2)]) (st' := [.int 1]) rfl ?_
                            refine g_ret (ins := .ireturn) (len := 1) (r := (some (.int 1))) rfl rfl rfl ?_
                            refine ⟨⟨_, rfl⟩, ?_⟩
                            refine g_in (M := x_M420) (L := [some (.ref 281), some (.int 5), some (.int 2), none, none]) x_pl420 rfl ?_
                            refine g_n 2 (pc' := 2) (L' := [some (.ref 281), some (.int 5), some (.int 2), none, none]) (st' := [.int 5, .ref 281]) rfl ?_
                            refine g_call (ins := .invokevirtual 671) (len := 3) (j := 411) (as := [.ref 281, .int 5]) (rest := []) rfl rfl rfl rfl (fun _ => rfl) rfl ?_
                            refine g_in (M := x_M411) (L := [some (.ref 281), some (.int 5)]) x_pl411 rfl ?_
                            refine g_n 7 (pc' := 15) (L' := [some (.ref 281), some (.int 5)]) (st' := [.int 1]) rfl ?_
                            refine g_ret (ins := .ireturn) (len := 1) (r := (some (.int 1))) rfl rfl rfl ?_
                            refine g_n 3 (pc' := 10) (L' := [some (.ref 281), some (.int 5), some (.int 2), none, none]) (st' := [.int 2, .ref 281]) rfl ?_
                            refine g_call (ins := .invokevirtual 671) (len := 3) (j := 411) (as := [.ref 281, .int 2]) (rest := []) rfl rfl rfl rfl (fun _ => rfl) rfl ?_
                            refine g_in (M := x_M411) (L := [some (.ref 281), some (.int 2)]) x_pl411 rfl ?_
                            refine g_n 7 (pc' := 15) (L' := [some (.ref 281), some (.int 2)]) (st' := [.int 1]) rfl ?_
                            refine g_ret (ins := .ireturn) (len := 1) (r := (some (.int 1))) rfl rfl rfl ?_
                            refine g_n 25 (pc' := 107) (L' := [some (.ref 281), some (.int 5), some (.int 2), some (.int 1), some (.int 0)]) (st' := [.int 1]) rfl ?_
                            exact g_ret (ins := .ireturn) (len := 1) (r := (some (.int 1))) rfl rfl rfl ⟨_, rfl, rfl, (x_sv_rf _)⟩
                          · have q190 : ¬ b = 2 := h188
                            have p191 : 3 ≤ b.toInt := x_lo_ne q190 p187 (by decide)
                            by_cases h192 : b = 3
                            · have e193 : b = 3 := h192
                              subst e193
                              refine g_aa (i := 3) (a := 1) (n := 8) (v := 17) rfl rfl (by decide) (x_at (x_f1 hF) (k := 3) rfl) ?_
                              refine g_n 4 (pc' := 44) (L' := [some (.ref 0), some (.int 5), some (.int 3)]) (st' := [.int 3, .ref 1, .int 0, .ref 17, .int 0, .int 0, .ref 21]) rfl ?_
                              refine g_aa (i := 3) (a := 1) (n := 8) (v := 17) rfl rfl (by decide) (x_at (x_f1 hF) (k := 3) rfl) ?_
                              refine g_n 1 (pc' := 48) (L' := [some (.ref 0), some (.int 5), some (.int 3)]) (st' := [.int 0, .int 0, .ref 17, .int 0, .int 0, .ref 21]) rfl ?_
                              refine g_call (ins := .invokevirtual 169) (len := 3) (j := 15) (as := [.ref 21, .int 0, .int 0, .ref 17, .int 0, .int 0]) (rest := []) rfl rfl rfl rfl (fun _ => rfl) rfl ?_
                              refine g_in (M := x_M15) (L := [some (.ref 21), some (.int 0), some (.int 0), some (.ref 17), some (.int 0), some (.int 0), none, none, none, none]) x_pl15 rfl ?_
                              refine g_n 10 (pc' := 106) (L' := [some (.ref 21), some (.int 0), some (.int 0), some (.ref 17), some (.int 0), some (.int 0), some (.int 0), none, none, none]) (st' := [.int 1]) rfl ?_
                              refine g_ret (ins := .ireturn) (len := 1) (r := (some (.int 1))) rfl rfl rfl ?_
                              refine g_n 3 (pc' := 59) (L' := [some (.ref 0), some (.int 5), some (.int 3)]) (st' := [.int 1]) rfl ?_
                              refine g_ret (ins := .ireturn) (len := 1) (r := (some (.int 1))) rfl rfl rfl ?_
                              refine ⟨⟨_, rfl⟩, ?_⟩
                              refine g_in (M := x_M420) (L := [some (.ref 281), some (.int 5), some (.int 3), none, none]) x_pl420 rfl ?_
                              refine g_n 2 (pc' := 2) (L' := [some (.ref 281), some (.int 5), some (.int 3), none, none]) (st' := [.int 5, .ref 281]) rfl ?_
                              refine g_call (ins := .invokevirtual 671) (len := 3) (j := 411) (as := [.ref 281, .int 5]) (rest := []) rfl rfl rfl rfl (fun _ => rfl) rfl ?_
                              refine g_in (M := x_M411) (L := [some (.ref 281), some (.int 5)]) x_pl411 rfl ?_
                              refine g_n 7 (pc' := 15) (L' := [some (.ref 281), some (.int 5)]) (st' := [.int 1]) rfl ?_
                              refine g_ret (ins := .ireturn) (len := 1) (r := (some (.int 1))) rfl rfl rfl ?_
                              refine g_n 3 (pc' := 10) (L' := [some (.ref 281), some (.int 5), some (.int 3), none, none]) (st' := [.int 3, .ref 281]) rfl ?_
                              refine g_call (ins := .invokevirtual 671) (len := 3) (j := 411) (as := [.ref 281, .int 3]) (rest := []) rfl rfl rfl rfl (fun _ => rfl) rfl ?_
                              refine g_in (M := x_M411) (L := [some (.ref 281), some (.int 3)]) x_pl411 rfl ?_
                              refine g_n 7 (pc' := 15) (L' := [some (.ref 281), some (.int 3)]) (st' := [.int 1]) rfl ?_
                              refine g_ret (ins := .ireturn) (len := 1) (r := (some (.int 1))) rfl rfl rfl ?_
                              refine g_n 25 (pc' := 107) (L' := [some (.ref 281), some (.int 5), some (.int 3), some (.int 1), some (.int 0)]) (st' := [.int 1]) rfl ?_
                              exact g_ret (ins := .ireturn) (len := 1) (r := (some (.int 1))) rfl rfl rfl ⟨_, rfl, rfl, (x_sv_rf _)⟩
                            · have q194 : ¬ b = 3 := h192
                              have p195 : 4 ≤ b.toInt := x_lo_ne q194 p191 (by decide)
                              by_cases h196 : b = 4
                              · have e197 : b = 4 := h196
                                subst e197
                                refine g_aa (i := 4) (a := 1) (n := 8) (v := 19) rfl rfl (by decide) (x_at (x_f1 hF) (k := 4) rfl) ?_
                                refine g_n 4 (pc' := 44) (L' := [some (.ref 0), some (.int 5), some (.int 4)]) (st' := [.int 4, .ref 1, .int 0, .ref 19, .int 0, .int 0, .ref 21]) rfl ?_
                                refine g_aa (i := 4) (a := 1) (n := 8) (v := 19) rfl rfl (by decide) (x_at (x_f1 hF) (k := 4) rfl) ?_
                                refine g_n 1 (pc' := 48) (L' := [some (.ref 0), some (.int 5), some (.int 4)]) (st' := [.int 0, .int 0, .ref 19, .int 0, .int 0, .ref 21]) rfl ?_
                                refine g_call (ins := .invokevirtual 169) (len := 3) (j := 15) (as := [.ref 21, .int 0, .int 0, .ref 19, .int 0, .int 0]) (rest := []) rfl rfl rfl rfl (fun _ => rfl) rfl ?_
                                refine g_in (M := x_M15) (L := [some (.ref 21), some (.int 0), some (.int 0), some (.ref 19), some (.int 0), some (.int 0), none, none, none, none]) x_pl15 rfl ?_
                                refine g_n 10 (pc' := 106) (L' := [some (.ref 21), some (.int 0), some (.int 0), some (.ref 19), some (.int 0), some (.int 0), some (.int 0), none, none, none]) (st' := [.int 1]) rfl ?_
                                refine g_ret (ins := .ireturn) (len := 1) (r := (some (.int 1))) rfl rfl rfl ?_
                                refine g_n 3 (pc' := 59) (L' := [some (.ref 0), some (.int 5), some (.int 4)]) (st' := [.int 1]) rfl ?_
                                refine g_ret (ins := .ireturn) (len := 1) (r := (some (.int 1))) rfl rfl rfl ?_
                                refine ⟨⟨_, rfl⟩, ?_⟩
                                refine g_in (M := x_M420) (L := [some (.ref 281), some (.int 5), some (.int 4), none, none]) x_pl420 rfl ?_
                                refine g_n 2 (pc' := 2) (L' := [some (.ref 281), some (.int 5), some (.int 4), none, none]) (st' := [.int 5, .ref 281]) rfl ?_
                                refine g_call (ins := .invokevirtual 671) (len := 3) (j := 411) (as := [.ref 281, .int 5]) (rest := []) rfl rfl rfl rfl (fun _ => rfl) rfl ?_
                                refine g_in (M := x_M411) (L := [some (.ref 281), some (.int 5)]) x_pl411 rfl ?_
                                refine g_n 7 (pc' := 15) (L' := [some (.ref 281), some (.int 5)]) (st' := [.int 1]) rfl ?_
                                refine g_ret (ins := .ireturn) (len := 1) (r := (some (.int 1))) rfl rfl rfl ?_
                                refine g_n 3 (pc' := 10) (L' := [some (.ref 281), some (.int 5), some (.int 4), none, none]) (st' := [.int 4, .ref 281]) rfl ?_
                                refine g_call (ins := .invokevirtual 671) (len := 3) (j := 411) (as := [.ref 281, .int 4]) (rest := []) rfl rfl rfl rfl (fun _ => rfl) rfl ?_
                                refine g_in (M := x_M411) (L := [some (.ref 281), some (.int 4)]) x_pl411 rfl ?_
                                refine g_n 7 (pc' := 15) (L' := [some (.ref 281), some (.int 4)]) (st' := [.int 1]) rfl ?_
                                refine g_ret (ins := .ireturn) (len := 1) (r := (some (.int 1))) rfl rfl rfl ?_
                                refine g_n 25 (pc' := 107) (L' := [some (.ref 281), some (.int 5), some (.int 4), some (.int 1), some (.int 0)]) (st' := [.int 1]) rfl ?_
                                exact g_ret (ins := .ireturn) (len := 1) (r := (some (.int 1))) rfl rfl rfl ⟨_, rfl, rfl, (x_sv_rf _)⟩
                              · have q198 : ¬ b = 4 := h196
                                have p199 : 5 ≤ b.toInt := x_lo_ne q198 p195 (by decide)
                                by_cases h200 : b = 5
                                · have e201 : b = 5 := h200
                                  subst e201
                                  refine g_aa (i := 5) (a := 1) (n := 8) (v := 21) rfl rfl (by decide) (x_at (x_f1 hF) (k := 5) rfl) ?_
                                  refine g_n 4 (pc' := 44) (L' := [some (.ref 0), some (.int 5), some (.int 5)]) (st' := [.int 5, .ref 1, .int 0, .ref 21, .int 0, .int 0, .ref 21]) rfl ?_
                                  refine g_aa (i := 5) (a := 1) (n := 8) (v := 21) rfl rfl (by decide) (x_at (x_f1 hF) (k := 5) rfl) ?_
                                  refine g_n 1 (pc' := 48) (L' := [some (.ref 0), some (.int 5), some (.int 5)]) (st' := [.int 0, .int 0, .ref 21, .int 0, .int 0, .ref 21]) rfl ?_
                                  refine g_call (ins := .invokevirtual 169) (len := 3) (j := 15) (as := [.ref 21, .int 0, .int 0, .ref 21, .int 0, .int 0]) (rest := []) rfl rfl rfl rfl (fun _ => rfl) rfl ?_
                                  refine g_in (M := x_M15) (L := [some (.ref 21), some (.int 0), some (.int 0), some (.ref 21), some (.int 0), some (.int 0), none, none, none, none]) x_pl15 rfl ?_
                                  refine g_n 10 (pc' := 106) (L' := [some (.ref 21), some (.int 0), some (.int 0), some (.ref 21), some (.int 0), some (.int 0), some (.int 0), none, none, none]) (st' := [.int 1]) rfl ?_
                                  refine g_ret (ins := .ireturn) (len := 1) (r := (some (.int 1))) rfl rfl rfl ?_
                                  refine g_n 3 (pc' := 59) (L' := [some (.ref 0), some (.int 5), some (.int 5)]) (st' := [.int 1]) rfl ?_
                                  refine g_ret (ins := .ireturn) (len := 1) (r := (some (.int 1))) rfl rfl rfl ?_
                                  refine ⟨⟨_, rfl⟩, ?_⟩
                                  refine g_in (M := x_M420) (L := [some (.ref 281), some (.int 5), some (.int 5), none, none]) x_pl420 rfl ?_
                                  refine g_n 2 (pc' := 2) (L' := [some (.ref 281), some (.int 5), some (.int 5), none, none]) (st' := [.int 5, .ref 281]) rfl ?_
                                  refine g_call (ins := .invokevirtual 671) (len := 3) (j := 411) (as := [.ref 281, .int 5]) (rest := []) rfl rfl rfl rfl (fun _ => rfl) rfl ?_
                                  refine g_in (M := x_M411) (L := [some (.ref 281), some (.int 5)]) x_pl411 rfl ?_
                                  refine g_n 7 (pc' := 15) (L' := [some (.ref 281), some (.int 5)]) (st' := [.int 1]) rfl ?_
                                  refine g_ret (ins := .ireturn) (len := 1) (r := (some (.int 1))) rfl rfl rfl ?_
                                  refine g_n 3 (pc' := 10) (L' := [some (.ref 281), some (.int 5), some (.int 5), none, none]) (st' := [.int 5, .ref 281]) rfl ?_
                                  refine g_call (ins := .invokevirtual 671) (len := 3) (j := 411) (as := [.ref 281, .int 5]) (rest := []) rfl rfl rfl rfl (fun _ => rfl) rfl ?_
                                  refine g_in (M := x_M411) (L := [some (.ref 281), some (.int 5)]) x_pl411 rfl ?_
                                  refine g_n 7 (pc' := 15) (L' := [some (.ref 281), some (.int 5)]) (st' := [.int 1]) rfl ?_
                                  refine g_ret (ins := .ireturn) (len := 1) (r := (some (.int 1))) rfl rfl rfl ?_
                                  refine g_n 25 (pc' := 107) (L' := [some (.ref 281), some (.int 5), some (.int 5), some (.int 1), some (.int 0)]) (st' := [.int 1]) rfl ?_
                                  exact g_ret (ins := .ireturn) (len := 1) (r := (some (.int 1))) rfl rfl rfl ⟨_, rfl, rfl, (x_sv_rf _)⟩
                                · have q202 : ¬ b = 5 := h200
                                  have p203 : 6 ≤ b.toInt := x_lo_ne q202 p199 (by decide)
                                  by_cases h204 : b = 6
                                  · have e205 : b = 6 := h204
                                    subst e205
                                    refine g_aa (i := 6) (a := 1) (n := 8) (v := 23) rfl rfl (by decide) (x_at (x_f1 hF) (k := 6) rfl) ?_
                                    refine g_n 4 (pc' := 44) (L' := [some (.ref 0), some (.int 5), some (.int 6)]) (st' := [.int 6, .ref 1, .int 0, .ref 23, .int 0, .int 0, .ref 21]) rfl ?_
                                    refine g_aa (i := 6) (a := 1) (n := 8) (v := 23) rfl rfl (by decide) (x_at (x_f1 hF) (k := 6) rfl) ?_
                                    refine g_n 1 (pc' := 48) (L' := [some (.ref 0), some (.int 5), some (.int 6)]) (st' := [.int 0, .int 0, .ref 23, .int 0, .int 0, .ref 21]) rfl ?_
                                    refine g_call (ins := .invokevirtual 169) (len := 3) (j := 15) (as := [.ref 21, .int 0, .int 0, .ref 23, .int 0, .int 0]) (rest := []) rfl rfl rfl rfl (fun _ => rfl) rfl ?_
                                    refine g_in (M := x_M15) (L := [some (.ref 21), some (.int 0), some (.int 0), some (.ref 23), some (.int 0), some (.int 0), none, none, none, none]) x_pl15 rfl ?_
                                    refine g_n 10 (pc' := 106) (L' := [some (.ref 21), some (.int 0), some (.int 0), some (.ref 23), some (.int 0), some (.int 0), some (.int 0), none, none, none]) (st' := [.int 1]) rfl ?_
                                    refine g_ret (ins := .ireturn) (len := 1) (r := (some (.int 1))) rfl rfl rfl ?_
                                    refine g_n 3 (pc' := 59) (L' := [some (.ref 0), some (.int 5), some (.int 6)]) (st' := [.int 1]) rfl ?_
                                    refine g_ret (ins := .ireturn) (len := 1) (r := (some (.int 1))) rfl rfl rfl ?_
                                    refine ⟨⟨_, rfl⟩, ?_⟩
                                    refine g_in (M := x_M420) (L := [some (.ref 281), some (.int 5), some (.int 6), none, none]) x_pl420 rfl ?_
                                    refine g_n 2 (pc' := 2) (L' := [some (.ref 281), some (.int 5), some (.int 6), none, none]) (st' := [.int 5, .ref 281]) rfl ?_
                                    refine g_call (ins := .invokevirtual 671) (len := 3) (j := 411) (as := [.ref 281, .int 5]) (rest := []) rfl rfl rfl rfl (fun _ => rfl) rfl ?_
                                    refine g_in (M := x_M411) (L := [some (.ref 281), some (.int 5)]) x_pl411 rfl ?_
                                    refine g_n 7 (pc' := 15) (L' := [some (.ref 281), some (.int 5)]) (st' := [.int 1]) rfl ?_
                                    refine g_ret (ins := .ireturn) (len := 1) (r := (some (.int 1))) rfl rfl rfl ?_
                                    refine g_n 3 (pc' := 10) (L' := [some (.ref 281), some (.int 5), some (.int 6), none, none]) (st' := [.int 6, .ref 281]) rfl ?_
                                    refine g_call (ins := .invokevirtual 671) (len := 3) (j := 411) (as := [.ref 281, .int 6]) (rest := []) rfl rfl rfl rfl (fun _ => rfl) rfl ?_
                                    refine g_in (M := x_M411) (L := [some (.ref 281), some (.int 6)]) x_pl411 rfl ?_
                                    refine g_n 7 (pc' := 15) (L' := [some (.ref 281), some (.int 6)]) (st' := [.int 1]) rfl ?_
                                    refine g_ret (ins := .ireturn) (len := 1) (r := (some (.int 1))) rfl rfl rfl ?_
                                    refine g_n 25 (pc' := 107) (L' := [some (.ref 281), some (.int 5), some (.int 6), some (.int 1), some (.int 0)]) (st' := [.int 1]) rfl ?_
                                    exact g_ret (ins := .ireturn) (len := 1) (r := (some (.int 1))) rfl rfl rfl ⟨_, rfl, rfl, (x_sv_rf _)⟩
                                  · have q206 : ¬ b = 6 := h204
                                    have p207 : 7 ≤ b.toInt := x_lo_ne q206 p203 (by decide)
                                    have e208 : b = 7 := x_sing p207 p12 (by decide)
                                    subst e208
                                    refine g_aa (i := 7) (a := 1) (n := 8) (v := 25) rfl rfl (by decide) (x_at (x_f1 hF) (k := 7) rfl) ?_
                                    refine g_n 4 (pc' := 44) (L' := [some (.ref 0), some (.int 5), some (.int 7)]) (st' := [.int 7, .ref 1, .int 0, .ref 25, .int 0, .int 0, .ref 21]) rfl ?_
                                    refine g_aa (i := 7) (a := 1) (n := 8) (v := 25) rfl rfl (by decide) (x_at (x_f1 hF) (k := 7) rfl) ?_
                                    refine g_n 1 (pc' := 48) (L' := [some (.ref 0), some (.int 5), some (.int 7)]) (st' := [.int 0, .int 0, .ref 25, .int 0, .int 0, .ref 21]) rfl ?_
                                    refine g_call (ins := .invokevirtual 169) (len := 3) (j := 15) (as := [.ref 21, .int 0, .int 0, .ref 25, .int 0, .int 0]) (rest := []) rfl rfl rfl rfl (fun _ => rfl) rfl ?_
                                    refine g_in (M := x_M15) (L := [some (.ref 21), some (.int 0), some (.int 0), some (.ref 25), some (.int 0), some (.int 0), none, none, none, none]) x_pl15 rfl ?_
                                    refine g_n 10 (pc' := 106) (L' := [some (.ref 21), some (.int 0), some (.int 0), some (.ref 25), some (.int 0), some (.int 0), some (.int 0), none, none, none]) (st' := [.int 1]) rfl ?_
                                    refine g_ret (ins := .ireturn) (len := 1) (r := (some (.int 1))) rfl rfl rfl ?_
                                    refine g_n 3 (pc' := 59) (L' := [some (.ref 0), some (.int 5), some (.int 7)]) (st' := [.int 1]) rfl ?_
                                    refine g_ret (ins := .ireturn) (len := 1) (r := (some (.int 1))) rfl rfl rfl ?_
                                    refine ⟨⟨_, rfl⟩, ?_⟩
                                    refine g_in (M := x_M420) (L := [some (.ref 281), some (.int 5), some (.int 7), none, none]) x_pl420 rfl ?_
                                    refine g_n 2 (pc' := 2) (L' := [some (.ref 281), some (.int 5), some (.int 7), none, none]) (st' := [.int 5, .ref 281]) rfl ?_
                                    refine g_call (ins := .invokevirtual 671) (len := 3) (j := 411) (as := [.ref 281, .int 5]) (rest := []) rfl rfl rfl rfl (fun _ => rfl) rfl ?_
                                    refine g_in (M := x_M411) (L := [some (.ref 281), some (.int 5)]) x_pl411 rfl ?_
                                    refine g_n 7 (pc' := 15) (L' := [some (.ref 281), some (.int 5)]) (st' := [.int 1]) rfl ?_
                                    refine g_ret (ins := .ireturn) (len := 1) (r := (some (.int 1))) rfl rfl rfl ?_
                                    refine g_n 3 (pc' := 10) (L' := [some (.ref 281), some (.int 5), some (.int 7), none, none]) (st' := [.int 7, .ref 281]) rfl ?_
                                    refine g_call (ins := .invokevirtual 671) (len := 3) (j := 411) (as := [.ref 281, .int 7]) (rest := []) rfl rfl rfl rfl (fun _ => rfl) rfl ?_
                                    refine g_in (M := x_M411) (L := [some (.ref 281), some (.int 7)]) x_pl411 rfl ?_
                                    refine g_n 7 (pc' := 15) (L' := [some (.ref 281), some (.int 7)]) (st' := [.int 1]) rfl ?_
                                    refine g_ret (ins := .ireturn) (len := 1) (r := (some (.int 1))) rfl rfl rfl ?_
                                    refine g_n 25 (pc' := 107) (L' := [some (.ref 281), some (.int 5), some (.int 7), some (.int 1), some (.int 0)]) (st' := [.int 1]) rfl ?_
                                    exact g_ret (ins := .ireturn) (len := 1) (r := (some (.int 1))) rfl rfl rfl ⟨_, rfl, rfl, (x_sv_rf _)⟩
                    · have q209 : ¬ a = 5 := h178
                      have p210 : 6 ≤ a.toInt := x_lo_ne q209 p177 (by decide)
                      by_cases h211 : a = 6
                      · have e212 : a = 6 := h211
                        subst e212
                        refine g_aa (i := 6) (a := 1) (n := 8) (v := 23) rfl rfl (by decide) (x_at (x_f1 hF) (k := 6) rfl) ?_
                        refine g_n 4 (pc' := 28) (L' := [some (.ref 0), some (.int 6), some (.int b)]) (st' := [.int 6, .ref 1, .int 0, .ref 23]) rfl ?_
                        refine g_aa (i := 6) (a := 1) (n := 8) (v := 23) rfl rfl (by decide) (x_at (x_f1 hF) (k := 6) rfl) ?_
                        refine g_n 4 (pc' := 37) (L' := [some (.ref 0), some (.int 6), some (.int b)]) (st' := [.int b, .ref 1, .int 0, .int 0, .ref 23]) rfl ?_
                        by_cases h213 : b = 0
                        · have e214 : b = 0 := h213
                          subst e214
                          refine g_aa (i := 0) (a := 1) (n := 8) (v := 11) rfl rfl (by decide) (x_at (x_f1 hF) (k := 0) rfl) ?_
                          refine g_n 4 (pc' := 44) (L' := [some (.ref 0), some (.int 6), some (.int 0)]) (st' := [.int 0, .ref 1, .int 0, .ref 11, .int 0, .int 0, .ref 23]) rfl ?_
                          refine g_aa (i := 0) (a := 1) (n := 8) (v := 11) rfl rfl (by decide) (x_at (x_f1 hF) (k := 0) rfl) ?_
                          refine g_n 1 (pc' := 48) (L' := [some (.ref 0), some (.int 6), some (.int 0)]) (st' := [.int 0, .int 0, .ref 11, .int 0, .int 0, .ref 23]) rfl ?_
                          refine g_call (ins := .invokevirtual 169) (len := 3) (j := 15) (as := [.ref 23, .int 0, .int 0, .ref 11, .int 0, .int 0]) (rest := []) rfl rfl rfl rfl (fun _ => rfl) rfl ?_
                          refine g_in (M := x_M15) (L := [some (.ref 23), some (.int 0), some (.int 0), some (.ref 11), some (.int 0), some (.int 0), none, none, none, none]) x_pl15 rfl ?_
                          refine g_n 10 (pc' := 106) (L' := [some (.ref 23), some (.int 0), some (.int 0), some (.ref 11), some (.int 0), some (.int 0), some (.int 0), none, none, none]) (st' := [.int 1]) rfl ?_
                          refine g_ret (ins := .ireturn) (len := 1) (r := (some (.int 1))) rfl rfl rfl ?_
                          refine g_n 3 (pc' := 59) (L' := [some (.ref 0), some (.int 6), some (.int 0)]) (st' := [.int 1]) rfl ?_
                          refine g_ret (ins := .ireturn) (len := 1) (r := (some (.int 1))) rfl rfl rfl ?_
                          refine ⟨⟨_, rfl⟩, ?_⟩
                          refine g_in (M := x_M420) (L := [some (.ref 281), some (.int 6), some (.int 0), none, none]) x_pl420 rfl ?_
                          refine g_n 2 (pc' := 2) (L' := [some (.ref 281), some (.int 6), some (.int 0), none, none]) (st' := [.int 6, .ref 281]) rfl ?_
                          refine g_call (ins := .invokevirtual 671) (len := 3) (j := 411) (as := [.ref 281, .int 6]) (rest := []) rfl rfl rfl rfl (fun _ => rfl) rfl ?_
                          refine g_in (M := x_M411) (L := [some (.ref 281), some (.int 6)]) x_pl411 rfl ?_
                          refine g_n 7 (pc' := 15) (L' := [some (.ref 281), some (.int 6)]) (st' := [.int 1]) rfl ?_
                          refine g_ret (ins := .ireturn) (len := 1) (r := (some (.int 1))) rfl rfl rfl ?_
                          refine g_n 3 (pc' := 10) (L' := [some (.ref 281), some (.int 6), some (.int 0), none, none]) (st' := [.int 0, .ref 281]) rfl ?_
                          refine g_call (ins := .invokevirtual 671) (len := 3) (j := 411) (as := [.ref 281, .int 0]) (rest := []) rfl rfl rfl rfl (fun _ => rfl) rfl ?_
                          refine g_in (M := x_M411) (L := [some (.ref 281), some (.int 0)]) x_pl411 rfl ?_
                          refine g_n 7 (pc' := 15) (L' := [some (.ref 281), some (.int 0)]) (st' := [.int 1]) rfl ?_
                          refine g_ret (ins := .ireturn) (len := 1) (r := (some (.int 1))) rfl rfl rfl ?_
                          refine g_n 25 (pc' := 107) (L' := [some (.ref 281), some (.int 6), some (.int 0), some (.int 1), some (.int 0)]) (st' := [.int 1]) rfl ?_
                          exact g_ret (ins := .ireturn) (len := 1) (r := (some (.int 1))) rfl rfl rfl ⟨_, rfl, rfl, (x_sv_rf _)⟩
                        · have q215 : ¬ b = 0 := h213
                          have p216 : 1 ≤ b.toInt := x_lo_ne q215 p9 (by decide)
                          by_cases h217 : b = 1
                          · have e218 : b = 1 := h217
                            subst e218
                            refine g_aa (i := 1) (a := 1) (n := 8) (v := 13) rfl rfl (by decide) (x_at (x_f1 hF) (k := 1) rfl) ?_
                            refine g_n 4 (pc' := 44) (L' := [some (.ref 0), some (.int 6), some (.int 1)]) (st' := [.int 1, .ref 1, .int 0, .ref 13, .int 0, .int 0, .ref 23]) rfl ?_
                            refine g_aa (i := 1) (a := 1) (n := 8) (v := 13) rfl rfl (by decide) (x_at (x_f1 hF) (k := 1) rfl) ?_
                            refine g_n 1 (pc' := 48) (L' := [some (.ref 0), some (.int 6), some (.int 1)]) (st' := [.int 0, .int 0, .ref 13, .int 0, .int 0, .ref 23]) rfl ?_
                            refine g_call (ins := .invokevirtual 169) (len := 3) (j := 15) (as := [.ref 23, .int 0, .int 0, .ref 13, .int 0, .int 0]) (rest := []) rfl rfl rfl rfl (fun _ => rfl) rfl ?_
                            refine g_in (M := x_M15) (L := [some (.ref 23), some (.int 0), some (.int 0), some (.ref 13), some (.int 0), some (.int 0), none, none, none, none]) x_pl15 rfl ?_
                            refine g_n 10 (pc' := 106) (L' := [some (.ref 23), some (.int 0), some (.int 0), some (.ref 13), some (.int 0), some (.int 0), some (.int 0), none, none, none]) (st' := [.int 1]) rfl ?_
                            refine g_ret (ins := .ireturn) (len := 1) (r := (some (.int 1))) rfl rfl rfl ?_
                            refine g_n 3 (pc' := 59) (L' := [some (.ref 0), some (.int 6), some (.int 1)]) (st' := [.int 1]) rfl ?_
                            refine g_ret (ins := .ireturn) (len := 1) (r := (some (.int 1))) rfl rfl rfl ?_
                            refine ⟨⟨_, rfl⟩, ?_⟩
                            refine g_in (M := x_M420) (L := [some (.ref 281), some (.int 6), some (.int 1), none, none]) x_pl420 rfl ?_
                            refine g_n 2 (pc' := 2) (L' := [some (.ref 281), some (.int 6), some (.int 1), none, none]) (st' := [.int 6, .ref 281]) rfl ?_
                            refine g_call (ins := .invokevirtual 671) (len := 3) (j := 411) (as := [.ref 281, .int 6]) (rest := []) rfl rfl rfl rfl (fun _ => rfl) rfl ?_
                            refine g_in (M := x_M411) (L := [some (.ref 281), some (.int 6)]) x_pl411 rfl ?_
                            refine g_n 7 (pc' := 15) (L' := [some (.ref 281), some (.int 6)]) (st' := [.int 1]) rfl ?_
                            refine g_ret (ins := .ireturn) (len := 1) (r := (some (.int 1))) rfl rfl rfl ?_
                            refine g_n 3 (pc' := 10) (L' := [some (.ref 281), some (.int 6), some (.int 1), none, none]) (st' := [.int 1, .ref 281]) rfl ?_
                            refine g_call (ins := .invokevirtual 671) (len := 3) (j := 411) (as := [.ref 281, .int 1]) (rest := []) rfl rfl rfl rfl (fun _ => rfl) rfl ?_
                            refine g_in (M := x_M411) (L := [some (.ref 281), some (.int 1)]) x_pl411 rfl ?_
                            refine g_n 7 (pc' := 15) (L' := [some (.ref 281), some (.int 1)]) (st' := [.int 1]) rfl ?_
                            refine g_ret (ins := .ireturn) (len := 1) (r := (some (.int 1))) rfl rfl rfl ?_
                            refine g_n 25 (pc' := 107) (L' := [some (.ref 281), some (.int 6), some (.int 1), some (.int 1), some (.int 0)]) (st' := [.int 1]) rfl ?_
                            exact g_ret (ins := .ireturn) (len := 1) (r := (some (.int 1))) rfl rfl rfl ⟨_, rfl, rfl, (x_sv_rf _)⟩
                          · have q219 : ¬ b = 1 := h217
                            have p220 : 2 ≤ b.toInt := x_lo_ne q219 p216 (by decide)
                            by_cases h221 : b = 2
                            · have e222 : b = 2 := h221
                              subst e222
                              refine g_aa (i := 2) (a := 1) (n := 8) (v := 15) rfl rfl (by decide) (x_at (x_f1 hF) (k := 2) rfl) ?_
                              refine g_n 4 (pc' := 44) (L' := [some (.ref 0), some (.int 6), some (.int 2)]) (st' := [.int 2, .ref 1, .int 0, .ref 15, .int 0, .int 0, .ref 23]) rfl ?_
                              refine g_aa (i := 2) (a := 1) (n := 8) (v := 15) rfl rfl (by decide) (x_at (x_f1 hF) (k := 2) rfl) ?_
                              refine g_n 1 (pc' := 48) (L' := [some (.ref 0), some (.int 6), some (.int 2)]) (st' := [.int 0, .int 0, .ref 15, .int 0, .int 0, .ref 23]) rfl ?_
                              refine g_call (ins := .invokevirtual 169) (len := 3) (j := 15) (as := [.ref 23, .int 0, .int 0, .ref 15, .int 0, .int 0]) (rest := []) rfl rfl rfl rfl (fun _ => rfl) rfl ?_
                              refine g_in (M := x_M15) (L := [some (.ref 23), some (.int 0), some (.int 0), some (.ref 15), some (.int 0), some (.int 0), none, none, none, none]) x_pl15 rfl ?_
                              refine g_n 10 (pc' := 106) (L' := [some (.ref 23), some (.int 0), some (.int 0), some (.ref 15), some (.int 0), some (.int 0), some (.int 0), none, none, none]) (st' := [.int 1]) rfl ?_
                              refine g_ret (ins := .ireturn) (len := 1) (r := (some (.int 1))) rfl rfl rfl ?_
                              refine g_n 3 (pc' := 59) (L' := [some (.ref 0), some (.int 6), some (.int 2)]) (st' := [.int 1]) rfl ?_
                              refine g_ret (ins := .ireturn) (len := 1) (r := (some (.int 1))) rfl rfl rfl ?_
                              refine ⟨⟨_, rfl⟩, ?_⟩
                              refine g_in (M := x_M420) (L := [some (.ref 281), some (.int 6), some (.int 2), none, none]) x_pl420 rfl ?_
                              refine g_n 2 (pc' := 2) (L' := [some (.ref 281), some (.int 6), some (.int 2), none, none]) (st' := [.int 6, .ref 281]) rfl ?_
                              refine g_call (ins := .invokevirtual 671) (len := 3) (j := 411) (as := [.ref 281, .int 6]) (rest := []) rfl rfl rfl rfl (fun _ => rfl) rfl ?_
                              refine g_in (M := x_M411) (L := [some (.ref 281), some (.int 6)]) x_pl411 rfl ?_
                              refine g_n 7 (pc' := 15) (L' := [some (.ref 281), some (.int 6)]) (st' := [.int 1]) rfl ?_
                              refine g_ret (ins := .ireturn) (len := 1) (r := (some (.int 1))) rfl rfl rfl ?_
                              refine g_n 3 (pc' := 10) (L' := [some (.ref 281), some (.int 6), some (.int 2), none, none]) (st' := [.int 2, .ref 281]) rfl ?_
                              refine g_call (ins := .invokevirtual 671) (len := 3) (j := 411) (as := [.ref 281, .int 2]) (rest := []) rfl rfl rfl rfl (fun _ => rfl) rfl ?_
                              refine g_in (M := x_M411) (L := [some (.ref 281), some (.int 2)]) x_pl411 rfl ?_
                              refine g_n 7 (pc' := 15) (L' := [some (.ref 281), some (.int 2)]) (st' := [.int 1]) rfl ?_
                              refine g_ret (ins := .ireturn) (len := 1) (r := (some (.int 1))) rfl rfl rfl ?_
                              refine g_n 25 (pc' := 107) (L' := [some (.ref 281), some (.int 6), some (.int 2), some (.int 1), some (.int 0)]) (st' := [.int 1]) rfl ?_
                              exact g_ret (ins := .ireturn) (len := 1) (r := (some (.int 1))) rfl rfl rfl ⟨_, rfl, rfl, (x_sv_rf _)⟩
                            · have q223 : ¬ b = 2 := h221
                              have p224 : 3 ≤ b.toInt := x_lo_ne q223 p220 (by decide)
                              by_cases h225 : b = 3
                              · have e226 : b = 3 := h225
                                subst e226
                                refine g_aa (i := 3) (a := 1) (n := 8) (v := 17) rfl rfl (by decide) (x_at (x_f1 hF) (k := 3) rfl) ?_
                                refine g_n 4 (pc' := 44) (L' := [some (.ref 0), some (.int 6), some (.int 3)]) (st' := [.int 3, .ref 1, .int 0, .ref 17, .int 0, .int 0, .ref 23]) rfl ?_
                                refine g_aa (i := 3) (a := 1) (n := 8) (v := 17) rfl rfl (by decide) (x_at (x_f1 hF) (k := 3) rfl) ?_
                                refine g_n 1 (pc' := 48) (L' := [some (.ref 0), some (.int 6), some (.int 3)]) (st' := [.int 0, .int 0, .ref 17, .int 0, .int 0, .ref 23]) rfl ?_
                                refine g_call (ins := .invokevirtual 169) (len := 3) (j := 15) (as := [.ref 23, .int 0, .int 0, .ref 17, .int 0, .int 0]) (rest := []) rfl rfl rfl rfl (fun _ => rfl) rfl ?_
                                refine g_in (M := x_M15) (L := [some (.ref 23), some (.int 0), some (.int 0), some (.ref 17), some (.int 0), some (.int 0), none, none, none, none]) x_pl15 rfl ?_
                                refine g_n 10 (pc' := 106) (L' := [some (.ref 23), some (.int 0), some (.int 0), some (.ref 17), some (.int 0), some (.int 0), some (.int 0), none, none, none]) (st' := [.int 1]) rfl ?_
                                refine g_ret (ins := .ireturn) (len := 1) (r := (some (.int 1))) rfl rfl rfl ?_
                                refine g_n 3 (pc' := 59) (L' := [some (.ref 0), some (.int 6), some (.int 3)]) (st' := [.int 1]) rfl ?_
                                refine g_ret (ins := .ireturn) (len := 1) (r := (some (.int 1))) rfl rfl rfl ?_
                                refine ⟨⟨_, rfl⟩, ?_⟩
                                refine g_in (M := x_M420) (L := [some (.ref 281), some (.int 6), some (.int 3), none, none]) x_pl420 rfl ?_
                                refine g_n 2 (pc' := 2) (L' := [some (.ref 281), some (.int 6), some (.int 3), none, none]) (st' := [.int 6, .ref 281]) rfl ?_
                                refine g_call (ins := .invokevirtual 671) (len := 3) (j := 411) (as := [.ref 281, .int 6]) (rest := []) rfl rfl rfl rfl (fun _ => rfl) rfl ?_
                                refine g_in (M := x_M411) (L := [some (.ref 281), some (.int 6)]) x_pl411 rfl ?_
                                refine g_n 7 (pc' := 15) (L' := [some (.ref 281), some (.int 6)]) (st' := [.int 1]) rfl ?_
                                refine g_ret (ins := .ireturn) (len := 1) (r := (some (.int 1))) rfl rfl rfl ?_
                                refine g_n 3 (pc' := 10) (L' := [some (.ref 281), some (.int 6), some (.int 3), none, none]) (st' := [.int 3, .ref 281]) rfl ?_
                                refine g_call (ins := .invokevirtual 671) (len := 3) (j := 411) (as := [.ref 281, .int 3]) (rest := []) rfl rfl rfl rfl (fun _ => rfl) rfl ?_
                                refine g_in (M := x_M411) (L := [some (.ref 281), some (.int 3)]) x_pl411 rfl ?_
                                refine g_n 7 (pc' := 15) (L' := [some (.ref 281), some (.int 3)]) (st' := [.int 1]) rfl ?_
                                refine g_ret (ins := .ireturn) (len := 1) (r := (some (.int 1))) rfl rfl rfl ?_
                                refine g_n 25 (pc' := 107) (L' := [some (.ref 281), some (.int 6), some (.int 3), some (.int 1), some (.int 0)]) (st' := [.int 1]) rfl ?_
                                exact g_ret (ins := .ireturn) (len := 1) (r := (some (.int 1))) rfl rfl rfl ⟨_, rfl, rfl, (x_sv_rf _)⟩
                              · have q227 : ¬ b = 3 := h225
                                have p228 : 4 ≤ b.toInt := x_lo_ne q227 p224 (by decide)
                                by_cases h229 : b = 4
                                · have e230 : b = 4 := h229
                                  subst e230
                                  refine g_aa (i := 4) (a := 1) (n := 8) (v := 19) rfl rfl (by decide) (x_at (x_f1 hF) (k := 4) rfl) ?_
                                  refine g_n 4 (pc' := 44) (L' := [some (.ref 0), some (.int 6), some (.int 4)]) (st' := [.int 4, .ref 1, .int 0, .ref 19, .int 0, .int 0, .ref 23]) rfl ?_
                                  refine g_aa (i := 4) (a := 1) (n := 8) (v := 19) rfl rfl (by decide) (x_at (x_f1 hF) (k := 4) rfl) ?_
                                  refine g_n 1 (pc' := 48) (L' := [some (.ref 0), some (.int 6), some (.int 4)]) (st' := [.int 0, .int 0, .ref 19, .int 0, .int 0, .ref 23]) rfl ?_
                                  refine g_call (ins := .invokevirtual 169) (len := 3) (j := 15) (as := [.ref 23, .int 0, .int 0, .ref 19, .int 0, .int 0]) (rest := []) rfl rfl rfl rfl (fun _ => rfl) rfl ?_
                                  refine g_in (M := x_M15) (L := [some (.ref 23), some (.int 0), some (.int 0), some (.ref 19), some (.int 0), some (.int 0), none, none, none, none]) x_pl15 rfl ?_
                                  refine g_n 10 (pc' := 106) (L' := [some (.ref 23), some (.int 0), some (.int 0), some (.ref 19), some (.int 0), some (.int 0), some (.int 0), none, none, none]) (st' := [.int 1]) rfl ?_
                                  refine g_ret (ins := .ireturn) (len := 1) (r := (some (.int 1))) rfl rfl rfl ?_
                                  refine g_n 3 (pc' := 59) (L' := [some (.ref 0), some (.int 6), some (.int 4)]) (st' := [.int 1]) rfl ?_
                                  refine g_ret (ins := .ireturn) (len := 1) (r := (some (.int 1))) rfl rfl rfl ?_
                                  refine ⟨⟨_, rfl⟩, ?_⟩
                                  refine g_in (M := x_M420) (L := [some (.ref 281), some (.int 6), some (.int 4), none, none]) x_pl420 rfl ?_
                                  refine g_n 2 (pc' := 2) (L' := [some (.ref 281), some (.int 6), some (.int 4), none, none]) (st' := [.int 6, .ref 281]) rfl ?_
                                  refine g_call (ins := .invokevirtual 671) (len := 3) (j := 411) (as := [.ref 281, .int 6]) (rest := []) rfl rfl rfl rfl (fun _ => rfl) rfl ?_
                                  refine g_in (M := x_M411) (L := [some (.ref 281), some (.int 6)]) x_pl411 rfl ?_
                                  refine g_n 7 (pc' := 15) (L' := [some (.ref 281), some (.int 6)]) (st' := [.int 1]) rfl ?_
                                  refine g_ret (ins := .ireturn) (len := 1) (r := (some (.int 1))) rfl rfl rfl ?_
                                  refine g_n 3 (pc' := 10) (L' := [some (.ref 281), some (.int 6), some (.int 4), none, none]) (st' := [.int 4, .ref 281]) rfl ?_
                                  refine g_call (ins := .invokevirtual 671) (len := 3) (j := 411) (as := [.ref 281, .int 4]) (rest := []) rfl rfl rfl rfl (fun _ => rfl) rfl ?_
                                  refine g_in (M := x_M411) (L := [some (.ref 281), some (.int 4)]) x_pl411 rfl ?_
                                  refine g_n 7 (pc' := 15) (L' := [some (.ref 281), some (.int 4)]) (st' := [.int 1]) rfl ?_
                                  refine g_ret (ins := .ireturn) (len := 1) (r := (some (.int 1))) rfl rfl rfl ?_
                                  refine g_n 25 (pc' := 107) (L' := [some (.ref 281), some (.int 6), some (.int 4), some (.int 1), some (.int 0)]) (st' := [.int 1]) rfl ?_
                                  exact g_ret (ins := .ireturn) (len := 1) (r := (some (.int 1))) rfl rfl rfl ⟨_, rfl, rfl, (x_sv_rf _)⟩
                                · have q231 : ¬ b = 4 := h229
                                  have p232 : 5 ≤ b.toInt := x_lo_ne q231 p228 (by decide)
                                  by_cases h233 : b = 5
                                  · have e234 : b = 5 := h233
                                    subst e234
                                    refine g_aa (i := 5) (a := 1) (n := 8) (v := 21) rfl rfl (by decide) (x_at (x_f1 hF) (k := 5) rfl) ?_
                                    refine g_n 4 (pc' := 44) (L' := [some (.ref 0), some (.int 6), some (.int 5)]) (st' := [.int 5, .ref 1, .int 0, .ref 21, .int 0, .int 0, .ref 23]) rfl ?_
                                    refine g_aa (i := 5) (a := 1) (n := 8) (v := 21) rfl rfl (by decide) (x_at (x_f1 hF) (k := 5) rfl) ?_
                                    refine g_n 1 (pc' := 48) (L' := [some (.ref 0), some (.int 6), some (.int 5)]) (st' := [.int 0, .int 0, .ref 21, .int 0, .int 0, .ref 23]) rfl ?_
                                    refine g_call (ins := .invokevirtual 169) (len := 3) (j := 15) (as := [.ref 23, .int 0, .int 0, .ref 21, .int 0, .int 0]) (rest := []) rfl rfl rfl rfl (fun _ => rfl) rfl ?_
                                    refine g_in (M := x_M15) (L := [some (.ref 23), some (.int 0), some (.int 0), some (.ref 21), some (.int 0), some (.int 0), none, none, none, none]) x_pl15 rfl ?_
                                    refine g_n 10 (pc' := 106) (L' := [some (.ref 23), some (.int 0), some (.int 0), some (.ref 21), some (.int 0), some (.int 0), some (.int 0), none, none, none]) (st' := [.int 1]) rfl ?_
                                    refine g_ret (ins := .ireturn) (len := 1) (r := (some (.int 1))) rfl rfl rfl ?_
                                    refine g_n 3 (pc' := 59) (L' := [some (.ref 0), some (.int 6), some (.int 5)]) (st' := [.int 1]) rfl ?_
                                    refine g_ret (ins := .ireturn) (len := 1) (r := (some (.int 1))) rfl rfl rfl ?_
                                    refine ⟨⟨_, rfl⟩, ?_⟩
                                    refine g_in (M := x_M420) (L := [some (.ref 281), some (.int 6), some (.int 5), none, none]) x_pl420 rfl ?_
                                    refine g_n 2 (pc' := 2) (L' := [some (.ref 281), some (.int 6), some (.int 5), none, none]) (st' := [.int 6, .ref 281]) rfl ?_
                                    refine g_call (ins := .invokevirtual 671) (len := 3) (j := 411) (as := [.ref 281, .int 6]) (rest := []) rfl rfl rfl rfl (fun _ => rfl) rfl ?_
                                    refine g_in (M := x_M411) (L := [some (.ref 281), some (.int 6)]) x_pl411 rfl ?_
                                    refine g_n 7 (pc' := 15) (L' := [some (.ref 281), some (.int 6)]) (st' := [.int 1]) rfl ?_
                                    refine g_ret (ins := .ireturn) (len := 1) (r := (some (.int 1))) rfl rfl rfl ?_
                                    refine g_n 3 (pc' := 10) (L' := [some (.ref 281), some (.int 6), some (.int 5), none, none]) (st' := [.int 5, .ref 281]) rfl ?_
                                    refine g_call (ins := .invokevirtual 671) (len := 3) (j := 411) (as := [.ref 281, .int 5]) (rest := []) rfl rfl rfl rfl (fun _ => rfl) rfl ?_
                                    refine g_in (M := x_M411) (L := [some (.ref 281), some (.int 5)]) x_pl411 rfl ?_
                                    refine g_n 7 (pc' := 15) (L' := [some (.ref 281), some (.int 5)]) (st' := [.int 1]) rfl ?_
                                    refine g_ret (ins := .ireturn) (len := 1) (r := (some (.int 1))) rfl rfl rfl ?_
                                    refine g_n 25 (pc' := 107) (L' := [some (.ref 281), some (.int 6), some (.int 5), some (.int 1), some (.int 0)]) (st' := [.int 1]) rfl ?_
                                    exact g_ret (ins := .ireturn) (len := 1) (r := (some (.int 1))) rfl rfl rfl ⟨_, rfl, rfl, (x_sv_rf _)⟩
                                  · have q235 : ¬ b = 5 := h233
                                    have p236 : 6 ≤ b.toInt := x_lo_ne q235 p232 (by decide)
                                    by_cases h237 : b = 6
                                    · have e238 : b = 6 := h237
                                      subst e238
                                      refine g_aa (i := 6) (a := 1) (n := 8) (v := 23) rfl rfl (by decide) (x_at (x_f1 hF) (k := 6) rfl) ?_
                                      refine g_n 4 (pc' := 44) (L' := [some (.ref 0), some (.int 6), some (.int 6)]) (st' := [.int 6, .ref 1, .int 0, .ref 23, .int 0, .int 0, .ref 23]) rfl ?_
                                      refine g_aa (i := 6) (a := 1) (n := 8) (v := 23) rfl rfl (by decide) (x_at (x_f1 hF) (k := 6) rfl) ?_
                                      refine g_n 1 (pc' := 48) (L' := [some (.ref 0), some (.int 6), some (.int 6)]) (st' := [.int 0, .int 0, .ref 23, .int 0, .int 0, .ref 23]) rfl ?_
                                      refine g_call (ins := .invokevirtual 169) (len := 3) (j := 15) (as := [.ref 23, .int 0, .int 0, .ref 23, .int 0, .int 0]) (rest := []) rfl rfl rfl rfl (fun _ => rfl) rfl ?_
                                      refine g_in (M := x_M15) (L := [some (.ref 23), some (.int 0), some (.int 0), some (.ref 23), some (.int 0), some (.int 0), none, none, none, none]) x_pl15 rfl ?_
                                      refine g_n 10 (pc' := 106) (L' := [some (.ref 23), some (.int 0), some (.int 0), some (.ref 23), some (.int 0), some (.int 0), some (.int 0), none, none, none]) (st' := [.int 1]) rfl ?_
                                      refine g_ret (ins := .ireturn) (len := 1) (r := (some (.int 1))) rfl rfl rfl ?_
                                      refine g_n 3 (pc' := 59) (L' := [some (.ref 0), some (.int 6), some (.int 6)]) (st' := [.int 1]) rfl ?_
                                      refine g_ret (ins := .ireturn) (len := 1) (r := (some (.int 1))) rfl rfl rfl ?_
                                      refine ⟨⟨_, rfl⟩, ?_⟩
                                      refine g_in (M := x_M420) (L := [some (.ref 281), some (.int 6), some (.int 6), none, none]) x_pl420 rfl ?_
                                      refine g_n 2 (pc' := 2) (L' := [some (.ref 281), some (.int 6), some (.int 6), none, none]) (st' := [.int 6, .ref 281]) rfl ?_
                                      refine g_call (ins := .invokevirtual 671) (len := 3) (j := 411) (as := [.ref 281, .int 6]) (rest := []) rfl rfl rfl rfl (fun _ => rfl) rfl ?_
                                      refine g_in (M := x_M411) (L := [some (.ref 281), some (.int 6)]) x_pl411 rfl ?_
                                      refine g_n 7 (pc' := 15) (L' := [some (.ref 281), some (.int 6)]) (st' := [.int 1]) rfl ?_
                                      refine g_ret (ins := .ireturn) (len := 1) (r := (some (.int 1))) rfl rfl rfl ?_
                                      refine g_n 3 (pc' := 10) (L' := [some (.ref 281), some (.int 6), some (.int 6), none, none]) (st' := [.int 6, .ref 281]) rfl ?_
                                      refine g_call (ins := .invokevirtual 671) (len := 3) (j := 411) (as := [.ref 281, .int 6]) (rest := []) rfl rfl rfl rfl (fun _ => rfl) rfl ?_
                                      refine g_in (M := x_M411) (L := [some (.ref 281), some (.int 6)]) x_pl411 rfl ?_
                                      refine g_n 7 (pc' := 15) (L' := [some (.ref 281), some (.int 6)]) (st' := [.int 1]) rfl ?_
                                      refine g_ret (ins := .ireturn) (len := 1) (r := (some (.int 1))) rfl rfl rfl ?_
                                      refine g_n 25 (pc' := 107) (L' := [some (.ref 281), some (.int 6), some (.int 6), some (.int 1), some (.int 0)]) (st' := [.int 1]) rfl ?_
                                      exact g_ret (ins := .ireturn) (len := 1) (r := (some (.int 1))) rfl rfl rfl ⟨_, rfl, rfl, (x_sv_rf _)⟩
                                    · have q239 : ¬ b = 6 := h237
                                      have p240 : 7 ≤ b.toInt := x_lo_ne q239 p236 (by decide)
                                      have e241 : b = 7 := x_sing p240 p12 (by decide)
                                      subst e241
                                      refine g_aa (i := 7) (a := 1) (n := 8) (v := 25) rfl rfl (by decide) (x_at (x_f1 hF) (k := 7) rfl) ?_
                                      refine g_n 4 (pc' := 44) (L' := [some (.ref 0), some (.int 6), some (.int 7)]) (st' := [.int 7, .ref 1, .int 0, .ref 25, .int 0, .int 0, .ref 23]) rfl ?_
                                      refine g_aa (i := 7) (a := 1) (n := 8) (v := 25) rfl rfl (by decide) (x_at (x_f1 hF) (k := 7) rfl) ?_
                                      refine g_n 1 (pc' := 48) (L' := [some (.ref 0), some (.int 6), some (.int 7)]) (st' := [.int 0, .int 0, .ref 25, .int 0, .int 0, .ref 23]) rfl ?_
                                      refine g_call (ins := .invokevirtual 169) (len := 3) (j := 15) (as := [.ref 23, .int 0, .int 0, .ref 25, .int 0, .int 0]) (rest := []) rfl rfl rfl rfl (fun _ => rfl) rfl ?_
                                      refine g_in (M := x_M15) (L := [some (.ref 23), some (.int 0), some (.int 0), some (.ref 25), some (.int 0), some (.int 0), none, none, none, none]) x_pl15 rfl ?_
                                      refine g_n 10 (pc' := 106) (L' := [some (.ref 23), some (.int 0), some (.int 0), some (.ref 25), some (.int 0), some (.int 0), some (.int 0), none, none, none]) (st' := [.int 1]) rfl ?_
                                      refine g_ret (ins := .ireturn) (len := 1) (r := (some (.int 1))) rfl rfl rfl ?_
                                      refine g_n 3 (pc' := 59) (L' := [some (.ref 0), some (.int 6), some (.int 7)]) (st' := [.int 1]) rfl ?_
                                      refine g_ret (ins := .ireturn) (len := 1) (r := (some (.int 1))) rfl rfl rfl ?_
                                      refine ⟨⟨_, rfl⟩, ?_⟩
                                      refine g_in (M := x_M420) (L := [some (.ref 281), some (.int 6), some (.int 7), none, none]) x_pl420 rfl ?_
                                      refine g_n 2 (pc' := 2) (L' := [some (.ref 281), some (.int 6), some (.int 7), none, none]) (st' := [.int 6, .ref 281]) rfl ?_
                                      refine g_call (ins := .invokevirtual 671) (len := 3) (j := 411) (as := [.ref 281, .int 6]) (rest := []) rfl rfl rfl rfl (fun _ => rfl) rfl ?_
                                      refine g_in (M := x_M411) (L := [some (.ref 281), some (.int 6)]) x_pl411 rfl ?_
                                      refine g_n 7 (pc' := 15) (L' := [some (.ref 281), some (.int 6)]) (st' := [.int 1]) rfl ?_
                                      refine g_ret (ins := .ireturn) (len := 1) (r := (some (.int 1))) rfl rfl rfl ?_
                                      refine g_n 3 (pc' := 10) (L' := [some (.ref 281), some (.int 6), some (.int 7), none, none]) (st' := [.int 7, .ref 281]) rfl ?_
                                      refine g_call (ins := .invokevirtual 671) (len := 3) (j := 411) (as := [.ref 281, .int 7]) (rest := []) rfl rfl rfl rfl (fun _ => rfl) rfl ?_
                                      refine g_in (M := x_M411) (L := [some (.ref 281), some (.int 7)]) x_pl411 rfl ?_
                                      refine g_n 7 (pc' := 15) (L' := [some (.ref 281), some (.int 7)]) (st' := [.int 1]) rfl ?_
                                      refine g_ret (ins := .ireturn) (len := 1) (r := (some (.int 1))) rfl rfl rfl ?_
                                      refine g_n 25 (pc' := 107) (L' := [some (.ref 281), some (.int 6), some (.int 7), some (.int 1), some (.int 0)]) (st' := [.int 1]) rfl ?_
                                      exact g_ret (ins := .ireturn) (len := 1) (r := (some (.int 1))) rfl rfl rfl ⟨_, rfl, rfl, (x_sv_rf _)⟩
                      · have q242 : ¬ a = 6 := h211
                        have p243 : 7 ≤ a.toInt := x_lo_ne q242 p210 (by decide)
                        have e244 : a = 7 := x_sing p243 p6 (by decide)
                        subst e244
                        refine g_aa (i := 7) (a := 1) (n := 8) (v := 25) rfl rfl (by decide) (x_at (x_f1 hF) (k := 7) rfl) ?_
                        refine g_n 4 (pc' := 28) (L' := [some (.ref 0), some (.int 7), some (.int b)]) (st' := [.int 7, .ref 1, .int 0, .ref 25]) rfl ?_
                        refine g_aa (i := 7) (a := 1) (n := 8) (v := 25) rfl rfl (by decide) (x_at (x_f1 hF) (k := 7) rfl) ?_
                        refine g_n 4 (pc' := 37) (L' := [some (.ref 0), some (.int 7), some (.int b)]) (st' := [.int b, .ref 1, .int 0, .int 0, .ref 25]) rfl ?_
                        by_cases h245 : b = 0
                        · have e246 : b = 0 := h245
                          subst e246
                          refine g_aa (i := 0) (a := 1) (n := 8) (v := 11) rfl rfl (by decide) (x_at (x_f1 hF) (k := 0) rfl) ?_
                          refine g_n 4 (pc' := 44) (L' := [some (.ref 0), some (.int 7), some (.int 0)]) (st' := [.int 0, .ref 1, .int 0, .ref 11, .int 0, .int 0, .ref 25]) rfl ?_
                          refine g_aa (i := 0) (a := 1) (n := 8) (v := 11) rfl rfl (by decide) (x_at (x_f1 hF) (k := 0) rfl) ?_
                          refine g_n 1 (pc' := 48) (L' := [some (.ref 0), some (.int 7), some (.int 0)]) (st' := [.int 0, .int 0, .ref 11, .int 0, .int 0, .ref 25]) rfl ?_
                          refine g_call (ins := .invokevirtual 169) (len := 3) (j := 15) (as := [.ref 25, .int 0, .int 0, .ref 11, .int 0, .int 0]) (rest := []) rfl rfl rfl rfl (fun _ => rfl) rfl ?_
                          refine g_in (M := x_M15) (L := [some (.ref 25), some (.int 0), some (.int 0), some (.ref 11), some (.int 0), some (.int 0), none, none, none, none]) x_pl15 rfl ?_
                          refine g_n 10 (pc' := 106) (L' := [some (.ref 25), some (.int 0), some (.int 0), some (.ref 11), some (.int 0), some (.int 0), some (.int 0), none, none, none]) (st' := [.int 1]) rfl ?_
                          refine g_ret (ins := .ireturn) (len := 1) (r := (some (.int 1))) rfl rfl rfl ?_
                          refine g_n 3 (pc' := 59) (L' := [some (.ref 0), some (.int 7), some (.int 0)]) (st' := [.int 1]) rfl ?_
                          refine g_ret (ins := .ireturn) (len := 1) (r := (some (.int 1))) rfl rfl rfl ?_
                          refine ⟨⟨_, rfl⟩, ?_⟩
                          refine g_in (M := x_M420) (L := [some (.ref 281), some (.int 7), some (.int 0), none, none]) x_pl420 rfl ?_
                          refine g_n 2 (pc' := 2) (L' := [some (.ref 281), some (.int 7), some (.int 0), none, none]) (st' := [.int 7, .ref 281]) rfl ?_
                          refine g_call (ins := .invokevirtual 671) (len := 3) (j := 411) (as := [.ref 281, .int 7]) (rest := []) rfl rfl rfl rfl (fun _ => rfl) rfl ?_
                          refine g_in (M := x_M411) (L := [some (.ref 281), some (.int 7)]) x_pl411 rfl ?_
                          refine g_n 7 (pc' := 15) (L' := [some (.ref 281), some (.int 7)]) (st' := [.int 1]) rfl ?_
                          refine g_ret (ins := .ireturn) (len := 1) (r := (some (.int 1))) rfl rfl rfl ?_
                          refine g_n 3 (pc' := 10) (L' := [some (.ref 281), some (.int 7), some (.int 0), none, none]) (st' := [.int 0, .ref 281]) rfl ?_
                          refine g_call (ins := .invokevirtual 671) (len := 3) (j := 411) (as := [.ref 281, .int 0]) (rest := []) rfl rfl rfl rfl (fun _ => rfl) rfl ?_
                          refine g_in (M := x_M411) (L := [some (.ref 281), some (.int 0)]) x_pl411 rfl ?_
                          refine g_n 7 (pc' := 15) (L' := [some (.ref 281), some (.int 0)]) (st' := [.int 1]) rfl ?_
                          refine g_ret (ins := .ireturn) (len := 1) (r := (some (.int 1))) rfl rfl rfl ?_
                          refine g_n 25 (pc' := 107) (L' := [some (.ref 281), some (.int 7), some (.int 0), some (.int 1), some (.int 0)]) (st' := [.int 1]) rfl ?_
                          exact g_ret (ins := .ireturn) (len := 1) (r := (some (.int 1))) rfl rfl rfl ⟨_, rfl, rfl, (x_sv_rf _)⟩
                        · have q247 : ¬ b = 0 := h245
                          have p248 : 1 ≤ b.toInt := x_lo_ne q247 p9 (by decide)
                          by_cases h249 : b = 1
                          · have e250 : b = 1 := h249
                            subst e250
                            refine g_aa (i := 1) (a := 1) (n := 8) (v := 13) rfl rfl (by decide) (x_at (x_f1 hF) (k := 1) rfl) ?_
                            refine g_n 4 (pc' := 44) (L' := [some (.ref 0), some (.int 7), some (.int 1)]) (st' := [.int 1, .ref 1, .int 0, .ref 13, .int 0, .int 0, .ref 25]) rfl ?_
                            refine g_aa (i := 1) (a := 1) (n := 8) (v := 13) rfl rfl (by decide) (x_at (x_f1 hF) (k := 1) rfl) ?_
                            refine g_n 1 (pc' := 48) (L' := [some (.ref 0), some (.int 7), some (.int 1)]) (st' := [.int 0, .int 0, .ref 13, .int 0, .int 0, .ref 25]) rfl ?_
                            refine g_call (ins := .invokevirtual 169) (len := 3) (j := 15) (as := [.ref 25, .int 0, .int 0, .ref 13, .int 0, .int 0]) (rest := []) rfl rfl rfl rfl (fun _ => rfl) rfl ?_
                            refine g_in (M := x_M15) (L := [some (.ref 25), some (.int 0), some (.int 0), some (.ref 13), some (.int 0), some (.int 0), none, none, none, none]) x_pl15 rfl ?_
                            refine g_n 10 (pc' := 106) (L' := [some (.ref 25), some (.int 0), some (.int 0), some (.ref 13), some (.int 0), some (.int 0), some (.int 0), none, none, none]) (st' := [.int 1]) rfl ?_
                            refine g_ret (ins := .ireturn) (len := 1) (r := (some (.int 1))) rfl rfl rfl ?_
                            refine g_n 3 (pc' := 59) (L' := [some (.ref 0), some (.int 7), some (.int 1)]) (st' := [.int 1]) rfl ?_
                            refine g_ret (ins := .ireturn) (len := 1) (r := (some (.int 1))) rfl rfl rfl ?_
                            refine ⟨⟨_, rfl⟩, ?_⟩
                            refine g_in (M := x_M420) (L := [some (.ref 281), some (.int 7), some (.int 1), none, none]) x_pl420 rfl ?_
                            refine g_n 2 (pc' := 2) (L' := [some (.ref 281), some (.int 7), some (.int 1), none, none]) (st' := [.int 7, .ref 281]) rfl ?_
                            refine g_call (ins := .invokevirtual 671) (len := 3) (j := 411) (as := [.ref 281, .int 7]) (rest := []) rfl rfl rfl rfl (fun _ => rfl) rfl ?_
                            refine g_in (M := x_M411) (L := [some (.ref 281), some (.int 7)]) x_pl411 rfl ?_
                            refine g_n 7 (pc' := 15) (L' := [some (.ref 281), some (.int 7)]) (st' := [.int 1]) rfl ?_
                            refine g_ret (ins := .ireturn) (len := 1) (r := (some (.int 1))) rfl rfl rfl ?_
                            refine g_n 3 (pc' := 10) (L' := [some (.ref 281), some (.int 7), some (.int 1), none, none]) (st' := [.int 1, .ref 281]) rfl ?_
                            refine g_call (ins := .invokevirtual 671) (len := 3) (j := 411) (as := [.ref 281, .int 1]) (rest := []) rfl rfl rfl rfl (fun _ => rfl) rfl ?_
                            refine g_in (M := x_M411) (L := [some (.ref 281), some (.int 1)]) x_pl411 rfl ?_
                            refine g_n 7 (pc' := 15) (L' := [some (.ref 281), some (.int 1)]) (st' := [.int 1]) rfl ?_
                            refine g_ret (ins := .ireturn) (len := 1) (r := (some (.int 1))) rfl rfl rfl ?_
                            refine g_n 25 (pc' := 107) (L' := [some (.ref 281), some (.int 7), some (.int 1), some (.int 1), some (.int 0)]) (st' := [.int 1]) rfl ?_
                            exact g_ret (ins := .ireturn) (len := 1) (r := (some (.int 1))) rfl rfl rfl ⟨_, rfl, rfl, (x_sv_rf _)⟩
                          · have q251 : ¬ b = 1 := h249
                            have p252 : 2 ≤ b.toInt := x_lo_ne q251 p248 (by decide)
                            by_cases h253 : b = 2
                            · have e254 : b = 2 := h253
                              subst e254
                              refine g_aa (i := 2) (a := 1) (n := 8) (v := 15) rfl rfl (by decide) (x_at (x_f1 hF) (k := 2) rfl) ?_
                              refine g_n 4 (pc' := 44) (L' := [some (.ref 0), some (.int 7), some (.int 2)]) (st' := [.int 2, .ref 1, .int 0, .ref 15, .int 0, .int 0, .ref 25]) rfl ?_
                              refine g_aa (i := 2) (a := 1) (n := 8) (v := 15) rfl rfl (by decide) (x_at (x_f1 hF) (k := 2) rfl) ?_
                              refine g_n 1 (pc' := 48) (L' := [some (.ref 0), some (.int 7), some (.int 2)]) (st' := [.int 0, .int 0, .ref 15, .int 0, .int 0, .ref 25]) rfl ?_
                              refine g_call (ins := .invokevirtual 169) (len := 3) (j := 15) (as := [.ref 25, .int 0, .int 0, .ref 15, .int 0, .int 0]) (rest := []) rfl rfl rfl rfl (fun _ => rfl) rfl ?_
                              refine g_in (M := x_M15) (L := [some (.ref 25), some (.int 0), some (.int 0), some (.ref 15), some (.int 0), some (.int 0), none, none, none, none]) x_pl15 rfl ?_
                              refine g_n 10 (pc' := 106) (L' := [some (.ref 25), some (.int 0), some (.int 0), some (.ref 15), some (.int 0), some (.int 0), some (.int 0), none, none, none]) (st' := [.int 1]) rfl ?_
                              refine g_ret (ins := .ireturn) (len := 1) (r := (some (.int 1))) rfl rfl rfl ?_
                              refine g_n 3 (pc' := 59) (L' := [some (.ref 0), some (.int 7), some (.int 2)]) (st' := [.int 1]) rfl ?_
                              refine g_ret (ins := .ireturn) (len := 1) (r := (some (.int 1))) rfl rfl rfl ?_
                              refine ⟨⟨_, rfl⟩, ?_⟩
                              refine g_in (M := x_M420) (L := [some (.ref 281), some (.int 7), some (.int 2), none, none]) x_pl420 rfl ?_
                              refine g_n 2 (pc' := 2) (L' := [some (.ref 281), some (.int 7), some (.int 2), none, none]) (st' := [.int 7, .ref 281]) rfl ?_
                              refine g_call (ins := .invokevirtual 671) (len := 3) (j := 411) (as := [.ref 281, .int 7]) (rest := []) rfl rfl rfl rfl (fun _ => rfl) rfl ?_
                              refine g_in (M := x_M411) (L := [some (.ref 281), some (.int 7)]) x_pl411 rfl ?_
                              refine g_n 7 (pc' := 15) (L' := [some (.ref 281), some (.int 7)]) (st' := [.int 1]) rfl ?_
                              refine g_ret (ins := .ireturn) (len := 1) (r := (some (.int 1))) rfl rfl rfl ?_
                              refine g_n 3 (pc' := 10) (L' := [some (.ref 281), some (.int 7), some (.int 2), none, none]) (st' := [.int 2, .ref 281]) rfl ?_
                              refine g_call (ins := .invokevirtual 671) (len := 3) (j := 411) (as := [.ref 281, .int 2]) (rest := []) rfl rfl rfl rfl (fun _ => rfl) rfl ?_
                              refine g_in (M := x_M411) (L := [some (.ref 281), some (.int 2)]) x_pl411 rfl ?_
                              refine g_n 7 (pc' := 15) (L' := [some (.ref 281), some (.int 2)]) (st' := [.int 1]) rfl ?_
                              refine g_ret (ins := .ireturn) (len := 1) (r := (some (.int 1))) rfl rfl rfl ?_
                              refine g_n 25 (pc' := 107) (L' := [some (.ref 281), some (.int 7), some (.int 2), some (.int 1), some (.int 0)]) (st' := [.int 1]) rfl ?_
                              exact g_ret (ins := .ireturn) (len := 1) (r := (some (.int 1))) rfl rfl rfl ⟨_, rfl, rfl, (x_sv_rf _)⟩
                            · have q255 : ¬ b = 2 := h253
                              have p256 : 3 ≤ b.toInt := x_lo_ne q255 p252 (by decide)
                              by_cases h257 : b = 3
                              · have e258 : b = 3 := h257
                                subst e258
                                refine g_aa (i := 3) (a := 1) (n := 8) (v := 17) rfl rfl (by decide) (x_at (x_f1 hF) (k := 3) rfl) ?_
                                refine g_n 4 (pc' := 44) (L' := [some (.ref 0), some (.int 7), some (.int 3)]) (st' := [.int 3, .ref 1, .int 0, .ref 17, .int 0, .int 0, .ref 25]) rfl ?_
                                refine g_aa (i := 3) (a := 1) (n := 8) (v := 17) rfl rfl (by decide) (x_at (x_f1 hF) (k := 3) rfl) ?_
                                refine g_n 1 (pc' := 48) (L' := [some (.ref 0), some (.int 7), some (.int 3)]) (st' := [.int 0, .int 0, .ref 17, .int 0, .int 0, .ref 25]) rfl ?_
                                refine g_call (ins := .invokevirtual 169) (len := 3) (j := 15) (as := [.ref 25, .int 0, .int 0, .ref 17, .int 0, .int 0]) (rest := []) rfl rfl rfl rfl (fun _ => rfl) rfl ?_
                                refine g_in (M := x_M15) (L := [some (.ref 25), some (.int 0), some (.int 0), some (.ref 17), some (.int 0), some (.int 0), none, none, none, none]) x_pl15 rfl ?_
                                refine g_n 10 (pc' := 106) (L' := [some (.ref 25), some (.int 0), some (.int 0), some (.ref 17), some (.int 0), some (.int 0), some (.int 0), none, none, none]) (st' := [.int 1]) rfl ?_
                                refine g_ret (ins := .ireturn) (len := 1) (r := (some (.int 1))) rfl rfl rfl ?_
                                refine g_n 3 (pc' := 59) (L' := [some (.ref 0), some (.int 7), some (.int 3)]) (st' := [.int 1]) rfl ?_
                                refine g_ret (ins := .ireturn) (len := 1) (r := (some (.int 1))) rfl rfl rfl ?_
                                refine ⟨⟨_, rfl⟩, ?_⟩
                                refine g_in (M := x_M420) (L := [some (.ref 281), some (.int 7), some (.int 3), none, none]) x_pl420 rfl ?_
                                refine g_n 2 (pc' := 2) (L' := [some (.ref 281), some (.int 7), some (.int 3), none, none]) (st' := [.int 7, .ref 281]) rfl ?_
                                refine g_call (ins := .invokevirtual 671) (len := 3) (j := 411) (as := [.ref 281, .int 7]) (rest := []) rfl rfl rfl rfl (fun _ => rfl) rfl ?_
                                refine g_in (M := x_M411) (L := [some (.ref 281), some (.int 7)]) x_pl411 rfl ?_
                                refine g_n 7 (pc' := 15) (L' := [some (.ref 281), some (.int 7)]) (st' := [.int 1]) rfl ?_
                                refine g_ret (ins := .ireturn) (len := 1) (r := (some (.int 1))) rfl rfl rfl ?_
                                refine g_n 3 (pc' := 10) (L' := [some (.ref 281), some (.int 7), some (.int 3), none, none]) (st' := [.int 3, .ref 281]) rfl ?_
                                refine g_call (ins := .invokevirtual 671) (len := 3) (j := 411) (as := [.ref 281, .int 3]) (rest := []) rfl rfl rfl rfl (fun _ => rfl) rfl ?_
                                refine g_in (M := x_M411) (L := [some (.ref 281), some (.int 3)]) x_pl411 rfl ?_
                                refine g_n 7 (pc' := 15) (L' := [some (.ref 281), some (.int 3)]) (st' := [.int 1]) rfl ?_
                                refine g_ret (ins := .ireturn) (len := 1) (r := (some (.int 1))) rfl rfl rfl ?_
                                refine g_n 25 (pc' := 107) (L' := [some (.ref 281), some (.int 7), some (.int 3), some (.int 1), some (.int 0)]) (st' := [.int 1]) rfl ?_
                                exact g_ret (ins := .ireturn) (len := 1) (r := (some (.int 1))) rfl rfl rfl ⟨_, rfl, rfl, (x_sv_rf _)⟩
                              · have q259 : ¬ b = 3 := h257
                                have p260 : 4 ≤ b.toInt := x_lo_ne q259 p256 (by decide)
                                by_cases h261 : b = 4
                                · have e262 : b = 4 := h261
                                  subst e262
                                  refine g_aa (i := 4) (a := 1) (n := 8) (v := 19) rfl rfl (by decide) (x_at (x_f1 hF) (k := 4) rfl) ?_
                                  refine g_n 4 (pc' := 44) (L' := [some (.ref 0), some (.int 7), some (.int 4)]) (st' := [.int 4, .ref 1, .int 0, .ref 19, .int 0, .int 0, .ref 25]) rfl ?_
                                  refine g_aa (i := 4) (a := 1) (n := 8) (v := 19) rfl rfl (by decide) (x_at (x_f1 hF) (k := 4) rfl) ?_
                                  refine g_n 1 (pc' := 48) (L' := [some (.ref 0), some (.int 7), some (.int 4)]) (st' := [.int 0, .int 0, .ref 19, .int 0, .int 0, .ref 25]) rfl ?_
                                  refine g_call (ins := .invokevirtual 169) (len := 3) (j := 15) (as := [.ref 25, .int 0, .int 0, .ref 19, .int 0, .int 0]) (rest := []) rfl rfl rfl rfl (fun _ => rfl) rfl ?_
                                  refine g_in (M := x_M15) (L := [some (.ref 25), some (.int 0), some (.int 0), some (.ref 19), some (.int 0), some (.int 0), none, none, none, none]) x_pl15 rfl ?_
                                  refine g_n 10 (pc' := 106) (L' := [some (.ref 25), some (.int 0), some (.int 0), some (.ref 19), some (.int 0), some (.int 0), some (.int 0), none, none, none]) (st' := [.int 1]) rfl ?_
                                  refine g_ret (ins := .ireturn) (len := 1) (r := (some (.int 1))) rfl rfl rfl ?_
                                  refine g_n 3 (pc' := 59) (L' := [some (.ref 0), some (.int 7), some (.int 4)]) (st' := [.int 1]) rfl ?_
                                  refine g_ret (ins := .ireturn) (len := 1) (r := (some (.int 1))) rfl rfl rfl ?_
                                  refine ⟨⟨_, rfl⟩, ?_⟩
                                  refine g_in (M := x_M420) (L := [some (.ref 281), some (.int 7), some (.int 4), none, none]) x_pl420 rfl ?_
                                  refine g_n 2 (pc' := 2) (L' := [some (.ref 281), some (.int 7), some (.int 4), none, none]) (st' := [.int 7, .ref 281]) rfl ?_
                                  refine g_call (ins := .invokevirtual 671) (len := 3) (j := 411) (as := [.ref 281, .int 7]) (rest := []) rfl rfl rfl rfl (fun _ => rfl) rfl ?_
                                  refine g_in (M := x_M411) (L := [some (.ref 281), some (.int 7)]) x_pl411 rfl ?_
                                  refine g_n 7 (pc' := 15) (L' := [some (.ref 281), some (.int 7)]) (st' := [.int 1]) rfl ?_
                                  refine g_ret (ins := .ireturn) (len := 1) (r := (some (.int 1))) rfl rfl rfl ?_
                                  refine g_n 3 (pc' := 10) (L' := [some (.ref 281), some (.int 7), some (.int 4), none, none]) (st' := [.int 4, .ref 281]) rfl ?_
                                  refine g_call (ins := .invokevirtual 671) (len := 3) (j := 411) (as := [.ref 281, .int 4]) (rest := []) rfl rfl rfl rfl (fun _ => rfl) rfl ?_
                                  refine g_in (M := x_M411) (L := [some (.ref 281), some (.int 4)]) x_pl411 rfl ?_
                                  refine g_n 7 (pc' := 15) (L' := [some (.ref 281), some (.int 4)]) (st' := [.int 1]) rfl ?_
                                  refine g_ret (ins := .ireturn) (len := 1) (r := (some (.int 1))) rfl rfl rfl ?_
                                  refine g_n 25 (pc' := 107) (L' := [some (.ref 281), some (.int 7), some (.int 4), some (.int 1), some (.int 0)]) (st' := [.int 1]) rfl ?_
                                  exact g_ret (ins := .ireturn) (len := 1) (r := (some (.int 1))) rfl rfl rfl ⟨_, rfl, rfl, (x_sv_rf _)⟩
                                · have q263 : ¬ b = 4 := h261
                                  have p264 : 5 ≤ b.toInt := x_lo_ne q263 p260 (by decide)
                                  by_cases h265 : b = 5
                                  · have e266 : b = 5 := h265
                                    subst e266
                                    refine g_aa (i := 5) (a := 1) (n := 8) (v := 21) rfl rfl (by decide) (x_at (x_f1 hF) (k := 5) rfl) ?_
                                    refine g_n 4 (pc' := 44) (L' := [some (.ref 0), some (.int 7), some (.int 5)]) (st' := [.int 5, .ref 1, .int 0, .ref 21, .int 0, .int 0, .ref 25]) rfl ?_
                                    refine g_aa (i := 5) (a := 1) (n := 8) (v := 21) rfl rfl (by decide) (x_at (x_f1 hF) (k := 5) rfl) ?_
                                    refine g_n 1 (pc' := 48) (L' := [some (.ref 0), some (.int 7), some (.int 5)]) (st' := [.int 0, .int 0, .ref 21, .int 0, .int 0, .ref 25]) rfl ?_
                                    refine g_call (ins := .invokevirtual 169) (len := 3) (j := 15) (as := [.ref 25, .int 0, .int 0, .ref 21, .int 0, .int 0]) (rest := []) rfl rfl rfl rfl (fun _ => rfl) rfl ?_
                                    refine g_in (M := x_M15) (L := [some (.ref 25), some (.int 0), some (.int 0), some (.ref 21), some (.int 0), some (.int 0), none, none, none, none]) x_pl15 rfl ?_
                                    refine g_n 10 (pc' := 106) (L' := [some (.ref 25), some (.int 0), some (.int 0), some (.ref 21), some (.int 0), some (.int 0), some (.int 0), none, none, none]) (st' := [.int 1]) rfl ?_
                                    refine g_ret (ins := .ireturn) (len := 1) (r := (some (.int 1))) rfl rfl rfl ?_
                                    refine g_n 3 (pc' := 59) (L' := [some (.ref 0), some (.int 7), some (.int 5)]) (st' := [.int 1]) rfl ?_
                                    refine g_ret (ins := .ireturn) (len := 1) (r := (some (.int 1))) rfl rfl rfl ?_
                                    refine ⟨⟨_, rfl⟩, ?_⟩
                                    refine g_in (M := x_M420) (L := [some (.ref 281), some (.int 7), some (.int 5), none, none]) x_pl420 rfl ?_
                                    refine g_n 2 (pc' := 2) (L' := [some (.ref 281), some (.int 7), some (.int 5), none, none]) (st' := [.int 7, .ref 281]) rfl ?_
                                    refine g_call (ins := .invokevirtual 671) (len := 3) (j := 411) (as := [.ref 281, .int 7]) (rest := []) rfl rfl rfl rfl (fun _ => rfl) rfl ?_
                                    refine g_in (M := x_M411) (L := [some (.ref 281), some (.int 7)]) x_pl411 rfl ?_
                                    refine g_n 7 (pc' := 15) (L' := [some (.ref 281), some (.int 7)]) (st' := [.int 1]) rfl ?_
                                    refine g_ret (ins := .ireturn) (len := 1) (r := (some (.int 1))) rfl rfl rfl ?_
                                    refine g_n 3 (pc' := 10) (L' := [some (.ref 281), some (.int 7), some (.int 5), none, none]) (st' := [.int 5, .ref 281]) rfl ?_
                                    refine g_call (ins := .invokevirtual 671) (len := 3) (j := 411) (as := [.ref 281, .int 5]) (rest := []) rfl rfl rfl rfl (fun _ => rfl) rfl ?_
                                    refine g_in (M := x_M411) (L := [some (.ref 281), some (.int 5)]) x_pl411 rfl ?_
                                    refine g_n 7 (pc' := 15) (L' := [some (.ref 281), some (.int 5)]) (st' := [.int 1]) rfl ?_
                                    refine g_ret (ins := .ireturn) (len := 1) (r := (some (.int 1))) rfl rfl rfl ?_
                                    refine g_n 25 (pc' := 107) (L' := [some (.ref 281), some (.int 7), some (.int 5), some (.int 1), some (.int 0)]) (st' := [.int 1]) rfl ?_
                                    exact g_ret (ins := .ireturn) (len := 1) (r := (some (.int 1))) rfl rfl rfl ⟨_, rfl, rfl, (x_sv_rf _)⟩
                                  · have q267 : ¬ b = 5 := h265
                                    have p268 : 6 ≤ b.toInt := x_lo_ne q267 p264 (by decide)
                                    by_cases h269 : b = 6
                                    · have e270 : b = 6 := h269
                                      subst e270
                                      refine g_aa (i := 6) (a := 1) (n := 8) (v := 23) rfl rfl (by decide) (x_at (x_f1 hF) (k := 6) rfl) ?_
                                      refine g_n 4 (pc' := 44) (L' := [some (.ref 0), some (.int 7), some (.int 6)]) (st' := [.int 6, .ref 1, .int 0, .ref 23, .int 0, .int 0, .ref 25]) rfl ?_
                                      refine g_aa (i := 6) (a := 1) (n := 8) (v := 23) rfl rfl (by decide) (x_at (x_f1 hF) (k := 6) rfl) ?_
                                      refine g_n 1 (pc' := 48) (L' := [some (.ref 0), some (.int 7), some (.int 6)]) (st' := [.int 0, .int 0, .ref 23, .int 0, .int 0, .ref 25]) rfl ?_
                                      refine g_call (ins := .invokevirtual 169) (len := 3) (j := 15) (as := [.ref 25, .int 0, .int 0, .ref 23, .int 0, .int 0]) (rest := []) rfl rfl rfl rfl (fun _ => rfl) rfl ?_
                                      refine g_in (M := x_M15) (L := [some (.ref 25), some (.int 0), some (.int 0), some (.ref 23), some (.int 0), some (.int 0), none, none, none, none]) x_pl15 rfl ?_
                                      refine g_n 10 (pc' := 106) (L' := [some (.ref 25), some (.int 0), some (.int 0), some (.ref 23), some (.int 0), some (.int 0), some (.int 0), none, none, none]) (st' := [.int 1]) rfl ?_
                                      refine g_ret (ins := .ireturn) (len := 1) (r := (some (.int 1))) rfl rfl rfl ?_
                                      refine g_n 3 (pc' := 59) (L' := [some (.ref 0), some (.int 7), some (.int 6)]) (st' := [.int 1]) rfl ?_
                                      refine g_ret (ins := .ireturn) (len := 1) (r := (some (.int 1))) rfl rfl rfl ?_
                                      refine ⟨⟨_, rfl⟩, ?_⟩
                                      refine g_in (M := x_M420) (L := [some (.ref 281), some (.int 7), some (.int 6), none, none]) x_pl420 rfl ?_
                                      refine g_n 2 (pc' := 2) (L' := [some (.ref 281), some (.int 7), some (.int 6), none, none]) (st' := [.int 7, .ref 281]) rfl ?_
                                      refine g_call (ins := .invokevirtual 671) (len := 3) (j := 411) (as := [.ref 281, .int 7]) (rest := []) rfl rfl rfl rfl (fun _ => rfl) rfl ?_
                                      refine g_in (M := x_M411) (L := [some (.ref 281), some (.int 7)]) x_pl411 rfl ?_
                                      refine g_n 7 (pc' := 15) (L' := [some (.ref 281), some (.int 7)]) (st' := [.int 1]) rfl ?_
                                      refine g_ret (ins := .ireturn) (len := 1) (r := (some (.int 1))) rfl rfl rfl ?_
                                      refine g_n 3 (pc' := 10) (L' := [some (.ref 281), some (.int 7), some (.int 6), none, none]) (st' := [.int 6, .ref 281]) rfl ?_
                                      refine g_call (ins := .invokevirtual 671) (len := 3) (j := 411) (as := [.ref 281, .int 6]) (rest := []) rfl rfl rfl rfl (fun _ => rfl) rfl ?_
                                      refine g_in (M := x_M411) (L := [some (.ref 281), some (.int 6)]) x_pl411 rfl ?_
                                      refine g_n 7 (pc' := 15) (L' := [some (.ref 281), some (.int 6)]) (st' := [.int 1]) rfl ?_
                                      refine g_ret (ins := .ireturn) (len := 1) (r := (some (.int 1))) rfl rfl rfl ?_
                                      refine g_n 25 (pc' := 107) (L' := [some (.ref 281), some (.int 7), some (.int 6), some (.int 1), some (.int 0)]) (st' := [.int 1]) rfl ?_
                                      exact g_ret (ins := .ireturn) (len := 1) (r := (some (.int 1))) rfl rfl rfl ⟨_, rfl, rfl, (x_sv_rf _)⟩
                                    · have q271 : ¬ b = 6 := h269
                                      have p272 : 7 ≤ b.toInt := x_lo_ne q271 p268 (by decide)
                                      have e273 : b = 7 := x_sing p272 p12 (by decide)
                                      subst e273
                                      refine g_aa (i := 7) (a := 1) (n := 8) (v := 25) rfl rfl (by decide) (x_at (x_f1 hF) (k := 7) rfl) ?_
                                      refine g_n 4 (pc' := 44) (L' := [some (.ref 0), some (.int 7), some (.int 7)]) (st' := [.int 7, .ref 1, .int 0, .ref 25, .int 0, .int 0, .ref 25]) rfl ?_
                                      refine g_aa (i := 7) (a := 1) (n := 8) (v := 25) rfl rfl (by decide) (x_at (x_f1 hF) (k := 7) rfl) ?_
                                      refine g_n 1 (pc' := 48) (L' := [some (.ref 0), some (.int 7), some (.int 7)]) (st' := [.int 0, .int 0, .ref 25, .int 0, .int 0, .ref 25]) rfl ?_
                                      refine g_call (ins := .invokevirtual 169) (len := 3) (j := 15) (as := [.ref 25, .int 0, .int 0, .ref 25, .int 0, .int 0]) (rest := []) rfl rfl rfl rfl (fun _ => rfl) rfl ?_
                                      refine g_in (M := x_M15) (L := [some (.ref 25), some (.int 0), some (.int 0), some (.ref 25), some (.int 0), some (.int 0), none, none, none, none]) x_pl15 rfl ?_
                                      refine g_n 10 (pc' := 106) (L' := [some (.ref 25), some (.int 0), some (.int 0), some (.ref 25), some (.int 0), some (.int 0), some (.int 0), none, none, none]) (st' := [.int 1]) rfl ?_
                                      refine g_ret (ins := .ireturn) (len := 1) (r := (some (.int 1))) rfl rfl rfl ?_
                                      refine g_n 3 (pc' := 59) (L' := [some (.ref 0), some (.int 7), some (.int 7)]) (st' := [.int 1]) rfl ?_
                                      refine g_ret (ins := .ireturn) (len := 1) (r := (some (.int 1))) rfl rfl rfl ?_
                                      refine ⟨⟨_, rfl⟩, ?_⟩
                                      refine g_in (M := x_M420) (L := [some (.ref 281), some (.int 7), some (.int 7), none, none]) x_pl420 rfl ?_
                                      refine g_n 2 (pc' := 2) (L' := [some (.ref 281), some (.int 7), some (.int 7), none, none]) (st' := [.int 7, .ref 281]) rfl ?_
                                      refine g_call (ins := .invokevirtual 671) (len := 3) (j := 411) (as := [.ref 281, .int 7]) (rest := []) rfl rfl rfl rfl (fun _ => rfl) rfl ?_
                                      refine g_in (M := x_M411) (L := [some (.ref 281), some (.int 7)]) x_pl411 rfl ?_
                                      refine g_n 7 (pc' := 15) (L' := [some (.ref 281), some (.int 7)]) (st' := [.int 1]) rfl ?_
                                      refine g_ret (ins := .ireturn) (len := 1) (r := (some (.int 1))) rfl rfl rfl ?_
                                      refine g_n 3 (pc' := 10) (L' := [some (.ref 281), some (.int 7), some (.int 7), none, none]) (st' := [.int 7, .ref 281]) rfl ?_
                                      refine g_call (ins := .invokevirtual 671) (len := 3) (j := 411) (as := [.ref 281, .int 7]) (rest := []) rfl rfl rfl rfl (fun _ => rfl) rfl ?_
                                      refine g_in (M := x_M411) (L := [some (.ref 281), some (.int 7)]) x_pl411 rfl ?_
                                      refine g_n 7 (pc' := 15) (L' := [some (.ref 281), some (.int 7)]) (st' := [.int 1]) rfl ?_
                                      refine g_ret (ins := .ireturn) (len := 1) (r := (some (.int 1))) rfl rfl rfl ?_
                                      refine g_n 25 (pc' := 107) (L' := [some (.ref 281), some (.int 7), some (.int 7), some (.int 1), some (.int 0)]) (st' := [.int 1]) rfl ?_
                                      exact g_ret (ins := .ireturn) (len := 1) (r := (some (.int 1))) rfl rfl rfl ⟨_, rfl, rfl, (x_sv_rf _)⟩
