/-! First calls on the fresh objects. -/
set_option maxRecDepth 100000 in
set_option maxHeartbeats 4000000 in
theorem x_op9 {fi : Nat → Nat → Int32} {fl : Nat → Nat → Int64} {fr : Nat → Nat → Option Nat} (hF : x_F fl fr) : x_ev 30 361 [.ref 0] (x_W fi fl fr) fun r S1 => (∃ fs, x_obj S1 281 = some (12, fs)) ∧ x_ev 30 421 [.ref 281] S1 (x_finI (x_W fi fl fr) r) := by
  refine g_in (M := x_M361) (L := [some (.ref 0)]) x_pl361 rfl ?_
  refine g_n 2 (pc' := 4) (L' := [some (.ref 0)]) (st' := [.int (-2)]) rfl ?_
  refine g_ret (ins := .ireturn) (len := 1) (r := (some (.int (-2)))) rfl rfl rfl ?_
  refine ⟨⟨_, rfl⟩, ?_⟩
  refine g_in (M := x_M421) (L := [some (.ref 281)]) x_pl421 rfl ?_
  refine g_n 2 (pc' := 4) (L' := [some (.ref 281)]) (st' := [.int (-2)]) rfl ?_
  exact g_ret (ins := .ireturn) (len := 1) (r := (some (.int (-2)))) rfl rfl rfl ⟨_, rfl, rfl, (x_sv_rf _)⟩
set_option maxRecDepth 100000 in
set_option maxHeartbeats 4000000 in
theorem x_op10 {fi : Nat → Nat → Int32} {fl : Nat → Nat → Int64} {fr : Nat → Nat → Option Nat} (hF : x_F fl fr) (a b : Int32) : x_ev 30 362 [.ref 0, .int a, .int b] (x_W fi fl fr) fun r S1 => (∃ fs, x_obj S1 281 = some (12, fs)) ∧ x_ev 30 490 [.ref 281, .int a, .int b] S1 (x_finI (x_W fi fl fr) r) := by
  refine g_in (M := x_M362) (L := [some (.ref 0), some (.int a), some (.int b)]) x_pl362 rfl ?_
  refine g_n 1 (pc' := 1) (L' := [some (.ref 0), some (.int a), some (.int b)]) (st' := [.int a]) rfl ?_
  refine g_call (ins := .invokestatic 173) (len := 3) (j := 348) (as := [.int a]) (rest := []) rfl rfl rfl rfl (fun _ => rfl) rfl ?_
  refine g_in (M := x_M348) (L := [some (.int a)]) x_pl348 rfl ?_
  refine g_n 1 (pc' := 1) (L' := [some (.int a)]) (st' := [.int a]) rfl ?_
  refine g_br (c := a < (0 : Int32)) (t := 13) (f := 4) (L' := [some (.int a)]) (st' := []) rfl (fun h1 => ?_) (fun h1 => ?_)
  · have p2 : a.toInt ≤ -1 := x_up_lt h1 (by decide)
    refine g_n 1 (pc' := 14) (L' := [some (.int a)]) (st' := [.int 0]) rfl ?_
    refine g_ret (ins := .ireturn) (len := 1) (r := (some (.int 0))) rfl rfl rfl ?_
    refine g_n 2 (pc' := 17) (L' := [some (.ref 0), some (.int a), some (.int b)]) (st' := [.int (-1)]) rfl ?_
    refine g_ret (ins := .ireturn) (len := 1) (r := (some (.int (-1)))) rfl rfl rfl ?_
    refine ⟨⟨_, rfl⟩, ?_⟩
    refine g_in (M := x_M490) (L := [some (.ref 281), some (.int a), some (.int b)]) x_pl490 rfl ?_
    refine g_n 2 (pc' := 2) (L' := [some (.ref 281), some (.int a), some (.int b)]) (st' := [.int a, .ref 281]) rfl ?_
    refine g_call (ins := .invokevirtual 1015) (len := 3) (j := 488) (as := [.ref 281, .int a]) (rest := []) rfl rfl rfl rfl (fun _ => rfl) rfl ?_
    refine g_in (M := x_M488) (L := [some (.ref 281), some (.int a)]) x_pl488 rfl ?_
    refine g_n 1 (pc' := 1) (L' := [some (.ref 281), some (.int a)]) (st' := [.int a]) rfl ?_
    refine g_brT (c := a < (0 : Int32)) (t := 13) (f := 4) (L' := [some (.ref 281), some (.int a)]) (st' := []) rfl (x_Tlt (u := -1) (l := 0) p2 (by decide) (by decide)) ?_
    refine g_n 1 (pc' := 14) (L' := [some (.ref 281), some (.int a)]) (st' := [.int 0]) rfl ?_
    refine g_ret (ins := .ireturn) (len := 1) (r := (some (.int 0))) rfl rfl rfl ?_
    refine g_n 2 (pc' := 18) (L' := [some (.ref 281), some (.int a), some (.int b)]) (st' := [.int (-1)]) rfl ?_
    exact g_ret (ins := .ireturn) (len := 1) (r := (some (.int (-1)))) rfl rfl rfl ⟨_, rfl, rfl, (x_sv_rf _)⟩
  · have p3 : 0 ≤ a.toInt := x_lo_le (x_nlt h1) (by decide)
    refine g_n 2 (pc' := 6) (L' := [some (.int a)]) (st' := [.int 4, .int a]) rfl ?_
    refine g_br (c := (4 : Int32) ≤ a) (t := 13) (f := 9) (L' := [some (.int a)]) (st' := []) rfl (fun h4 => ?_) (fun h4 => ?_)
    · have p5 : 4 ≤ a.toInt := x_lo_le h4 (by decide)
      refine g_n 1 (pc' := 14) (L' := [some (.int a)]) (st' := [.int 0]) rfl ?_
      refine g_ret (ins := .ireturn) (len := 1) (r := (some (.int 0))) rfl rfl rfl ?_
      refine g_n 2 (pc' := 17) (L' := [some (.ref 0), some (.int a), some (.int b)]) (st' := [.int (-1)]) rfl ?_
      refine g_ret (ins := .ireturn) (len := 1) (r := (some (.int (-1)))) rfl rfl rfl ?_
      refine ⟨⟨_, rfl⟩, ?_⟩
      refine g_in (M := x_M490) (L := [some (.ref 281), some (.int a), some (.int b)]) x_pl490 rfl ?_
      refine g_n 2 (pc' := 2) (L' := [some (.ref 281), some (.int a), some (.int b)]) (st' := [.int a, .ref 281]) rfl ?_
      refine g_call (ins := .invokevirtual 1015) (len := 3) (j := 488) (as := [.ref 281, .int a]) (rest := []) rfl rfl rfl rfl (fun _ => rfl) rfl ?_
      refine g_in (M := x_M488) (L := [some (.ref 281), some (.int a)]) x_pl488 rfl ?_
      refine g_n 1 (pc' := 1) (L' := [some (.ref 281), some (.int a)]) (st' := [.int a]) rfl ?_
      refine g_brF (c := a < (0 : Int32)) (t := 13) (f := 4) (L' := [some (.ref 281), some (.int a)]) (st' := []) rfl (x_Flt (l := 4) (u := 0) p5 (by decide) (by decide)) ?_
      refine g_n 2 (pc' := 6) (L' := [some (.ref 281), some (.int a)]) (st' := [.int 4, .int a]) rfl ?_
      refine g_brT (c := (4 : Int32) ≤ a) (t := 13) (f := 9) (L' := [some (.ref 281), some (.int a)]) (st' := []) rfl (x_Tle (u := 4) (l := 4) (by decide) p5 (by decide)) ?_
      refine g_n 1 (pc' := 14) (L' := [some (.ref 281), some (.int a)]) (st' := [.int 0]) rfl ?_
      refine g_ret (ins := .ireturn) (len := 1) (r := (some (.int 0))) rfl rfl rfl ?_
      refine g_n 2 (pc' := 18) (L' := [some (.ref 281), some (.int a), some (.int b)]) (st' := [.int (-1)]) rfl ?_
      exact g_ret (ins := .ireturn) (len := 1) (r := (some (.int (-1)))) rfl rfl rfl ⟨_, rfl, rfl, (x_sv_rf _)⟩
    · have p6 : a.toInt ≤ 3 := x_up_lt (x_nle h4) (by decide)
      refine g_n 2 (pc' := 14) (L' := [some (.int a)]) (st' := [.int 1]) rfl ?_
      refine g_ret (ins := .ireturn) (len := 1) (r := (some (.int 1))) rfl rfl rfl ?_
      refine g_n 2 (pc' := 8) (L' := [some (.ref 0), some (.int a), some (.int b)]) (st' := [.int b]) rfl ?_
      refine g_br (c := b < (0 : Int32)) (t := 16) (f := 11) (L' := [some (.ref 0), some (.int a), some (.int b)]) (st' := []) rfl (fun h7 => ?_) (fun h7 => ?_)
      · have p8 : b.toInt ≤ -1 := x_up_lt h7 (by decide)
        refine g_n 1 (pc' := 17) (L' := [some (.ref 0), some (.int a), some (.int b)]) (st' := [.int (-1)]) rfl ?_
        refine g_ret (ins := .ireturn) (len := 1) (r := (some (.int (-1)))) rfl rfl rfl ?_
        refine ⟨⟨_, rfl⟩, ?_⟩
        refine g_in (M := x_M490) (L := [some (.ref 281), some (.int a), some (.int b)]) x_pl490 rfl ?_
        refine g_n 2 (pc' := 2) (L' := [some (.ref 281), some (.int a), some (.int b)]) (st' := [.int a, .ref 281]) rfl ?_
        refine g_call (ins := .invokevirtual 1015) (len := 3) (j := 488) (as := [.ref 281, .int a]) (rest := []) rfl rfl rfl rfl (fun _ => rfl) rfl ?_
        refine g_in (M := x_M488) (L := [some (.ref 281), some (.int a)]) x_pl488 rfl ?_
        refine g_n 1 (pc' := 1) (L' := [some (.ref 281), some (.int a)]) (st' := [.int a]) rfl ?_
        refine g_brF (c := a < (0 : Int32)) (t := 13) (f := 4) (L' := [some (.ref 281), some (.int a)]) (st' := []) rfl (x_Flt (l := 0) (u := 0) p3 (by decide) (by decide)) ?_
        refine g_n 2 (pc' := 6) (L' := [some (.ref 281), some (.int a)]) (st' := [.int 4, .int a]) rfl ?_
        refine g_brF (c := (4 : Int32) ≤ a) (t := 13) (f := 9) (L' := [some (.ref 281), some (.int a)]) (st' := []) rfl (x_Fle (l := 4) (u := 3) (by decide) p6 (by decide)) ?_
        refine g_n 2 (pc' := 14) (L' := [some (.ref 281), some (.int a)]) (st' := [.int 1]) rfl ?_
        refine g_ret (ins := .ireturn) (len := 1) (r := (some (.int 1))) rfl rfl rfl ?_
        refine g_n 2 (pc' := 9) (L' := [some (.ref 281), some (.int a), some (.int b)]) (st' := [.int b]) rfl ?_
        refine g_brT (c := b < (0 : Int32)) (t := 17) (f := 12) (L' := [some (.ref 281), some (.int a), some (.int b)]) (st' := []) rfl (x_Tlt (u := -1) (l := 0) p8 (by decide) (by decide)) ?_
        refine g_n 1 (pc' := 18) (L' := [some (.ref 281), some (.int a), some (.int b)]) (st' := [.int (-1)]) rfl ?_
        exact g_ret (ins := .ireturn) (len := 1) (r := (some (.int (-1)))) rfl rfl rfl ⟨_, rfl, rfl, (x_sv_rf _)⟩
      · have p9 : 0 ≤ b.toInt := x_lo_le (x_nlt h7) (by decide)
        refine g_n 2 (pc' := 13) (L' := [some (.ref 0), some (.int a), some (.int b)]) (st' := [.int 1, .int b]) rfl ?_
        refine g_br (c := b ≤ (1 : Int32)) (t := 18) (f := 16) (L' := [some (.ref 0), some (.int a), some (.int b)]) (st' := []) rfl (fun h10 => ?_) (fun h10 => ?_)
        · have p11 : b.toInt ≤ 1 := x_up_le h10 (by decide)
          refine g_n 3 (pc' := 23) (L' := [some (.ref 0), some (.int a), some (.int b)]) (st' := [.int a, .ref 2]) rfl ?_
          by_cases h12 : a = 0
          · have e13 : a = 0 := h12
            subst e13
            refine g_aa (i := 0) (a := 2) (n := 4) (v := 27) rfl rfl (by decide) (x_at (x_f2 hF) (k := 0) rfl) ?_
            refine g_n 3 (pc' := 32) (L' := [some (.ref 0), some (.int 0), some (.int b)]) (st' := [.int (-2)]) rfl ?_
            refine g_ret (ins := .ireturn) (len := 1) (r := (some (.int (-2)))) rfl rfl rfl ?_
            refine ⟨⟨_, rfl⟩, ?_⟩
            refine g_in (M := x_M490) (L := [some (.ref 281), some (.int 0), some (.int b)]) x_pl490 rfl ?_
            refine g_n 2 (pc' := 2) (L' := [some (.ref 281), some (.int 0), some (.int b)]) (st' := [.int 0, .ref 281]) rfl ?_
            refine g_call (ins := .invokevirtual 1015) (len := 3) (j := 488) (as := [.ref 281, .int 0]) (rest := []) rfl rfl rfl rfl (fun _ => rfl) rfl ?_
            refine g_in (M := x_M488) (L := [some (.ref 281), some (.int 0)]) x_pl488 rfl ?_
            refine g_n 7 (pc' := 14) (L' := [some (.ref 281), some (.int 0)]) (st' := [.int 1]) rfl ?_
            refine g_ret (ins := .ireturn) (len := 1) (r := (some (.int 1))) rfl rfl rfl ?_
            refine g_n 2 (pc' := 9) (L' := [some (.ref 281), some (.int 0), some (.int b)]) (st' := [.int b]) rfl ?_
            refine g_brF (c := b < (0 : Int32)) (t := 17) (f := 12) (L' := [some (.ref 281), some (.int 0), some (.int b)]) (st' := []) rfl (x_Flt (l := 0) (u := 0) p9 (by decide) (by decide)) ?_
            refine g_n 2 (pc' := 14) (L' := [some (.ref 281), some (.int 0), some (.int b)]) (st' := [.int 1, .int b]) rfl ?_
            refine g_brT (c := b ≤ (1 : Int32)) (t := 19) (f := 17) (L' := [some (.ref 281), some (.int 0), some (.int b)]) (st' := []) rfl (x_Tle (u := 1) (l := 1) p11 (by decide) (by decide)) ?_
            refine g_n 6 (pc' := 30) (L' := [some (.ref 281), some (.int 0), some (.int b)]) (st' := [.int (-2)]) rfl ?_
            exact g_ret (ins := .ireturn) (len := 1) (r := (some (.int (-2)))) rfl rfl rfl ⟨_, rfl, rfl, (x_sv_rf _)⟩
          · have q14 : ¬ a = 0 := h12
            have p15 : 1 ≤ a.toInt := x_lo_ne q14 p3 (by decide)
            by_cases h16 : a = 1
            · have e17 : a = 1 := h16
              subst e17
              refine g_aa (i := 1) (a := 2) (n := 4) (v := 50) rfl rfl (by decide) (x_at (x_f2 hF) (k := 1) rfl) ?_
              refine g_n 3 (pc' := 32) (L' := [some (.ref 0), some (.int 1), some (.int b)]) (st' := [.int (-2)]) rfl ?_
              refine g_ret (ins := .ireturn) (len := 1) (r := (some (.int (-2)))) rfl rfl rfl ?_
              refine ⟨⟨_, rfl⟩, ?_⟩
              refine g_in (M := x_M490) (L := [some (.ref 281), some (.int 1), some (.int b)]) x_pl490 rfl ?_
              refine g_n 2 (pc' := 2) (L' := [some (.ref 281), some (.int 1), some (.int b)]) (st' := [.int 1, .ref 281]) rfl ?_
              refine g_call (ins := .invokevirtual 1015) (len := 3) (j := 488) (as := [.ref 281, .int 1]) (rest := []) rfl rfl rfl rfl (fun _ => rfl) rfl ?_
              refine g_in (M := x_M488) (L := [some (.ref 281), some (.int 1)]) x_pl488 rfl ?_
              refine g_n 7 (pc' := 14) (L' := [some (.ref 281), some (.int 1)]) (st' := [.int 1]) rfl ?_
              refine g_ret (ins := .ireturn) (len := 1) (r := (some (.int 1))) rfl rfl rfl ?_
              refine g_n 2 (pc' := 9) (L' := [some (.ref 281), some (.int 1), some (.int b)]) (st' := [.int b]) rfl ?_
              refine g_brF (c := b < (0 : Int32)) (t := 17) (f := 12) (L' := [some (.ref 281), some (.int 1), some (.int b)]) (st' := []) rfl (x_Flt (l := 0) (u := 0) p9 (by decide) (by decide)) ?_
              refine g_n 2 (pc' := 14) (L' := [some (.ref 281), some (.int 1), some (.int b)]) (st' := [.int 1, .int b]) rfl ?_
              refine g_brT (c := b ≤ (1 : Int32)) (t := 19) (f := 17) (L' := [some (.ref 281), some (.int 1), some (.int b)]) (st' := []) rfl (x_Tle (u := 1) (l := 1) p11 (by decide) (by decide)) ?_
              refine g_n 6 (pc' := 30) (L' := [some (.ref 281), some (.int 1), some (.int b)]) (st' := [.int (-2)]) rfl ?_
              exact g_ret (ins := .ireturn) (len := 1) (r := (some (.int (-2)))) rfl rfl rfl ⟨_, rfl, rfl, (x_sv_rf _)⟩
            · have q18 : ¬ a = 1 := h16
              have p19 : 2 ≤ a.toInt := x_lo_ne q18 p15 (by decide)
              by_cases h20 : a = 2
              · have e21 : a = 2 := h20
                subst e21
                refine g_aa (i := 2) (a := 2) (n := 4) (v := 73) rfl rfl (by decide) (x_at (x_f2 hF) (k := 2) rfl) ?_
                refine g_n 3 (pc' := 32) (L' := [some (.ref 0), some (.int 2), some (.int b)]) (st' := [.int (-2)]) rfl ?_
                refine g_ret (ins := .ireturn) (len := 1) (r := (some (.int (-2)))) rfl rfl rfl ?_
                refine ⟨⟨_, rfl⟩, ?_⟩
                refine g_in (M := x_M490) (L := [some (.ref 281), some (.int 2), some (.int b)]) x_pl490 rfl ?_
                refine g_n 2 (pc' := 2) (L' := [some (.ref 281), some (.int 2), some (.int b)]) (st' := [.int 2, .ref 281]) rfl ?_
                refine g_call (ins := .invokevirtual 1015) (len := 3) (j := 488) (as := [.ref 281, .int 2]) (rest := []) rfl rfl rfl rfl (fun _ => rfl) rfl ?_
                refine g_in (M := x_M488) (L := [some (.ref 281), some (.int 2)]) x_pl488 rfl ?_
                refine g_n 7 (pc' := 14) (L' := [some (.ref 281), some (.int 2)]) (st' := [.int 1]) rfl ?_
                refine g_ret (ins := .ireturn) (len := 1) (r := (some (.int 1))) rfl rfl rfl ?_
                refine g_n 2 (pc' := 9) (L' := [some (.ref 281), some (.int 2), some (.int b)]) (st' := [.int b]) rfl ?_
                refine g_brF (c := b < (0 : Int32)) (t := 17) (f := 12) (L' := [some (.ref 281), some (.int 2), some (.int b)]) (st' := []) rfl (x_Flt (l := 0) (u := 0) p9 (by decide) (by decide)) ?_
                refine g_n 2 (pc' := 14) (L' := [some (.ref 281), some (.int 2), some (.int b)]) (st' := [.int 1, .int b]) rfl ?_
                refine g_brT (c := b ≤ (1 : Int32)) (t := 19) (f := 17) (L' := [some (.ref 281), some (.int 2), some (.int b)]) (st' := []) rfl (x_Tle (u := 1) (l := 1) p11 (by decide) (by decide)) ?_
                refine g_n 6 (pc' := 30) (L' := [some (.ref 281), some (.int 2), some (.int b)]) (st' := [.int (-2)]) rfl ?_
                exact g_ret (ins := .ireturn) (len := 1) (r := (some (.int (-2)))) rfl rfl rfl ⟨_, rfl, rfl, (x_sv_rf _)⟩
              · have q22 : ¬ a = 2 := h20
                have p23 : 3 ≤ a.toInt := x_lo_ne q22 p19 (by decide)
                have e24 : a = 3 := x_sing p23 p6 (by decide)
                subst e24
                refine g_aa (i := 3) (a := 2) (n := 4) (v := 96) rfl rfl (by decide) (x_at (x_f2 hF) (k := 3) rfl) ?_
                refine g_n 3 (pc' := 32) (L' := [some (.ref 0), some (.int 3), some (.int b)]) (st' := [.int (-2)]) rfl ?_
                refine g_ret (ins := .ireturn) (len := 1) (r := (some (.int (-2)))) rfl rfl rfl ?_
                refine ⟨⟨_, rfl⟩, ?_⟩
                refine g_in (M := x_M490) (L := [some (.ref 281), some (.int 3), some (.int b)]) x_pl490 rfl ?_
                refine g_n 2 (pc' := 2) (L' := [some (.ref 281), some (.int 3), some (.int b)]) (st' := [.int 3, .ref 281]) rfl ?_
                refine g_call (ins := .invokevirtual 1015) (len := 3) (j := 488) (as := [.ref 281, .int 3]) (rest := []) rfl rfl rfl rfl (fun _ => rfl) rfl ?_
                refine g_in (M := x_M488) (L := [some (.ref 281), some (.int 3)]) x_pl488 rfl ?_
                refine g_n 7 (pc' := 14) (L' := [some (.ref 281), some (.int 3)]) (st' := [.int 1]) rfl ?_
                refine g_ret (ins := .ireturn) (len := 1) (r := (some (.int 1))) rfl rfl rfl ?_
                refine g_n 2 (pc' := 9) (L' := [some (.ref 281), some (.int 3), some (.int b)]) (st' := [.int b]) rfl ?_
                refine g_brF (c := b < (0 : Int32)) (t := 17) (f := 12) (L' := [some (.ref 281), some (.int 3), some (.int b)]) (st' := []) rfl (x_Flt (l := 0) (u := 0) p9 (by decide) (by decide)) ?_
                refine g_n 2 (pc' := 14) (L' := [some (.ref 281), some (.int 3), some (.int b)]) (st' := [.int 1, .int b]) rfl ?_
                refine g_brT (c := b ≤ (1 : Int32)) (t := 19) (f := 17) (L' := [some (.ref 281), some (.int 3), some (.int b)]) (st' := []) rfl (x_Tle (u := 1) (l := 1) p11 (by decide) (by decide)) ?_
                refine g_n 6 (pc' := 30) (L' := [some (.ref 281), some (.int 3), some (.int b)]) (st' := [.int (-2)]) rfl ?_
                exact g_ret (ins := .ireturn) (len := 1) (r := (some (.int (-2)))) rfl rfl rfl ⟨_, rfl, rfl, (x_sv_rf _)⟩
        · have p25 : 2 ≤ b.toInt := x_lo_lt (x_nle h10) (by decide)
          refine g_n 1 (pc' := 17) (L' := [some (.ref 0), some (.int a), some (.int b)]) (st' := [.int (-1)]) rfl ?_
          refine g_ret (ins := .ireturn) (len := 1) (r := (some (.int (-1)))) rfl rfl rfl ?_
          refine ⟨⟨_, rfl⟩, ?_⟩
          refine g_in (M := x_M490) (L := [some (.ref 281), some (.int a), some (.int b)]) x_pl490 rfl ?_
          refine g_n 2 (pc' := 2) (L' := [some (.ref 281), some (.int a), some (.int b)]) (st' := [.int a, .ref 281]) rfl ?_
          refine g_call (ins := .invokevirtual 1015) (len := 3) (j := 488) (as := [.ref 281, .int a]) (rest := []) rfl rfl rfl rfl (fun _ => rfl) rfl ?_
          refine g_in (M := x_M488) (L := [some (.ref 281), some (.int a)]) x_pl488 rfl ?_
          refine g_n 1 (pc' := 1) (L' := [some (.ref 281), some (.int a)]) (st' := [.int a]) rfl ?_
          refine g_brF (c := a < (0 : Int32)) (t := 13) (f := 4) (L' := [some (.ref 281), some (.int a)]) (st' := []) rfl (x_Flt (l := 0) (u := 0) p3 (by decide) (by decide)) ?_
          refine g_n 2 (pc' := 6) (L' := [some (.ref 281), some (.int a)]) (st' := [.int 4, .int a]) rfl ?_
          refine g_brF (c := (4 : Int32) ≤ a) (t := 13) (f := 9) (L' := [some (.ref 281), some (.int a)]) (st' := []) rfl (x_Fle (l := 4) (u := 3) (by decide) p6 (by decide)) ?_
          refine g_n 2 (pc' := 14) (L' := [some (.ref 281), some (.int a)]) (st' := [.int 1]) rfl ?_
          refine g_ret (ins := .ireturn) (len := 1) (r := (some (.int 1))) rfl rfl rfl ?_
          refine g_n 2 (pc' := 9) (L' := [some (.ref 281), some (.int a), some (.int b)]) (st' := [.int b]) rfl ?_
          refine g_brF (c := b < (0 : Int32)) (t := 17) (f := 12) (L' := [some (.ref 281), some (.int a), some (.int b)]) (st' := []) rfl (x_Flt (l := 2) (u := 0) p25 (by decide) (by decide)) ?_
          refine g_n 2 (pc' := 14) (L' := [some (.ref 281), some (.int a), some (.int b)]) (st' := [.int 1, .int b]) rfl ?_
          refine g_brF (c := b ≤ (1 : Int32)) (t := 19) (f := 17) (L' := [some (.ref 281), some (.int a), some (.int b)]) (st' := []) rfl (x_Fle (l := 2) (u := 1) p25 (by decide) (by decide)) ?_
          refine g_n 1 (pc' := 18) (L' := [some (.ref 281), some (.int a), some (.int b)]) (st' := [.int (-1)]) rfl ?_
          exact g_ret (ins := .ireturn) (len := 1) (r := (some (.int (-1)))) rfl rfl rfl ⟨_, rfl, rfl, (x_sv_rf _)⟩
