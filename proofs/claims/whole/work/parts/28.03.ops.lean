/-! First calls on the fresh objects. -/
set_option maxRecDepth 100000 in
set_option maxHeartbeats 4000000 in
theorem x_op11 {fi : Nat → Nat → Int32} {fl : Nat → Nat → Int64} {fr : Nat → Nat → Option Nat} (hF : x_F fl fr) (a b c : Int32) : x_ev 30 363 [.ref 0, .int a, .int b, .int c] (x_W fi fl fr) fun r S1 => (∃ fs, x_obj S1 281 = some (12, fs)) ∧ x_ev 30 492 [.ref 281, .int a, .int b, .int c] S1 (x_finI (x_W fi fl fr) r) := by
  refine g_in (M := x_M363) (L := [some (.ref 0), some (.int a), some (.int b), some (.int c)]) x_pl363 rfl ?_
  refine g_n 1 (pc' := 1) (L' := [some (.ref 0), some (.int a), some (.int b), some (.int c)]) (st' := [.int a]) rfl ?_
  refine g_call (ins := .invokestatic 173) (len := 3) (j := 348) (as := [.int a]) (rest := []) rfl rfl rfl rfl (fun _ => rfl) rfl ?_
  refine g_in (M := x_M348) (L := [some (.int a)]) x_pl348 rfl ?_
  refine g_n 1 (pc' := 1) (L' := [some (.int a)]) (st' := [.int a]) rfl ?_
  refine g_br (c := a < (0 : Int32)) (t := 13) (f := 4) (L' := [some (.int a)]) (st' := []) rfl (fun h1 => ?_) (fun h1 => ?_)
  · have p2 : a.toInt ≤ -1 := x_up_lt h1 (by decide)
    refine g_n 1 (pc' := 14) (L' := [some (.int a)]) (st' := [.int 0]) rfl ?_
    refine g_ret (ins := .ireturn) (len := 1) (r := (some (.int 0))) rfl rfl rfl ?_
    refine g_n 2 (pc' := 21) (L' := [some (.ref 0), some (.int a), some (.int b), some (.int c)]) (st' := [.int (-1)]) rfl ?_
    refine g_ret (ins := .ireturn) (len := 1) (r := (some (.int (-1)))) rfl rfl rfl ?_
    refine ⟨⟨_, rfl⟩, ?_⟩
    refine g_in (M := x_M492) (L := [some (.ref 281), some (.int a), some (.int b), some (.int c), none]) x_pl492 rfl ?_
    refine g_n 2 (pc' := 2) (L' := [some (.ref 281), some (.int a), some (.int b), some (.int c), none]) (st' := [.int a, .ref 281]) rfl ?_
    refine g_call (ins := .invokevirtual 1015) (len := 3) (j := 488) (as := [.ref 281, .int a]) (rest := []) rfl rfl rfl rfl (fun _ => rfl) rfl ?_
    refine g_in (M := x_M488) (L := [some (.ref 281), some (.int a)]) x_pl488 rfl ?_
    refine g_n 1 (pc' := 1) (L' := [some (.ref 281), some (.int a)]) (st' := [.int a]) rfl ?_
    refine g_brT (c := a < (0 : Int32)) (t := 13) (f := 4) (L' := [some (.ref 281), some (.int a)]) (st' := []) rfl (x_Tlt (u := -1) (l := 0) p2 (by decide) (by decide)) ?_
    refine g_n 1 (pc' := 14) (L' := [some (.ref 281), some (.int a)]) (st' := [.int 0]) rfl ?_
    refine g_ret (ins := .ireturn) (len := 1) (r := (some (.int 0))) rfl rfl rfl ?_
    refine g_n 2 (pc' := 22) (L' := [some (.ref 281), some (.int a), some (.int b), some (.int c), none]) (st' := [.int (-1)]) rfl ?_
    exact g_ret (ins := .ireturn) (len := 1) (r := (some (.int (-1)))) rfl rfl rfl ⟨_, rfl, rfl, (x_sv_rf _)⟩
  · have p3 : 0 ≤ a.toInt := x_lo_le (x_nlt h1) (by decide)
    refine g_n 2 (pc' := 6) (L' := [some (.int a)]) (st' := [.int 4, .int a]) rfl ?_
    refine g_br (c := (4 : Int32) ≤ a) (t := 13) (f := 9) (L' := [some (.int a)]) (st' := []) rfl (fun h4 => ?_) (fun h4 => ?_)
    · have p5 : 4 ≤ a.toInt := x_lo_le h4 (by decide)
      refine g_n 1 (pc' := 14) (L' := [some (.int a)]) (st' := [.int 0]) rfl ?_
      refine g_ret (ins := .ireturn) (len := 1) (r := (some (.int 0))) rfl rfl rfl ?_
      refine g_n 2 (pc' := 21) (L' := [some (.ref 0), some (.int a), some (.int b), some (.int c)]) (st' := [.int (-1)]) rfl ?_
      refine g_ret (ins := .ireturn) (len := 1) (r := (some (.int (-1)))) rfl rfl rfl ?_
      refine ⟨⟨_, rfl⟩, ?_⟩
      refine g_in (M := x_M492) (L := [some (.ref 281), some (.int a), some (.int b), some (.int c), none]) x_pl492 rfl ?_
      refine g_n 2 (pc' := 2) (L' := [some (.ref 281), some (.int a), some (.int b), some (.int c), none]) (st' := [.int a, .ref 281]) rfl ?_
      refine g_call (ins := .invokevirtual 1015) (len := 3) (j := 488) (as := [.ref 281, .int a]) (rest := []) rfl rfl rfl rfl (fun _ => rfl) rfl ?_
      refine g_in (M := x_M488) (L := [some (.ref 281), some (.int a)]) x_pl488 rfl ?_
      refine g_n 1 (pc' := 1) (L' := [some (.ref 281), some (.int a)]) (st' := [.int a]) rfl ?_
      refine g_brF (c := a < (0 : Int32)) (t := 13) (f := 4) (L' := [some (.ref 281), some (.int a)]) (st' := []) rfl (x_Flt (l := 4) (u := 0) p5 (by decide) (by decide)) ?_
      refine g_n 2 (pc' := 6) (L' := [some (.ref 281), some (.int a)]) (st' := [.int 4, .int a]) rfl ?_
      refine g_brT (c := (4 : Int32) ≤ a) (t := 13) (f := 9) (L' := [some (.ref 281), some (.int a)]) (st' := []) rfl (x_Tle (u := 4) (l := 4) (by decide) p5 (by decide)) ?_
      refine g_n 1 (pc' := 14) (L' := [some (.ref 281), some (.int a)]) (st' := [.int 0]) rfl ?_
      refine g_ret (ins := .ireturn) (len := 1) (r := (some (.int 0))) rfl rfl rfl ?_
      refine g_n 2 (pc' := 22) (L' := [some (.ref 281), some (.int a), some (.int b), some (.int c), none]) (st' := [.int (-1)]) rfl ?_
      exact g_ret (ins := .ireturn) (len := 1) (r := (some (.int (-1)))) rfl rfl rfl ⟨_, rfl, rfl, (x_sv_rf _)⟩
    · have p6 : a.toInt ≤ 3 := x_up_lt (x_nle h4) (by decide)
      refine g_n 2 (pc' := 14) (L' := [some (.int a)]) (st' := [.int 1]) rfl ?_
      refine g_ret (ins := .ireturn) (len := 1) (r := (some (.int 1))) rfl rfl rfl ?_
      refine g_n 2 (pc' := 8) (L' := [some (.ref 0), some (.int a), some (.int b), some (.int c)]) (st' := [.int b]) rfl ?_
      refine g_br (c := b < (0 : Int32)) (t := 20) (f := 11) (L' := [some (.ref 0), some (.int a), some (.int b), some (.int c)]) (st' := []) rfl (fun h7 => ?_) (fun h7 => ?_)
      · have p8 : b.toInt ≤ -1 := x_up_lt h7 (by decide)
        refine g_n 1 (pc' := 21) (L' := [some (.ref 0), some (.int a), some (.int b), some (.int c)]) (st' := [.int (-1)]) rfl ?_
        refine g_ret (ins := .ireturn) (len := 1) (r := (some (.int (-1)))) rfl rfl rfl ?_
        refine ⟨⟨_, rfl⟩, ?_⟩
        refine g_in (M := x_M492) (L := [some (.ref 281), some (.int a), some (.int b), some (.int c), none]) x_pl492 rfl ?_
        refine g_n 2 (pc' := 2) (L' := [some (.ref 281), some (.int a), some (.int b), some (.int c), none]) (st' := [.int a, .ref 281]) rfl ?_
        refine g_call (ins := .invokevirtual 1015) (len := 3) (j := 488) (as := [.ref 281, .int a]) (rest := []) rfl rfl rfl rfl (fun _ => rfl) rfl ?_
        refine g_in (M := x_M488) (L := [some (.ref 281), some (.int a)]) x_pl488 rfl ?_
        refine g_n 1 (pc' := 1) (L' := [some (.ref 281), some (.int a)]) (st' := [.int a]) rfl ?_
        refine g_brF (c := a < (0 : Int32)) (t := 13) (f := 4) (L' := [some (.ref 281), some (.int a)]) (st' := []) rfl (x_Flt (l := 0) (u := 0) p3 (by decide) (by decide)) ?_
        refine g_n 2 (pc' := 6) (L' := [some (.ref 281), some (.int a)]) (st' := [.int 4, .int a]) rfl ?_
        refine g_brF (c := (4 : Int32) ≤ a) (t := 13) (f := 9) (L' := [some (.ref 281), some (.int a)]) (st' := []) rfl (x_Fle (l := 4) (u := 3) (by decide) p6 (by decide)) ?_
        refine g_n 2 (pc' := 14) (L' := [some (.ref 281), some (.int a)]) (st' := [.int 1]) rfl ?_
        refine g_ret (ins := .ireturn) (len := 1) (r := (some (.int 1))) rfl rfl rfl ?_
        refine g_n 2 (pc' := 9) (L' := [some (.ref 281), some (.int a), some (.int b), some (.int c), none]) (st' := [.int c]) rfl ?_
        refine g_br (c := c < (0 : Int32)) (t := 21) (f := 12) (L' := [some (.ref 281), some (.int a), some (.int b), some (.int c), none]) (st' := []) rfl (fun h9 => ?_) (fun h9 => ?_)
        · have p10 : c.toInt ≤ -1 := x_up_lt h9 (by decide)
          refine g_n 1 (pc' := 22) (L' := [some (.ref 281), some (.int a), some (.int b), some (.int c), none]) (st' := [.int (-1)]) rfl ?_
          exact g_ret (ins := .ireturn) (len := 1) (r := (some (.int (-1)))) rfl rfl rfl ⟨_, rfl, rfl, (x_sv_rf _)⟩
        · have p11 : 0 ≤ c.toInt := x_lo_le (x_nlt h9) (by decide)
          refine g_n 2 (pc' := 14) (L' := [some (.ref 281), some (.int a), some (.int b), some (.int c), none]) (st' := [.int 4, .int c]) rfl ?_
          refine g_br (c := (4 : Int32) < c) (t := 21) (f := 17) (L' := [some (.ref 281), some (.int a), some (.int b), some (.int c), none]) (st' := []) rfl (fun h12 => ?_) (fun h12 => ?_)
          · have p13 : 5 ≤ c.toInt := x_lo_lt h12 (by decide)
            refine g_n 1 (pc' := 22) (L' := [some (.ref 281), some (.int a), some (.int b), some (.int c), none]) (st' := [.int (-1)]) rfl ?_
            exact g_ret (ins := .ireturn) (len := 1) (r := (some (.int (-1)))) rfl rfl rfl ⟨_, rfl, rfl, (x_sv_rf _)⟩
          · have p14 : c.toInt ≤ 4 := x_up_le (x_nlt h12) (by decide)
            refine g_n 1 (pc' := 18) (L' := [some (.ref 281), some (.int a), some (.int b), some (.int c), none]) (st' := [.int b]) rfl ?_
            refine g_brF (c := (0 : Int32) ≤ b) (t := 23) (f := 21) (L' := [some (.ref 281), some (.int a), some (.int b), some (.int c), none]) (st' := []) rfl (x_Fle (l := 0) (u := -1) (by decide) p8 (by decide)) ?_
            refine g_n 1 (pc' := 22) (L' := [some (.ref 281), some (.int a), some (.int b), some (.int c), none]) (st' := [.int (-1)]) rfl ?_
            exact g_ret (ins := .ireturn) (len := 1) (r := (some (.int (-1)))) rfl rfl rfl ⟨_, rfl, rfl, (x_sv_rf _)⟩
      · have p15 : 0 ≤ b.toInt := x_lo_le (x_nlt h7) (by decide)
        refine g_n 1 (pc' := 12) (L' := [some (.ref 0), some (.int a), some (.int b), some (.int c)]) (st' := [.int c]) rfl ?_
        refine g_br (c := c < (0 : Int32)) (t := 20) (f := 15) (L' := [some (.ref 0), some (.int a), some (.int b), some (.int c)]) (st' := []) rfl (fun h16 => ?_) (fun h16 => ?_)
        · have p17 : c.toInt ≤ -1 := x_up_lt h16 (by decide)
          refine g_n 1 (pc' := 21) (L' := [some (.ref 0), some (.int a), some (.int b), some (.int c)]) (st' := [.int (-1)]) rfl ?_
          refine g_ret (ins := .ireturn) (len := 1) (r := (some (.int (-1)))) rfl rfl rfl ?_
          refine ⟨⟨_, rfl⟩, ?_⟩
          refine g_in (M := x_M492) (L := [some (.ref 281), some (.int a), some (.int b), some (.int c), none]) x_pl492 rfl ?_
          refine g_n 2 (pc' := 2) (L' := [some (.ref 281), some (.int a), some (.int b), some (.int c), none]) (st' := [.int a, .ref 281]) rfl ?_
          refine g_call (ins := .invokevirtual 1015) (len := 3) (j := 488) (as := [.ref 281, .int a]) (rest := []) rfl rfl rfl rfl (fun _ => rfl) rfl ?_
          refine g_in (M := x_M488) (L := [some (.ref 281), some (.int a)]) x_pl488 rfl ?_
          refine g_n 1 (pc' := 1) (L' := [some (.ref 281), some (.int a)]) (st' := [.int a]) rfl ?_
          refine g_brF (c := a < (0 : Int32)) (t := 13) (f := 4) (L' := [some (.ref 281), some (.int a)]) (st' := []) rfl (x_Flt (l := 0) (u := 0) p3 (by decide) (by decide)) ?_
          refine g_n 2 (pc' := 6) (L' := [some (.ref 281), some (.int a)]) (st' := [.int 4, .int a]) rfl ?_
          refine g_brF (c := (4 : Int32) ≤ a) (t := 13) (f := 9) (L' := [some (.ref 281), some (.int a)]) (st' := []) rfl (x_Fle (l := 4) (u := 3) (by decide) p6 (by decide)) ?_
          refine g_n 2 (pc' := 14) (L' := [some (.ref 281), some (.int a)]) (st' := [.int 1]) rfl ?_
          refine g_ret (ins := .ireturn) (len := 1) (r := (some (.int 1))) rfl rfl rfl ?_
          refine g_n 2 (pc' := 9) (L' := [some (.ref 281), some (.int a), some (.int b), some (.int c), none]) (st' := [.int c]) rfl ?_
          refine g_brT (c := c < (0 : Int32)) (t := 21) (f := 12) (L' := [some (.ref 281), some (.int a), some (.int b), some (.int c), none]) (st' := []) rfl (x_Tlt (u := -1) (l := 0) p17 (by decide) (by decide)) ?_
          refine g_n 1 (pc' := 22) (L' := [some (.ref 281), some (.int a), some (.int b), some (.int c), none]) (st' := [.int (-1)]) rfl ?_
          exact g_ret (ins := .ireturn) (len := 1) (r := (some (.int (-1)))) rfl rfl rfl ⟨_, rfl, rfl, (x_sv_rf _)⟩
        · have p18 : 0 ≤ c.toInt := x_lo_le (x_nlt h16) (by decide)
          refine g_n 2 (pc' := 17) (L' := [some (.ref 0), some (.int a), some (.int b), some (.int c)]) (st' := [.int 4, .int c]) rfl ?_
          refine g_br (c := c ≤ (4 : Int32)) (t := 22) (f := 20) (L' := [some (.ref 0), some (.int a), some (.int b), some (.int c)]) (st' := []) rfl (fun h19 => ?_) (fun h19 => ?_)
          · have p20 : c.toInt ≤ 4 := x_up_le h19 (by decide)
            refine g_n 3 (pc' := 27) (L' := [some (.ref 0), some (.int a), some (.int b), some (.int c)]) (st' := [.int a, .ref 2]) rfl ?_
            by_cases h21 : a = 0
            · have e22 : a = 0 := h21
              subst e22
              refine g_aa (i := 0) (a := 2) (n := 4) (v := 27) rfl rfl (by decide) (x_at (x_f2 hF) (k := 0) rfl) ?_
              refine g_n 3 (pc' := 36) (L' := [some (.ref 0), some (.int 0), some (.int b), some (.int c)]) (st' := [.int (-2)]) rfl ?_
              refine g_ret (ins := .ireturn) (len := 1) (r := (some (.int (-2)))) rfl rfl rfl ?_
              refine ⟨⟨_, rfl⟩, ?_⟩
              refine g_in (M := x_M492) (L := [some (.ref 281), some (.int 0), some (.int b), some (.int c), none]) x_pl492 rfl ?_
              refine g_n 2 (pc' := 2) (L' := [some (.ref 281), some (.int 0), some (.int b), some (.int c), none]) (st' := [.int 0, .ref 281]) rfl ?_
              refine g_call (ins := .invokevirtual 1015) (len := 3) (j := 488) (as := [.ref 281, .int 0]) (rest := []) rfl rfl rfl rfl (fun _ => rfl) rfl ?_
              refine g_in (M := x_M488) (L := [some (.ref 281), some (.int 0)]) x_pl488 rfl ?_
              refine g_n 7 (pc' := 14) (L' := [some (.ref 281), some (.int 0)]) (st' := [.int 1]) rfl ?_
              refine g_ret (ins := .ireturn) (len := 1) (r := (some (.int 1))) rfl rfl rfl ?_
              refine g_n 2 (pc' := 9) (L' := [some (.ref 281), some (.int 0), some (.int b), some (.int c), none]) (st' := [.int c]) rfl ?_
              refine g_brF (c := c < (0 : Int32)) (t := 21) (f := 12) (L' := [some (.ref 281), some (.int 0), some (.int b), some (.int c), none]) (st' := []) rfl (x_Flt (l := 0) (u := 0) p18 (by decide) (by decide)) ?_
              refine g_n 2 (pc' := 14) (L' := [some (.ref 281), some (.int 0), some (.int b), some (.int c), none]) (st' := [.int 4, .int c]) rfl ?_
              refine g_brF (c := (4 : Int32) < c) (t := 21) (f := 17) (L' := [some (.ref 281), some (.int 0), some (.int b), some (.int c), none]) (st' := []) rfl (x_Flt (l := 4) (u := 4) (by decide) p20 (by decide)) ?_
              refine g_n 1 (pc' := 18) (L' := [some (.ref 281), some (.int 0), some (.int b), some (.int c), none]) (st' := [.int b]) rfl ?_
              refine g_brT (c := (0 : Int32) ≤ b) (t := 23) (f := 21) (L' := [some (.ref 281), some (.int 0), some (.int b), some (.int c), none]) (st' := []) rfl (x_Tle (u := 0) (l := 0) (by decide) p15 (by decide)) ?_
              refine g_n 6 (pc' := 34) (L' := [some (.ref 281), some (.int 0), some (.int b), some (.int c), none]) (st' := [.int (-2)]) rfl ?_
              exact g_ret (ins := .ireturn) (len := 1) (r := (some (.int (-2)))) rfl rfl rfl ⟨_, rfl, rfl, (x_sv_rf _)⟩
            · have q23 : ¬ a = 0 := h21
              have p24 : 1 ≤ a.toInt := x_lo_ne q23 p3 (by decide)
              by_cases h25 : a = 1
              · have e26 : a = 1 := h25
                subst e26
                refine g_aa (i := 1) (a := 2) (n := 4) (v := 50) rfl rfl (by decide) (x_at (x_f2 hF) (k := 1) rfl) ?_
                refine g_n 3 (pc' := 36) (L' := [some (.ref 0), some (.int 1), some (.int b), some (.int c)]) (st' := [.int (-2)]) rfl ?_
                refine g_ret (ins := .ireturn) (len := 1) (r := (some (.int (-2)))) rfl rfl rfl ?_
                refine ⟨⟨_, rfl⟩, ?_⟩
                refine g_in (M := x_M492) (L := [some (.ref 281), some (.int 1), some (.int b), some (.int c), none]) x_pl492 rfl ?_
                refine g_n 2 (pc' := 2) (L' := [some (.ref 281), some (.int 1), some (.int b), some (.int c), none]) (st' := [.int 1, .ref 281]) rfl ?_
                refine g_call (ins := .invokevirtual 1015) (len := 3) (j := 488) (as := [.ref 281, .int 1]) (rest := []) rfl rfl rfl rfl (fun _ => rfl) rfl ?_
                refine g_in (M := x_M488) (L := [some (.ref 281), some (.int 1)]) x_pl488 rfl ?_
                refine g_n 7 (pc' := 14) (L' := [some (.ref 281), some (.int 1)]) (st' := [.int 1]) rfl ?_
                refine g_ret (ins := .ireturn) (len := 1) (r := (some (.int 1))) rfl rfl rfl ?_
                refine g_n 2 (pc' := 9) (L' := [some (.ref 281), some (.int 1), some (.int b), some (.int c), none]) (st' := [.int c]) rfl ?_
                refine g_brF (c := c < (0 : Int32)) (t := 21) (f := 12) (L' := [some (.ref 281), some (.int 1), some (.int b), some (.int c), none]) (st' := []) rfl (x_Flt (l := 0) (u := 0) p18 (by decide) (by decide)) ?_
                refine g_n 2 (pc' := 14) (L' := [some (.ref 281), some (.int 1), some (.int b), some (.int c), none]) (st' := [.int 4, .int c]) rfl ?_
                refine g_brF (c := (4 : Int32) < c) (t := 21) (f := 17) (L' := [some (.ref 281), some (.int 1), some (.int b), some (.int c), none]) (st' := []) rfl (x_Flt (l := 4) (u := 4) (by decide) p20 (by decide)) ?_
                refine g_n 1 (pc' := 18) (L' := [some (.ref 281), some (.int 1), some (.int b), some (.int c), none]) (st' := [.int b]) rfl ?_
                refine g_brT (c := (0 : Int32) ≤ b) (t := 23) (f := 21) (L' := [some (.ref 281), some (.int 1), some (.int b), some (.int c), none]) (st' := []) rfl (x_Tle (u := 0) (l := 0) (by decide) p15 (by decide)) ?_
                refine g_n 6 (pc' := 34) (L' := [some (.ref 281), some (.int 1), some (.int b), some (.int c), none]) (st' := [.int (-2)]) rfl ?_
                exact g_ret (ins := .ireturn) (len := 1) (r := (some (.int (-2)))) rfl rfl rfl ⟨_, rfl, rfl, (x_sv_rf _)⟩
              · have q27 : ¬ a = 1 := h25
                have p28 : 2 ≤ a.toInt := x_lo_ne q27 p24 (by decide)
                by_cases h29 : a = 2
                · have e30 : a = 2 := h29
                  subst e30
                  refine g_aa (i := 2) (a := 2) (n := 4) (v := 73) rfl rfl (by decide) (x_at (x_f2 hF) (k := 2) rfl) ?_
                  refine g_n 3 (pc' := 36) (L' := [some (.ref 0), some (.int 2), some (.int b), some (.int c)]) (st' := [.int (-2)]) rfl ?_
                  refine g_ret (ins := .ireturn) (len := 1) (r := (some (.int (-2)))) rfl rfl rfl ?_
                  refine ⟨⟨_, rfl⟩, ?_⟩
                  refine g_in (M := x_M492) (L := [some (.ref 281), some (.int 2), some (.int b), some (.int c), none]) x_pl492 rfl ?_
                  refine g_n 2 (pc' := 2) (L' := [some (.ref 281), some (.int 2), some (.int b), some (.int c), none]) (st' := [.int 2, .ref 281]) rfl ?_
                  refine g_call (ins := .invokevirtual 1015) (len := 3) (j := 488) (as := [.ref 281, .int 2]) (rest := []) rfl rfl rfl rfl (fun _ => rfl) rfl ?_
                  refine g_in (M := x_M488) (L := [some (.ref 281), some (.int 2)]) x_pl488 rfl ?_
                  refine g_n 7 (pc' := 14) (L' := [some (.ref 281), some (.int 2)]) (st' := [.int 1]) rfl ?_
                  refine g_ret (ins := .ireturn) (len := 1) (r := (some (.int 1))) rfl rfl rfl ?_
                  refine g_n 2 (pc' := 9) (L' := [some (.ref 281), some (.int 2), some (.int b), some (.int c), none]) (st' := [.int c]) rfl ?_
                  refine g_brF (c := c < (0 : Int32)) (t := 21) (f := 12) (L' := [some (.ref 281), some (.int 2), some (.int b), some (.int c), none]) (st' := []) rfl (x_Flt (l := 0) (u := 0) p18 (by decide) (by decide)) ?_
                  refine g_n 2 (pc' := 14) (L' := [some (.ref 281), some (.int 2), some (.int b), some (.int c), none]) (st' := [.int 4, .int c]) rfl ?_
                  refine g_brF (c := (4 : Int32) < c) (t := 21) (f := 17) (L' := [some (.ref 281), some (.int 2), some (.int b), some (.int c), none]) (st' := []) rfl (x_Flt (l := 4) (u := 4) (by decide) p20 (by decide)) ?_
                  refine g_n 1 (pc' := 18) (L' := [some (.ref 281), some (.int 2), some (.int b), some (.int c), none]) (st' := [.int b]) rfl ?_
                  refine g_brT (c := (0 : Int32) ≤ b) (t := 23) (f := 21) (L' := [some (.ref 281), some (.int 2), some (.int b), some (.int c), none]) (st' := []) rfl (x_Tle (u := 0) (l := 0) (by decide) p15 (by decide)) ?_
                  refine g_n 6 (pc' := 34) (L' := [some (.ref 281), some (.int 2), some (.int b), some (.int c), none]) (st' := [.int (-2)]) rfl ?_
                  exact g_ret (ins := .ireturn) (len := 1) (r := (some (.int (-2)))) rfl rfl rfl ⟨_, rfl, rfl, (x_sv_rf _)⟩
                · have q31 : ¬ a = 2 := h29
                  have p32 : 3 ≤ a.toInt := x_lo_ne q31 p28 (by decide)
                  have e33 : a = 3 := x_sing p32 p6 (by decide)
                  subst e33
                  refine g_aa (i := 3) (a := 2) (n := 4) (v := 96) rfl rfl (by decide) (x_at (x_f2 hF) (k := 3) rfl) ?_
                  refine g_n 3 (pc' := 36) (L' := [some (.ref 0), some (.int 3), some (.int b), some (.int c)]) (st' := [.int (-2)]) rfl ?_
                  refine g_ret (ins := .ireturn) (len := 1) (r := (some (.int (-2)))) rfl rfl rfl ?_
                  refine ⟨⟨_, rfl⟩, ?_⟩
                  refine g_in (M := x_M492) (L := [some (.ref 281), some (.int 3), some (.int b), some (.int c), none]) x_pl492 rfl ?_
                  refine g_n 2 (pc' := 2) (L' := [some (.ref 281), some (.int 3), some (.int b), some (.int c), none]) (st' := [.int 3, .ref 281]) rfl ?_
                  refine g_call (ins := .invokevirtual 1015) (len := 3) (j := 488) (as := [.ref 281, .int 3]) (rest := []) rfl rfl rfl rfl (fun _ => rfl) rfl ?_
                  refine g_in (M := x_M488) (L := [some (.ref 281), some (.int 3)]) x_pl488 rfl ?_
                  refine g_n 7 (pc' := 14) (L' := [some (.ref 281), some (.int 3)]) (st' := [.int 1]) rfl ?_
                  refine g_ret (ins := .ireturn) (len := 1) (r := (some (.int 1))) rfl rfl rfl ?_
                  refine g_n 2 (pc' := 9) (L' := [some (.ref 281), some (.int 3), some (.int b), some (.int c), none]) (st' := [.int c]) rfl ?_
                  refine g_brF (c := c < (0 : Int32)) (t := 21) (f := 12) (L' := [some (.ref 281), some (.int 3), some (.int b), some (.int c), none]) (st' := []) rfl (x_Flt (l := 0) (u := 0) p18 (by decide) (by decide)) ?_
                  refine g_n 2 (pc' := 14) (L' := [some (.ref 281), some (.int 3), some (.int b), some (.int c), none]) (st' := [.int 4, .int c]) rfl ?_
                  refine g_brF (c := (4 : Int32) < c) (t := 21) (f := 17) (L' := [some (.ref 281), some (.int 3), some (.int b), some (.int c), none]) (st' := []) rfl (x_Flt (l := 4) (u := 4) (by decide) p20 (by decide)) ?_
                  refine g_n 1 (pc' := 18) (L' := [some (.ref 281), some (.int 3), some (.int b), some (.int c), none]) (st' := [.int b]) rfl ?_
                  refine g_brT (c := (0 : Int32) ≤ b) (t := 23) (f := 21) (L' := [some (.ref 281), some (.int 3), some (.int b), some (.int c), none]) (st' := []) rfl (x_Tle (u := 0) (l := 0) (by decide) p15 (by decide)) ?_
                  refine g_n 6 (pc' := 34) (L' := [some (.ref 281), some (.int 3), some (.int b), some (.int c), none]) (st' := [.int (-2)]) rfl ?_
                  exact g_ret (ins := .ireturn) (len := 1) (r := (some (.int (-2)))) rfl rfl rfl ⟨_, rfl, rfl, (x_sv_rf _)⟩
          · have p34 : 5 ≤ c.toInt := x_lo_lt (x_nle h19) (by decide)
            refine g_n 1 (pc' := 21) (L' := [some (.ref 0), some (.int a), some (.int b), some (.int c)]) (st' := [.int (-1)]) rfl ?_
            refine g_ret (ins := .ireturn) (len := 1) (r := (some (.int (-1)))) rfl rfl rfl ?_
            refine ⟨⟨_, rfl⟩, ?_⟩
            refine g_in (M := x_M492) (L := [some (.ref 281), some (.int a), some (.int b), some (.int c), none]) x_pl492 rfl ?_
            refine g_n 2 (pc' := 2) (L' := [some (.ref 281), some (.int a), some (.int b), some (.int c), none]) (st' := [.int a, .ref 281]) rfl ?_
            refine g_call (ins := .invokevirtual 1015) (len := 3) (j := 488) (as := [.ref 281, .int a]) (rest := []) rfl rfl rfl rfl (fun _ => rfl) rfl ?_
            refine g_in (M := x_M488) (L := [some (.ref 281), some (.int a)]) x_pl488 rfl ?_
            refine g_n 1 (pc' := 1) (L' := [some (.ref 281), some (.int a)]) (st' := [.int a]) rfl ?_
            refine g_brF (c := a < (0 : Int32)) (t := 13) (f := 4) (L' := [some (.ref 281), some (.int a)]) (st' := []) rfl (x_Flt (l := 0) (u := 0) p3 (by decide) (by decide)) ?_
            refine g_n 2 (pc' := 6) (L' := [some (.ref 281), some (.int a)]) (st' := [.int 4, .int a]) rfl ?_
            refine g_brF (c := (4 : Int32) ≤ a) (t := 13) (f := 9) (L' := [some (.ref 281), some (.int a)]) (st' := []) rfl (x_Fle (l := 4) (u := 3) (by decide) p6 (by decide)) ?_
            refine g_n 2 (pc' := 14) (L' := [some (.ref 281), some (.int a)]) (st' := [.int 1]) rfl ?_
            refine g_ret (ins := .ireturn) (len := 1) (r := (some (.int 1))) rfl rfl rfl ?_
            refine g_n 2 (pc' := 9) (L' := [some (.ref 281), some (.int a), some (.int b), some (.int c), none]) (st' := [.int c]) rfl ?_
            refine g_brF (c := c < (0 : Int32)) (t := 21) (f := 12) (L' := [some (.ref 281), some (.int a), some (.int b), some (.int c), none]) (st' := []) rfl (x_Flt (l := 5) (u := 0) p34 (by decide) (by decide)) ?_
            refine g_n 2 (pc' := 14) (L' := [some (.ref 281), some (.int a), some (.int b), some (.int c), none]) (st' := [.int 4, .int c]) rfl ?_
            refine g_brT (c := (4 : Int32) < c) (t := 21) (f := 17) (L' := [some (.ref 281), some (.int a), some (.int b), some (.int c), none]) (st' := []) rfl (x_Tlt (u := 4) (l := 5) (by decide) p34 (by decide)) ?_
            refine g_n 1 (pc' := 22) (L' := [some (.ref 281), some (.int a), some (.int b), some (.int c), none]) (st' := [.int (-1)]) rfl ?_
            exact g_ret (ins := .ireturn) (len := 1) (r := (some (.int (-1)))) rfl rfl rfl ⟨_, rfl, rfl, (x_sv_rf _)⟩
set_option maxRecDepth 100000 in
set_option maxHeartbeats 4000000 in
theorem x_op12 {fi : Nat → Nat → Int32} {fl : Nat → Nat → Int64} {fr : Nat → Nat → Option Nat} (hF : x_F fl fr) (a b c d : Int32) : x_ev 30 364 [.ref 0, .int a, .int b, .int c, .int d] (x_W fi fl fr) fun r S1 => (∃ fs, x_obj S1 281 = some (12, fs)) ∧ x_ev 30 493 [.ref 281, .int a, .int b, .int c, .int d] S1 (x_finI (x_W fi fl fr) r) := by
  refine g_in (M := x_M364) (L := [some (.ref 0), some (.int a), some (.int b), some (.int c), some (.int d), none, none]) x_pl364 rfl ?_
  refine g_n 1 (pc' := 1) (L' := [some (.ref 0), some (.int a), some (.int b), some (.int c), some (.int d), none, none]) (st' := [.int a]) rfl ?_
  refine g_call (ins := .invokestatic 173) (len := 3) (j := 348) (as := [.int a]) (rest := []) rfl rfl rfl rfl (fun _ => rfl) rfl ?_
  refine g_in (M := x_M348) (L := [some (.int a)]) x_pl348 rfl ?_
  refine g_n 1 (pc' := 1) (L' := [some (.int a)]) (st' := [.int a]) rfl ?_
  refine g_br (c := a < (0 : Int32)) (t := 13) (f := 4) (L' := [some (.int a)]) (st' := []) rfl (fun h1 => ?_) (fun h1 => ?_)
  · have p2 : a.toInt ≤ -1 := x_up_lt h1 (by decide)
    refine g_n 1 (pc' := 14) (L' := [some (.int a)]) (st' := [.int 0]) rfl ?_
    refine g_ret (ins := .ireturn) (len := 1) (r := (some (.int 0))) rfl rfl rfl ?_
    refine g_n 2 (pc' := 28) (L' := [some (.ref 0), some (.int a), some (.int b), some (.int c), some (.int d), none, none]) (st' := [.int (-1)]) rfl ?_
    refine g_ret (ins := .ireturn) (len := 1) (r := (some (.int (-1)))) rfl rfl rfl ?_
    refine ⟨⟨_, rfl⟩, ?_⟩
    refine g_in (M := x_M493) (L := [some (.ref 281), some (.int a), some (.int b), some (.int c), some (.int d), none, none]) x_pl493 rfl ?_
    refine g_n 2 (pc' := 2) (L' := [some (.ref 281), some (.int a), some (.int b), some (.int c), some (.int d), none, none]) (st' := [.int a, .ref 281]) rfl ?_
    refine g_call (ins := .invokevirtual 1015) (len := 3) (j := 488) (as := [.ref 281, .int a]) (rest := []) rfl rfl rfl rfl (fun _ => rfl) rfl ?_
    refine g_in (M := x_M488) (L := [some (.ref 281), some (.int a)]) x_pl488 rfl ?_
    refine g_n 1 (pc' := 1) (L' := [some (.ref 281), some (.int a)]) (st' := [.int a]) rfl ?_
    refine g_brT (c := a < (0 : Int32)) (t := 13) (f := 4) (L' := [some (.ref 281), some (.int a)]) (st' := []) rfl (x_Tlt (u := -1) (l := 0) p2 (by decide) (by decide)) ?_
    refine g_n 1 (pc' := 14) (L' := [some (.ref 281), some (.int a)]) (st' := [.int 0]) rfl ?_
    refine g_ret (ins := .ireturn) (len := 1) (r := (some (.int 0))) rfl rfl rfl ?_
    refine g_n 2 (pc' := 29) (L' := [some (.ref 281), some (.int a), some (.int b), some (.int c), some (.int d), none, none]) (st' := [.int (-1)]) rfl ?_
    exact g_ret (ins := .ireturn) (len := 1) (r := (some (.int (-1)))) rfl rfl rfl ⟨_, rfl, rfl, (x_sv_rf _)⟩
  · have p3 : 0 ≤ a.toInt := x_lo_le (x_nlt h1) (by decide)
    refine g_n 2 (pc' := 6) (L' := [some (.int a)]) (st' := [.int 4, .int a]) rfl ?_
    refine g_br (c := (4 : Int32) ≤ a) (t := 13) (f := 9) (L' := [some (.int a)]) (st' := []) rfl (fun h4 => ?_) (fun h4 => ?_)
    · have p5 : 4 ≤ a.toInt := x_lo_le h4 (by decide)
      refine g_n 1 (pc' := 14) (L' := [some (.int a)]) (st' := [.int 0]) rfl ?_
      refine g_ret (ins := .ireturn) (len := 1) (r := (some (.int 0))) rfl rfl rfl ?_
      refine g_n 2 (pc' := 28) (L' := [some (.ref 0), some (.int a), some (.int b), some (.int c), some (.int d), none, none]) (st' := [.int (-1)]) rfl ?_
      refine g_ret (ins := .ireturn) (len := 1) (r := (some (.int (-1)))) rfl rfl rfl ?_
      refine ⟨⟨_, rfl⟩, ?_⟩
      refine g_in (M := x_M493) (L := [some (.ref 281), some (.int a), some (.int b), some (.int c), some (.int d), none, none]) x_pl493 rfl ?_
      refine g_n 2 (pc' := 2) (L' := [some (.ref 281), some (.int a), some (.int b), some (.int c), some (.int d), none, none]) (st' := [.int a, .ref 281]) rfl ?_
      refine g_call (ins := .invokevirtual 1015) (len := 3) (j := 488) (as := [.ref 281, .int a]) (rest := []) rfl rfl rfl rfl (fun _ => rfl) rfl ?_
      refine g_in (M := x_M488) (L := [some (.ref 281), some (.int a)]) x_pl488 rfl ?_
      refine g_n 1 (pc' := 1) (L' := [some (.ref 281), some (.int a)]) (st' := [.int a]) rfl ?_
      refine g_brF (c := a < (0 : Int32)) (t := 13) (f := 4) (L' := [some (.ref 281), some (.int a)]) (st' := []) rfl (x_Flt (l := 4) (u := 0) p5 (by decide) (by decide)) ?_
      refine g_n 2 (pc' := 6) (L' := [some (.ref 281), some (.int a)]) (st' := [.int 4, .int a]) rfl ?_
      refine g_brT (c := (4 : Int32) ≤ a) (t := 13) (f := 9) (L' := [some (.ref 281), some (.int a)]) (st' := []) rfl (x_Tle (u := 4) (l := 4) (by decide) p5 (by decide)) ?_
      refine g_n 1 (pc' := 14) (L' := [some (.ref 281), some (.int a)]) (st' := [.int 0]) rfl ?_
      refine g_ret (ins := .ireturn) (len := 1) (r := (some (.int 0))) rfl rfl rfl ?_
      refine g_n 2 (pc' := 29) (L' := [some (.ref 281), some (.int a), some (.int b), some (.int c), some (.int d), none, none]) (st' := [.int (-1)]) rfl ?_
      exact g_ret (ins := .ireturn) (len := 1) (r := (some (.int (-1)))) rfl rfl rfl ⟨_, rfl, rfl, (x_sv_rf _)⟩
    · have p6 : a.toInt ≤ 3 := x_up_lt (x_nle h4) (by decide)
      refine g_n 2 (pc' := 14) (L' := [some (.int a)]) (st' := [.int 1]) rfl ?_
      refine g_ret (ins := .ireturn) (len := 1) (r := (some (.int 1))) rfl rfl rfl ?_
      refine g_n 2 (pc' := 8) (L' := [some (.ref 0), some (.int a), some (.int b), some (.int c), some (.int d), none, none]) (st' := [.int b]) rfl ?_
      refine g_br (c := b < (0 : Int32)) (t := 27) (f := 11) (L' := [some (.ref 0), some (.int a), some (.int b), some (.int c), some (.int d), none, none]) (st' := []) rfl (fun h7 => ?_) (fun h7 => ?_)
      · have p8 : b.toInt ≤ -1 := x_up_lt h7 (by decide)
        refine g_n 1 (pc' := 28) (L' := [some (.ref 0), some (.int a), some (.int b), some (.int c), some (.int d), none, none]) (st' := [.int (-1)]) rfl ?_
        refine g_ret (ins := .ireturn) (len := 1) (r := (some (.int (-1)))) rfl rfl rfl ?_
        refine ⟨⟨_, rfl⟩, ?_⟩
        refine g_in (M := x_M493) (L := [some (.ref 281), some (.int a), some (.int b), some (.int c), some (.int d), none, none]) x_pl493 rfl ?_
        refine g_n 2 (pc' := 2) (L' := [some (.ref 281), some (.int a), some (.int b), some (.int c), some (.int d), none, none]) (st' := [.int a, .ref 281]) rfl ?_
        refine g_call (ins := .invokevirtual 1015) (len := 3) (j := 488) (as := [.ref 281, .int a]) (rest := []) rfl rfl rfl rfl (fun _ => rfl) rfl ?_
        refine g_in (M := x_M488) (L := [some (.ref 281), some (.int a)]) x_pl488 rfl ?_
        refine g_n 1 (pc' := 1) (L' := [some (.ref 281), some (.int a)]) (st' := [.int a]) rfl ?_
        refine g_brF (c := a < (0 : Int32)) (t := 13) (f := 4) (L' := [some (.ref 281), some (.int a)]) (st' := []) rfl (x_Flt (l := 0) (u := 0) p3 (by decide) (by decide)) ?_
        refine g_n 2 (pc' := 6) (L' := [some (.ref 281), some (.int a)]) (st' := [.int 4, .int a]) rfl ?_
        refine g_brF (c := (4 : Int32) ≤ a) (t := 13) (f := 9) (L' := [some (.ref 281), some (.int a)]) (st' := []) rfl (x_Fle (l := 4) (u := 3) (by decide) p6 (by decide)) ?_
        refine g_n 2 (pc' := 14) (L' := [some (.ref 281), some (.int a)]) (st' := [.int 1]) rfl ?_
        refine g_ret (ins := .ireturn) (len := 1) (r := (some (.int 1))) rfl rfl rfl ?_
        refine g_n 2 (pc' := 10) (L' := [some (.ref 281), some (.int a), some (.int b), some (.int c), some (.int d), none, none]) (st' := [.int d]) rfl ?_
        refine g_br (c := d < (0 : Int32)) (t := 28) (f := 13) (L' := [some (.ref 281), some (.int a), some (.int b), some (.int c), some (.int d), none, none]) (st' := []) rfl (fun h9 => ?_) (fun h9 => ?_)
        · have p10 : d.toInt ≤ -1 := x_up_lt h9 (by decide)
          refine g_n 1 (pc' := 29) (L' := [some (.ref 281), some (.int a), some (.int b), some (.int c), some (.int d), none, none]) (st' := [.int (-1)]) rfl ?_
          exact g_ret (ins := .ireturn) (len := 1) (r := (some (.int (-1)))) rfl rfl rfl ⟨_, rfl, rfl, (x_sv_rf _)⟩
        · have p11 : 0 ≤ d.toInt := x_lo_le (x_nlt h9) (by decide)
          refine g_n 2 (pc' := 17) (L' := [some (.ref 281), some (.int a), some (.int b), some (.int c), some (.int d), none, none]) (st' := [.int 8, .int d]) rfl ?_
          refine g_br (c := (8 : Int32) < d) (t := 28) (f := 20) (L' := [some (.ref 281), some (.int a), some (.int b), some (.int c), some (.int d), none, none]) (st' := []) rfl (fun h12 => ?_) (fun h12 => ?_)
          · have p13 : 9 ≤ d.toInt := x_lo_lt h12 (by decide)
            refine g_n 1 (pc' := 29) (L' := [some (.ref 281), some (.int a), some (.int b), some (.int c), some (.int d), none, none]) (st' := [.int (-1)]) rfl ?_
            exact g_ret (ins := .ireturn) (len := 1) (r := (some (.int (-1)))) rfl rfl rfl ⟨_, rfl, rfl, (x_sv_rf _)⟩
          · have p14 : d.toInt ≤ 8 := x_up_le (x_nlt h12) (by decide)
            refine g_n 1 (pc' := 21) (L' := [some (.ref 281), some (.int a), some (.int b), some (.int c), some (.int d), none, none]) (st' := [.int b]) rfl ?_
            refine g_brT (c := b < (0 : Int32)) (t := 28) (f := 24) (L' := [some (.ref 281), some (.int a), some (.int b), some (.int c), some (.int d), none, none]) (st' := []) rfl (x_Tlt (u := -1) (l := 0) p8 (by decide) (by decide)) ?_
            refine g_n 1 (pc' := 29) (L' := [some (.ref 281), some (.int a), some (.int b), some (.int c), some (.int d), none, none]) (st' := [.int (-1)]) rfl ?_
            exact g_ret (ins := .ireturn) (len := 1) (r := (some (.int (-1)))) rfl rfl rfl ⟨_, rfl, rfl, (x_sv_rf _)⟩
      · have p15 : 0 ≤ b.toInt := x_lo_le (x_nlt h7) (by decide)
        refine g_n 1 (pc' := 12) (L' := [some (.ref 0), some (.int a), some (.int b), some (.int c), some (.int d), none, none]) (st' := [.int c]) rfl ?_
        refine g_br (c := c < (0 : Int32)) (t := 27) (f := 15) (L' := [some (.ref 0), some (.int a), some (.int b), some (.int c), some (.int d), none, none]) (st' := []) rfl (fun h16 => ?_) (fun h16 => ?_)
        · have p17 : c.toInt ≤ -1 := x_up_lt h16 (by decide)
          refine g_n 1 (pc' := 28) (L' := [some (.ref 0), some (.int a), some (.int b), some (.int c), some (.int d), none, none]) (st' := [.int (-1)]) rfl ?_
          refine g_ret (ins := .ireturn) (len := 1) (r := (some (.int (-1)))) rfl rfl rfl ?_
          refine ⟨⟨_, rfl⟩, ?_⟩
          refine g_in (M := x_M493) (L := [some (.ref 281), some (.int a), some (.int b), some (.int c), some (.int d), none, none]) x_pl493 rfl ?_
          refine g_n 2 (pc' := 2) (L' := [some (.ref 281), some (.int a), some (.int b), some (.int c), some (.int d), none, none]) (st' := [.int a, .ref 281]) rfl ?_
          refine g_call (ins := .invokevirtual 1015) (len := 3) (j := 488) (as := [.ref 281, .int a]) (rest := []) rfl rfl rfl rfl (fun _ => rfl) rfl ?_
          refine g_in (M := x_M488) (L := [some (.ref 281), some (.int a)]) x_pl488 rfl ?_
          refine g_n 1 (pc' := 1) (L' := [some (.ref 281), some (.int a)]) (st' := [.int a]) rfl ?_
          refine g_brF (c := a < (0 : Int32)) (t := 13) (f := 4) (L' := [some (.ref 281), some (.int a)]) (st' := []) rfl (x_Flt (l := 0) (u := 0) p3 (by decide) (by decide)) ?_
          refine g_n 2 (pc' := 6) (L' := [some (.ref 281), some (.int a)]) (st' := [.int 4, .int a]) rfl ?_
          refine g_brF (c := (4 : Int32) ≤ a) (t := 13) (f := 9) (L' := [some (.ref 281), some (.int a)]) (st' := []) rfl (x_Fle (l := 4) (u := 3) (by decide) p6 (by decide)) ?_
          refine g_n 2 (pc' := 14) (L' := [some (.ref 281), some (.int a)]) (st' := [.int 1]) rfl ?_
          refine g_ret (ins := .ireturn) (len := 1) (r := (some (.int 1))) rfl rfl rfl ?_
          refine g_n 2 (pc' := 10) (L' := [some (.ref 281), some (.int a), some (.int b), some (.int c), some (.int d), none, none]) (st' := [.int d]) rfl ?_
          refine g_br (c := d < (0 : Int32)) (t := 28) (f := 13) (L' := [some (.ref 281), some (.int a), some (.int b), some (.int c), some (.int d), none, none]) (st' := []) rfl (fun h18 => ?_) (fun h18 => ?_)
          · have p19 : d.toInt ≤ -1 := x_up_lt h18 (by decide)
            refine g_n 1 (pc' := 29) (L' := [some (.ref 281), some (.int a), some (.int b), some (.int c), some (.int d), none, none]) (st' := [.int (-1)]) rfl ?_
            exact g_ret (ins := .ireturn) (len := 1) (r := (some (.int (-1)))) rfl rfl rfl ⟨_, rfl, rfl, (x_sv_rf _)⟩
          · have p20 : 0 ≤ d.toInt := x_lo_le (x_nlt h18) (by decide)
            refine g_n 2 (pc' := 17) (L' := [some (.ref 281), some (.int a), some (.int b), some (.int c), some (.int d), none, none]) (st' := [.int 8, .int d]) rfl ?_
            refine g_br (c := (8 : Int32) < d) (t := 28) (f := 20) (L' := [some (.ref 281), some (.int a), some (.int b), some (.int c), some (.int d), none, none]) (st' := []) rfl (fun h21 => ?_) (fun h21 => ?_)
            · have p22 : 9 ≤ d.toInt := x_lo_lt h21 (by decide)
              refine g_n 1 (pc' := 29) (L' := [some (.ref 281), some (.int a), some (.int b), some (.int c), some (.int d), none, none]) (st' := [.int (-1)]) rfl ?_
              exact g_ret (ins := .ireturn) (len := 1) (r := (some (.int (-1)))) rfl rfl rfl ⟨_, rfl, rfl, (x_sv_rf _)⟩
            · have p23 : d.toInt ≤ 8 := x_up_le (x_nlt h21) (by decide)
              refine g_n 1 (pc' := 21) (L' := [some (.ref 281), some (.int a), some (.int b), some (.int c), some (.int d), none, none]) (st' := [.int b]) rfl ?_
              refine g_brF (c := b < (0 : Int32)) (t := 28) (f := 24) (L' := [some (.ref 281), some (.int a), some (.int b), some (.int c), some (.int d), none, none]) (st' := []) rfl (x_Flt (l := 0) (u := 0) p15 (by decide) (by decide)) ?_
              refine g_n 1 (pc' := 25) (L' := [some (.ref 281), some (.int a), some (.int b), some (.int c), some (.int d), none, none]) (st' := [.int c]) rfl ?_
              refine g_brF (c := (0 : Int32) ≤ c) (t := 30) (f := 28) (L' := [some (.ref 281), some (.int a), some (.int b), some (.int c), some (.int d), none, none]) (st' := []) rfl (x_Fle (l := 0) (u := -1) (by decide) p17 (by decide)) ?_
              refine g_n 1 (pc' := 29) (L' := [some (.ref 281), some (.int a), some (.int b), some (.int c), some (.int d), none, none]) (st' := [.int (-1)]) rfl ?_
              exact g_ret (ins := .ireturn) (len := 1) (r := (some (.int (-1)))) rfl rfl rfl ⟨_, rfl, rfl, (x_sv_rf _)⟩
        · have p24 : 0 ≤ c.toInt := x_lo_le (x_nlt h16) (by decide)
          refine g_n 1 (pc' := 17) (L' := [some (.ref 0), some (.int a), some (.int b), some (.int c), some (.int d), none, none]) (st' := [.int d]) rfl ?_
          refine g_br (c := d < (0 : Int32)) (t := 27) (f := 20) (L' := [some (.ref 0), some (.int a), some (.int b), some (.int c), some (.int d), none, none]) (st' := []) rfl (fun h25 => ?_) (fun h25 => ?_)
          · have p26 : d.toInt ≤ -1 := x_up_lt h25 (by decide)
            refine g_n 1 (pc' := 28) (L' := [some (.ref 0), some (.int a), some (.int b), some (.int c), some (.int d), none, none]) (st' := [.int (-1)]) rfl ?_
            refine g_ret (ins := .ireturn) (len := 1) (r := (some (.int (-1)))) rfl rfl rfl ?_
            refine ⟨⟨_, rfl⟩, ?_⟩
            refine g_in (M := x_M493) (L := [some (.ref 281), some (.int a), some (.int b), some (.int c), some (.int d), none, none]) x_pl493 rfl ?_
            refine g_n 2 (pc' := 2) (L' := [some (.ref 281), some (.int a), some (.int b), some (.int c), some (.int d), none, none]) (st' := [.int a, .ref 281]) rfl ?_
            refine g_call (ins := .invokevirtual 1015) (len := 3) (j := 488) (as := [.ref 281, .int a]) (rest := []) rfl rfl rfl rfl (fun _ => rfl) rfl ?_
            refine g_in (M := x_M488) (L := [some (.ref 281), some (.int a)]) x_pl488 rfl ?_
            refine g_n 1 (pc' := 1) (L' := [some (.ref 281), some (.int a)]) (st' := [.int a]) rfl ?_
            refine g_brF (c := a < (0 : Int32)) (t := 13) (f := 4) (L' := [some (.ref 281), some (.int a)]) (st' := []) rfl (x_Flt (l := 0) (u := 0) p3 (by decide) (by decide)) ?_
            refine g_n 2 (pc' := 6) (L' := [some (.ref 281), some (.int a)]) (st' := [.int 4, .int a]) rfl ?_
            refine g_brF (c := (4 : Int32) ≤ a) (t := 13) (f := 9) (L' := [some (.ref 281), some (.int a)]) (st' := []) rfl (x_Fle (l := 4) (u := 3) (by decide) p6 (by decide)) ?_
            refine g_n 2 (pc' := 14) (L' := [some (.ref 281), some (.int a)]) (st' := [.int 1]) rfl ?_
            refine g_ret (ins := .ireturn) (len := 1) (r := (some (.int 1))) rfl rfl rfl ?_
            refine g_n 2 (pc' := 10) (L' := [some (.ref 281), some (.int a), some (.int b), some (.int c), some (.int d), none, none]) (st' := [.int d]) rfl ?_
            refine g_brT (c := d < (0 : Int32)) (t := 28) (f := 13) (L' := [some (.ref 281), some (.int a), some (.int b), some (.int c), some (.int d), none, none]) (st' := []) rfl (x_Tlt (u := -1) (l := 0) p26 (by decide) (by decide)) ?_
            refine g_n 1 (pc' := 29) (L' := [some (.ref 281), some (.int a), some (.int b), some (.int c), some (.int d), none, none]) (st' := [.int (-1)]) rfl ?_
            exact g_ret (ins := .ireturn) (len := 1) (r := (some (.int (-1)))) rfl rfl rfl ⟨_, rfl, rfl, (x_sv_rf _)⟩
          · have p27 : 0 ≤ d.toInt := x_lo_le (x_nlt h25) (by decide)
            refine g_n 2 (pc' := 24) (L' := [some (.ref 0), some (.int a), some (.int b), some (.int c), some (.int d), none, none]) (st' := [.int 8, .int d]) rfl ?_
            refine g_br (c := d ≤ (8 : Int32)) (t := 29) (f := 27) (L' := [some (.ref 0), some (.int a), some (.int b), some (.int c), some (.int d), none, none]) (st' := []) rfl (fun h28 => ?_) (fun h28 => ?_)
            · have p29 : d.toInt ≤ 8 := x_up_le h28 (by decide)
              refine g_n 3 (pc' := 34) (L' := [some (.ref 0), some (.int a), some (.int b), some (.int c), some (.int d), none, none]) (st' := [.int a, .ref 2]) rfl ?_
              by_cases h30 : a = 0
              · have e31 : a = 0 := h30
                subst e31
                refine g_aa (i := 0) (a := 2) (n := 4) (v := 27) rfl rfl (by decide) (x_at (x_f2 hF) (k := 0) rfl) ?_
                refine g_n 5 (pc' := 47) (L' := [some (.ref 0), some (.int 0), some (.int b), some (.int c), some (.int d), some (.ref 27), none]) (st' := [.int (-2)]) rfl ?_
                refine g_ret (ins := .ireturn) (len := 1) (r := (some (.int (-2)))) rfl rfl rfl ?_
                refine ⟨⟨_, rfl⟩, ?_⟩
                refine g_in (M := x_M493) (L := [some (.ref 281), some (.int 0), some (.int b), some (.int c), some (.int d), none, none]) x_pl493 rfl ?_
                refine g_n 2 (pc' := 2) (L' := [some (.ref 281), some (.int 0), some (.int b), some (.int c), some (.int d), none, none]) (st' := [.int 0, .ref 281]) rfl ?_
                refine g_call (ins := .invokevirtual 1015) (len := 3) (j := 488) (as := [.ref 281, .int 0]) (rest := []) rfl rfl rfl rfl (fun _ => rfl) rfl ?_
                refine g_in (M := x_M488) (L := [some (.ref 281), some (.int 0)]) x_pl488 rfl ?_
                refine g_n 7 (pc' := 14) (L' := [some (.ref 281), some (.int 0)]) (st' := [.int 1]) rfl ?_
                refine g_ret (ins := .ireturn) (len := 1) (r := (some (.int 1))) rfl rfl rfl ?_
                refine g_n 2 (pc' := 10) (L' := [some (.ref 281), some (.int 0), some (.int b), some (.int c), some (.int d), none, none]) (st' := [.int d]) rfl ?_
                refine g_brF (c := d < (0 : Int32)) (t := 28) (f := 13) (L' := [some (.ref 281), some (.int 0), some (.int b), some (.int c), some (.int d), none, none]) (st' := []) rfl (x_Flt (l := 0) (u := 0) p27 (by decide) (by decide)) ?_
                refine g_n 2 (pc' := 17) (L' := [some (.ref 281), some (.int 0), some (.int b), some (.int c), some (.int d), none, none]) (st' := [.int 8, .int d]) rfl ?_
                refine g_brF (c := (8 : Int32) < d) (t := 28) (f := 20) (L' := [some (.ref 281), some (.int 0), some (.int b), some (.int c), some (.int d), none, none]) (st' := []) rfl (x_Flt (l := 8) (u := 8) (by decide) p29 (by decide)) ?_
                refine g_n 1 (pc' := 21) (L' := [some (.ref 281), some (.int 0), some (.int b), some (.int c), some (.int d), none, none]) (st' := [.int b]) rfl ?_
                refine g_brF (c := b < (0 : Int32)) (t := 28) (f := 24) (L' := [some (.ref 281), some (.int 0), some (.int b), some (.int c), some (.int d), none, none]) (st' := []) rfl (x_Flt (l := 0) (u := 0) p15 (by decide) (by decide)) ?_
                refine g_n 1 (pc' := 25) (L' := [some (.ref 281), some (.int 0), some (.int b), some (.int c), some (.int d), none, none]) (st' := [.int c]) rfl ?_
                refine g_brT (c := (0 : Int32) ≤ c) (t := 30) (f := 28) (L' := [some (.ref 281), some (.int 0), some (.int b), some (.int c), some (.int d), none, none]) (st' := []) rfl (x_Tle (u := 0) (l := 0) (by decide) p24 (by decide)) ?_
                refine g_n 6 (pc' := 41) (L' := [some (.ref 281), some (.int 0), some (.int b), some (.int c), some (.int d), none, none]) (st' := [.int (-2)]) rfl ?_
                exact g_ret (ins := .ireturn) (len := 1) (r := (some (.int (-2)))) rfl rfl rfl ⟨_, rfl, rfl, (x_sv_rf _)⟩
              · have q32 : ¬ a = 0 := h30
                have p33 : 1 ≤ a.toInt := x_lo_ne q32 p3 (by decide)
                by_cases h34 : a = 1
                · have e35 : a = 1 := h34
                  subst e35
                  refine g_aa (i := 1) (a := 2) (n := 4) (v := 50) rfl rfl (by decide) (x_at (x_f2 hF) (k := 1) rfl) ?_
                  refine g_n 5 (pc' := 47) (L' := [some (.ref 0), some (.int 1), some (.int b), some (.int c), some (.int d), some (.ref 50), none]) (st' := [.int (-2)]) rfl ?_
                  refine g_ret (ins := .ireturn) (len := 1) (r := (some (.int (-2)))) rfl rfl rfl ?_
                  refine ⟨⟨_, rfl⟩, ?_⟩
                  refine g_in (M := x_M493) (L := [some (.ref 281), some (.int 1), some (.int b), some (.int c), some (.int d), none, none]) x_pl493 rfl ?_
                  refine g_n 2 (pc' := 2) (L' := [some (.ref 281), some (.int 1), some (.int b), some (.int c), some (.int d), none, none]) (st' := [.int 1, .ref 281]) rfl ?_
                  refine g_call (ins := .invokevirtual 1015) (len := 3) (j := 488) (as := [.ref 281, .int 1]) (rest := []) rfl rfl rfl rfl (fun _ => rfl) rfl ?_
                  refine g_in (M := x_M488) (L := [some (.ref 281), some (.int 1)]) x_pl488 rfl ?_
                  refine g_n 7 (pc' := 14) (L' := [some (.ref 281), some (.int 1)]) (st' := [.int 1]) rfl ?_
                  refine g_ret (ins := .ireturn) (len := 1) (r := (some (.int 1))) rfl rfl rfl ?_
                  refine g_n 2 (pc' := 10) (L' := [some (.ref 281), some (.int 1), some (.int b), some (.int c), some (.int d), none, none]) (st' := [.int d]) rfl ?_
                  refine g_brF (c := d < (0 : Int32)) (t := 28) (f := 13) (L' := [some (.ref 281), some (.int 1), some (.int b), some (.int c), some (.int d), none, none]) (st' := []) rfl (x_Flt (l := 0) (u := 0) p27 (by decide) (by decide)) ?_
                  refine g_n 2 (pc' := 17) (L' := [some (.ref 281), some (.int 1), some (.int b), some (.int c), some (.int d), none, none]) (st' := [.int 8, .int d]) rfl ?_
                  refine g_brF (c := (8 : Int32) < d) (t := 28) (f := 20) (L' := [some (.ref 281), some (.int 1), some (.int b), some (.int c), some (.int d), none, none]) (st' := []) rfl (x_Flt (l := 8) (u := 8) (by decide) p29 (by decide)) ?_
                  refine g_n 1 (pc' := 21) (L' := [some (.ref 281), some (.int 1), some (.int b), some (.int c), some (.int d), none, none]) (st' := [.int b]) rfl ?_
                  refine g_brF (c := b < (0 : Int32)) (t := 28) (f := 24) (L' := [some (.ref 281), some (.int 1), some (.int b), some (.int c), some (.int d), none, none]) (st' := []) rfl (x_Flt (l := 0) (u := 0) p15 (by decide) (by decide)) ?_
                  refine g_n 1 (pc' := 25) (L' := [some (.ref 281), some (.int 1), some (.int b), some (.int c), some (.int d), none, none]) (st' := [.int c]) rfl ?_
                  refine g_brT (c := (0 : Int32) ≤ c) (t := 30) (f := 28) (L' := [some (.ref 281), some (.int 1), some (.int b), some (.int c), some (.int d), none, none]) (st' := []) rfl (x_Tle (u := 0) (l := 0) (by decide) p24 (by decide)) ?_
                  refine g_n 6 (pc' := 41) (L' := [some (.ref 281), some (.int 1), some (.int b), some (.int c), some (.int d), none, none]) (st' := [.int (-2)]) rfl ?_
                  exact g_ret (ins := .ireturn) (len := 1) (r := (some (.int (-2)))) rfl rfl rfl ⟨_, rfl, rfl, (x_sv_rf _)⟩
                · have q36 : ¬ a = 1 := h34
                  have p37 : 2 ≤ a.toInt := x_lo_ne q36 p33 (by decide)
                  by_cases h38 : a = 2
                  · have e39 : a = 2 := h38
                    subst e39
                    refine g_aa (i := 2) (a := 2) (n := 4) (v := 73) rfl rfl (by decide) (x_at (x_f2 hF) (k := 2) rfl) ?_
                    refine g_n 5 (pc' := 47) (L' := [some (.ref 0), some (.int 2), some (.int b), some (.int c), some (.int d), some (.ref 73), none]) (st' := [.int (-2)]) rfl ?_
                    refine g_ret (ins := .ireturn) (len := 1) (r := (some (.int (-2)))) rfl rfl rfl ?_
                    refine ⟨⟨_, rfl⟩, ?_⟩
                    refine g_in (M := x_M493) (L := [some (.ref 281), some (.int 2), some (.int b), some (.int c), some (.int d), none, none]) x_pl493 rfl ?_
                    refine g_n 2 (pc' := 2) (L' := [some (.ref 281), some (.int 2), some (.int b), some (.int c), some (.int d), none, none]) (st' := [.int 2, .ref 281]) rfl ?_
                    refine g_call (ins := .invokevirtual 1015) (len := 3) (j := 488) (as := [.ref 281, .int 2]) (rest := []) rfl rfl rfl rfl (fun _ => rfl) rfl ?_
                    refine g_in (M := x_M488) (L := [some (.ref 281), some (.int 2)]) x_pl488 rfl ?_
                    refine g_n 7 (pc' := 14) (L' := [some (.ref 281), some (.int 2)]) (st' := [.int 1]) rfl ?_
                    refine g_ret (ins := .ireturn) (len := 1) (r := (some (.int 1))) rfl rfl rfl ?_
                    refine g_n 2 (pc' := 10) (L' := [some (.ref 281), some (.int 2), some (.int b), some (.int c), some (.int d), none, none]) (st' := [.int d]) rfl ?_
                    refine g_brF (c := d < (0 : Int32)) (t := 28) (f := 13) (L' := [some (.ref 281), some (.int 2), some (.int b), some (.int c), some (.int d), none, none]) (st' := []) rfl (x_Flt (l := 0) (u := 0) p27 (by decide) (by decide)) ?_
                    refine g_n 2 (pc' := 17) (L' := [some (.ref 281), some (.int 2), some (.int b), some (.int c), some (.int d), none, none]) (st' := [.int 8, .int d]) rfl ?_
                    refine g_brF (c := (8 : Int32) < d) (t := 28) (f := 20) (L' := [some (.ref 281), some (.int 2), some (.int b), some (.int c), some (.int d), none, none]) (st' := []) rfl (x_Flt (l := 8) (u := 8) (by decide) p29 (by decide)) ?_
                    refine g_n 1 (pc' := 21) (L' := [some (.ref 281), some (.int 2), some (.int b), some (.int c), some (.int d), none, none]) (st' := [.int b]) rfl ?_
                    refine g_brF (c := b < (0 : Int32)) (t := 28) (f := 24) (L' := [some (.ref 281), some (.int 2), some (.int b), some (.int c), some (.int d), none, none]) (st' := []) rfl (x_Flt (l := 0) (u := 0) p15 (by decide) (by decide)) ?_
                    refine g_n 1 (pc' := 25) (L' := [some (.ref 281), some (.int 2), some (.int b), some (.int c), some (.int d), none, none]) (st' := [.int c]) rfl ?_
                    refine g_brT (c := (0 : Int32) ≤ c) (t := 30) (f := 28) (L' := [some (.ref 281), some (.int 2), some (.int b), some (.int c), some (.int d), none, none]) (st' := []) rfl (x_Tle (u := 0) (l := 0) (by decide) p24 (by decide)) ?_
                    refine g_n 6 (pc' := 41) (L' := [some (.ref 281), some (.int 2), some (.int b), some (.int c), some (.int d), none, none]) (st' := [.int (-2)]) rfl ?_
                    exact g_ret (ins := .ireturn) (len := 1) (r := (some (.int (-2)))) rfl rfl rfl ⟨_, rfl, rfl, (x_sv_rf _)⟩
                  · have q40 : ¬ a = 2 := h38
                    have p41 : 3 ≤ a.toInt := x_lo_ne q40 p37 (by decide)
                    have e42 : a = 3 := x_sing p41 p6 (by decide)
                    subst e42
                    refine g_aa (i := 3) (a := 2) (n := 4) (v := 96) rfl rfl (by decide) (x_at (x_f2 hF) (k := 3) rfl) ?_
                    refine g_n 5 (pc' := 47) (L' := [some (.ref 0), some (.int 3), some (.int b), some (.int c), some (.int d), some (.ref 96), none]) (st' := [.int (-2)]) rfl ?_
                    refine g_ret (ins := .ireturn) (len := 1) (r := (some (.int (-2)))) rfl rfl rfl ?_
                    refine ⟨⟨_, rfl⟩, ?_⟩
                    refine g_in (M := x_M493) (L := [some (.ref 281), some (.int 3), some (.int b), some (.int c), some (.int d), none, none]) x_pl493 rfl ?_
                    refine g_n 2 (pc' := 2) (L' := [some (.ref 281), some (.int 3), some (.int b), some (.int c), some (.int d), none, none]) (st' := [.int 3, .ref 281]) rfl ?_
                    refine g_call (ins := .invokevirtual 1015) (len := 3) (j := 488) (as := [.ref 281, .int 3]) (rest := []) rfl rfl rfl rfl (fun _ => rfl) rfl ?_
                    refine g_in (M := x_M488) (L := [some (.ref 281), some (.int 3)]) x_pl488 rfl ?_
                    refine g_n 7 (pc' := 14) (L' := [some (.ref 281), some (.int 3)]) (st' := [.int 1]) rfl ?_
                    refine g_ret (ins := .ireturn) (len := 1) (r := (some (.int 1))) rfl rfl rfl ?_
                    refine g_n 2 (pc' := 10) (L' := [some (.ref 281), some (.int 3), some (.int b), some (.int c), some (.int d), none, none]) (st' := [.int d]) rfl ?_
                    refine g_brF (c := d < (0 : Int32)) (t := 28) (f := 13) (L' := [some (.ref 281), some (.int 3), some (.int b), some (.int c), some (.int d), none, none]) (st' := []) rfl (x_Flt (l := 0) (u := 0) p27 (by decide) (by decide)) ?_
                    refine g_n 2 (pc' := 17) (L' := [some (.ref 281), some (.int 3), some (.int b), some (.int c), some (.int d), none, none]) (st' := [.int 8, .int d]) rfl ?_
                    refine g_brF (c := (8 : Int32) < d) (t := 28) (f := 20) (L' := [some (.ref 281), some (.int 3), some (.int b), some (.int c), some (.int d), none, none]) (st' := []) rfl (x_Flt (l := 8) (u := 8) (by decide) p29 (by decide)) ?_
                    refine g_n 1 (pc' := 21) (L' := [some (.ref 281), some (.int 3), some (.int b), some (.int c), some (.int d), none, none]) (st' := [.int b]) rfl ?_
                    refine g_brF (c := b < (0 : Int32)) (t := 28) (f := 24) (L' := [some (.ref 281), some (.int 3), some (.int b), some (.int c), some (.int d), none, none]) (st' := []) rfl (x_Flt (l := 0) (u := 0) p15 (by decide) (by decide)) ?_
                    refine g_n 1 (pc' := 25) (L' := [some (.ref 281), some (.int 3), some (.int b), some (.int c), some (.int d), none, none]) (st' := [.int c]) rfl ?_
                    refine g_brT (c := (0 : Int32) ≤ c) (t := 30) (f := 28) (L' := [some (.ref 281), some (.int 3), some (.int b), some (.int c), some (.int d), none, none]) (st' := []) rfl (x_Tle (u := 0) (l := 0) (by decide) p24 (by decide)) ?_
                    refine g_n 6 (pc' := 41) (L' := [some (.ref 281), some (.int 3), some (.int b), some (.int c), some (.int d), none, none]) (st' := [.int (-2)]) rfl ?_
                    exact g_ret (ins := .ireturn) (len := 1) (r := (some (.int (-2)))) rfl rfl rfl ⟨_, rfl, rfl, (x_sv_rf _)⟩
            · have p43 : 9 ≤ d.toInt := x_lo_lt (x_nle h28) (by decide)
              refine g_n 1 (pc' := 28) (L' := [some (.ref 0), some (.int a), some (.int b), some (.int c), some (.int d), none, none]) (st' := [.int (-1)]) rfl ?_
              refine g_ret (ins := .ireturn) (len := 1) (r := (some (.int (-1)))) rfl rfl rfl ?_
              refine ⟨⟨_, rfl⟩, ?_⟩
              refine g_in (M := x_M493) (L := [some (.ref 281), some (.int a), some (.int b), some (.int c), some (.int d), none, none]) x_pl493 rfl ?_
              refine g_n 2 (pc' := 2) (L' := [some (.ref 281), some (.int a), some (.int b), some (.int c), some (.int d), none, none]) (st' := [.int a, .ref 281]) rfl ?_
              refine g_call (ins := .invokevirtual 1015) (len := 3) (j := 488) (as := [.ref 281, .int a]) (rest := []) rfl rfl rfl rfl (fun _ => rfl) rfl ?_
              refine g_in (M := x_M488) (L := [some (.ref 281), some (.int a)]) x_pl488 rfl ?_
              refine g_n 1 (pc' := 1) (L' := [some (.ref 281), some (.int a)]) (st' := [.int a]) rfl ?_
              refine g_brF (c := a < (0 : Int32)) (t := 13) (f := 4) (L' := [some (.ref 281), some (.int a)]) (st' := []) rfl (x_Flt (l := 0) (u := 0) p3 (by decide) (by decide)) ?_
              refine g_n 2 (pc' := 6) (L' := [some (.ref 281), some (.int a)]) (st' := [.int 4, .int a]) rfl ?_
              refine g_brF (c := (4 : Int32) ≤ a) (t := 13) (f := 9) (L' := [some (.ref 281), some (.int a)]) (st' := []) rfl (x_Fle (l := 4) (u := 3) (by decide) p6 (by decide)) ?_
              refine g_n 2 (pc' := 14) (L' := [some (.ref 281), some (.int a)]) (st' := [.int 1]) rfl ?_
              refine g_ret (ins := .ireturn) (len := 1) (r := (some (.int 1))) rfl rfl rfl ?_
              refine g_n 2 (pc' := 10) (L' := [some (.ref 281), some (.int a), some (.int b), some (.int c), some (.int d), none, none]) (st' := [.int d]) rfl ?_
              refine g_brF (c := d < (0 : Int32)) (t := 28) (f := 13) (L' := [some (.ref 281), some (.int a), some (.int b), some (.int c), some (.int d), none, none]) (st' := []) rfl (x_Flt (l := 9) (u := 0) p43 (by decide) (by decide)) ?_
              refine g_n 2 (pc' := 17) (L' := [some (.ref 281), some (.int a), some (.int b), some (.int c), some (.int d), none, none]) (st' := [.int 8, .int d]) rfl ?_
              refine g_brT (c := (8 : Int32) < d) (t := 28) (f := 20) (L' := [some (.ref 281), some (.int a), some (.int b), some (.int c), some (.int d), none, none]) (st' := []) rfl (x_Tlt (u := 8) (l := 9) (by decide) p43 (by decide)) ?_
              refine g_n 1 (pc' := 29) (L' := [some (.ref 281), some (.int a), some (.int b), some (.int c), some (.int d), none, none]) (st' := [.int (-1)]) rfl ?_
              exact g_ret (ins := .ireturn) (len := 1) (r := (some (.int (-1)))) rfl rfl rfl ⟨_, rfl, rfl, (x_sv_rf _)⟩
set_option maxRecDepth 100000 in
set_option maxHeartbeats 4000000 in
theorem x_op13 {fi : Nat → Nat → Int32} {fl : Nat → Nat → Int64} {fr : Nat → Nat → Option Nat} (hF : x_F fl fr) (a b c d e : Int32) : x_ev 30 365 [.ref 0, .int a, .int b, .int c, .int d, .int e] (x_W fi fl fr) fun r S1 => (∃ fs, x_obj S1 281 = some (12, fs)) ∧ x_ev 30 495 [.ref 281, .int a, .int b, .int c, .int d, .int e] S1 (x_finI (x_W fi fl fr) r) := by
  refine g_in (M := x_M365) (L := [some (.ref 0), some (.int a), some (.int b), some (.int c), some (.int d), some (.int e), none, none]) x_pl365 rfl ?_
  refine g_n 1 (pc' := 1) (L' := [some (.ref 0), some (.int a), some (.int b), some (.int c), some (.int d), some (.int e), none, none]) (st' := [.int b]) rfl ?_
  refine g_br (c := b = (0 : Int32)) (t := 9) (f := 4) (L' := [some (.ref 0), some (.int a), some (.int b), some (.int c), some (.int d), some (.int e), none, none]) (st' := []) rfl (fun h1 => ?_) (fun h1 => ?_)
  · have e2 : b = 0 := h1
    subst e2
    refine g_n 4 (pc' := 17) (L' := [some (.ref 0), some (.int a), some (.int 0), some (.int c), some (.int d), some (.int e), some (.int 1), none]) (st' := [.int a]) rfl ?_
    refine g_call (ins := .invokestatic 173) (len := 3) (j := 348) (as := [.int a]) (rest := []) rfl rfl rfl rfl (fun _ => rfl) rfl ?_
    refine g_in (M := x_M348) (L := [some (.int a)]) x_pl348 rfl ?_
    refine g_n 1 (pc' := 1) (L' := [some (.int a)]) (st' := [.int a]) rfl ?_
    refine g_br (c := a < (0 : Int32)) (t := 13) (f := 4) (L' := [some (.int a)]) (st' := []) rfl (fun h3 => ?_) (fun h3 => ?_)
    · have p4 : a.toInt ≤ -1 := x_up_lt h3 (by decide)
      refine g_n 1 (pc' := 14) (L' := [some (.int a)]) (st' := [.int 0]) rfl ?_
      refine g_ret (ins := .ireturn) (len := 1) (r := (some (.int 0))) rfl rfl rfl ?_
      refine g_n 2 (pc' := 52) (L' := [some (.ref 0), some (.int a), some (.int 0), some (.int c), some (.int d), some (.int e), some (.int 1), none]) (st' := [.int (-1)]) rfl ?_
      refine g_ret (ins := .ireturn) (len := 1) (r := (some (.int (-1)))) rfl rfl rfl ?_
      refine ⟨⟨_, rfl⟩, ?_⟩
      refine g_in (M := x_M495) (L := [some (.ref 281), some (.int a), some (.int 0), some (.int c), some (.int d), some (.int e), none, none]) x_pl495 rfl ?_
      refine g_n 13 (pc' := 24) (L' := [some (.ref 281), some (.int a), some (.int 0), some (.int c), some (.int d), some (.int e), some (.int 0), none]) (st' := [.int a, .ref 281]) rfl ?_
      refine g_call (ins := .invokevirtual 1015) (len := 3) (j := 488) (as := [.ref 281, .int a]) (rest := []) rfl rfl rfl rfl (fun _ => rfl) rfl ?_
      refine g_in (M := x_M488) (L := [some (.ref 281), some (.int a)]) x_pl488 rfl ?_
      refine g_n 1 (pc' := 1) (L' := [some (.ref 281), some (.int a)]) (st' := [.int a]) rfl ?_
      refine g_brT (c := a < (0 : Int32)) (t := 13) (f := 4) (L' := [some (.ref 281), some (.int a)]) (st' := []) rfl (x_Tlt (u := -1) (l := 0) p4 (by decide) (by decide)) ?_
      refine g_n 1 (pc' := 14) (L' := [some (.ref 281), some (.int a)]) (st' := [.int 0]) rfl ?_
      refine g_ret (ins := .ireturn) (len := 1) (r := (some (.int 0))) rfl rfl rfl ?_
      refine g_n 2 (pc' := 59) (L' := [some (.ref 281), some (.int a), some (.int 0), some (.int c), some (.int d), some (.int e), some (.int 0), none]) (st' := [.int (-1)]) rfl ?_
      exact g_ret (ins := .ireturn) (len := 1) (r := (some (.int (-1)))) rfl rfl rfl ⟨_, rfl, rfl, (x_sv_rf _)⟩
    · have p5 : 0 ≤ a.toInt := x_lo_le (x_nlt h3) (by decide)
      refine g_n 2 (pc' := 6) (L' := [some (.int a)]) (st' := [.int 4, .int a]) rfl ?_
      refine g_br (c := (4 : Int32) ≤ a) (t := 13) (f := 9) (L' := [some (.int a)]) (st' := []) rfl (fun h6 => ?_) (fun h6 => ?_)
      · have p7 : 4 ≤ a.toInt := x_lo_le h6 (by decide)
        refine g_n 1 (pc' := 14) (L' := [some (.int a)]) (st' := [.int 0]) rfl ?_
        refine g_ret (ins := .ireturn) (len := 1) (r := (some (.int 0))) rfl rfl rfl ?_
        refine g_n 2 (pc' := 52) (L' := [some (.ref 0), some (.int a), some (.int 0), some (.int c), some (.int d), some (.int e), some (.int 1), none]) (st' := [.int (-1)]) rfl ?_
        refine g_ret (ins := .ireturn) (len := 1) (r := (some (.int (-1)))) rfl rfl rfl ?_
        refine ⟨⟨_, rfl⟩, ?_⟩
        refine g_in (M := x_M495) (L := [some (.ref 281), some (.int a), some (.int 0), some (.int c), some (.int d), some (.int e), none, none]) x_pl495 rfl ?_
        refine g_n 13 (pc' := 24) (L' := [some (.ref 281), some (.int a), some (.int 0), some (.int c), some (.int d), some (.int e), some (.int 0), none]) (st' := [.int a, .ref 281]) rfl ?_
        refine g_call (ins := .invokevirtual 1015) (len := 3) (j := 488) (as := [.ref 281, .int a]) (rest := []) rfl rfl rfl rfl (fun _ => rfl) rfl ?_
        refine g_in (M := x_M488) (L := [some (.ref 281), some (.int a)]) x_pl488 rfl ?_
        refine g_n 1 (pc' := 1) (L' := [some (.ref 281), some (.int a)]) (st' := [.int a]) rfl ?_
        refine g_brF (c := a < (0 : Int32)) (t := 13) (f := 4) (L' := [some (.ref 281), some (.int a)]) (st' := []) rfl (x_Flt (l := 4) (u := 0) p7 (by decide) (by decide)) ?_
        refine g_n 2 (pc' := 6) (L' := [some (.ref 281), some (.int a)]) (st' := [.int 4, .int a]) rfl ?_
        refine g_brT (c := (4 : Int32) ≤ a) (t := 13) (f := 9) (L' := [some (.ref 281), some (.int a)]) (st' := []) rfl (x_Tle (u := 4) (l := 4) (by decide) p7 (by decide)) ?_
        refine g_n 1 (pc' := 14) (L' := [some (.ref 281), some (.int a)]) (st' := [.int 0]) rfl ?_
        refine g_ret (ins := .ireturn) (len := 1) (r := (some (.int 0))) rfl rfl rfl ?_
        refine g_n 2 (pc' := 59) (L' := [some (.ref 281), some (.int a), some (.int 0), some (.int c), some (.int d), some (.int e), some (.int 0), none]) (st' := [.int (-1)]) rfl ?_
        exact g_ret (ins := .ireturn) (len := 1) (r := (some (.int (-1)))) rfl rfl rfl ⟨_, rfl, rfl, (x_sv_rf _)⟩
      · have p8 : a.toInt ≤ 3 := x_up_lt (x_nle h6) (by decide)
        refine g_n 2 (pc' := 14) (L' := [some (.int a)]) (st' := [.int 1]) rfl ?_
        refine g_ret (ins := .ireturn) (len := 1) (r := (some (.int 1))) rfl rfl rfl ?_
        refine g_n 7 (pc' := 33) (L' := [some (.ref 0), some (.int a), some (.int 0), some (.int c), some (.int d), some (.int e), some (.int 1), none]) (st' := [.int c]) rfl ?_
        refine g_br (c := c < (0 : Int32)) (t := 51) (f := 36) (L' := [some (.ref 0), some (.int a), some (.int 0), some (.int c), some (.int d), some (.int e), some (.int 1), none]) (st' := []) rfl (fun h9 => ?_) (fun h9 => ?_)
        · have p10 : c.toInt ≤ -1 := x_up_lt h9 (by decide)
          refine g_n 1 (pc' := 52) (L' := [some (.ref 0), some (.int a), some (.int 0), some (.int c), some (.int d), some (.int e), some (.int 1), none]) (st' := [.int (-1)]) rfl ?_
          refine g_ret (ins := .ireturn) (len := 1) (r := (some (.int (-1)))) rfl rfl rfl ?_
          refine ⟨⟨_, rfl⟩, ?_⟩
          refine g_in (M := x_M495) (L := [some (.ref 281), some (.int a), some (.int 0), some (.int c), some (.int d), some (.int e), none, none]) x_pl495 rfl ?_
          refine g_n 13 (pc' := 24) (L' := [some (.ref 281), some (.int a), some (.int 0), some (.int c), some (.int d), some (.int e), some (.int 0), none]) (st' := [.int a, .ref 281]) rfl ?_
          refine g_call (ins := .invokevirtual 1015) (len := 3) (j := 488) (as := [.ref 281, .int a]) (rest := []) rfl rfl rfl rfl (fun _ => rfl) rfl ?_
          refine g_in (M := x_M488) (L := [some (.ref 281), some (.int a)]) x_pl488 rfl ?_
          refine g_n 1 (pc' := 1) (L' := [some (.ref 281), some (.int a)]) (st' := [.int a]) rfl ?_
          refine g_brF (c := a < (0 : Int32)) (t := 13) (f := 4) (L' := [some (.ref 281), some (.int a)]) (st' := []) rfl (x_Flt (l := 0) (u := 0) p5 (by decide) (by decide)) ?_
          refine g_n 2 (pc' := 6) (L' := [some (.ref 281), some (.int a)]) (st' := [.int 4, .int a]) rfl ?_
          refine g_brF (c := (4 : Int32) ≤ a) (t := 13) (f := 9) (L' := [some (.ref 281), some (.int a)]) (st' := []) rfl (x_Fle (l := 4) (u := 3) (by decide) p8 (by decide)) ?_
          refine g_n 2 (pc' := 14) (L' := [some (.ref 281), some (.int a)]) (st' := [.int 1]) rfl ?_
          refine g_ret (ins := .ireturn) (len := 1) (r := (some (.int 1))) rfl rfl rfl ?_
          refine g_n 7 (pc' := 40) (L' := [some (.ref 281), some (.int a), some (.int 0), some (.int c), some (.int d), some (.int e), some (.int 0), none]) (st' := [.int c]) rfl ?_
          refine g_brT (c := c < (0 : Int32)) (t := 58) (f := 43) (L' := [some (.ref 281), some (.int a), some (.int 0), some (.int c), some (.int d), some (.int e), some (.int 0), none]) (st' := []) rfl (x_Tlt (u := -1) (l := 0) p10 (by decide) (by decide)) ?_
          refine g_n 1 (pc' := 59) (L' := [some (.ref 281), some (.int a), some (.int 0), some (.int c), some (.int d), some (.int e), some (.int 0), none]) (st' := [.int (-1)]) rfl ?_
          exact g_ret (ins := .ireturn) (len := 1) (r := (some (.int (-1)))) rfl rfl rfl ⟨_, rfl, rfl, (x_sv_rf _)⟩
        · have p11 : 0 ≤ c.toInt := x_lo_le (x_nlt h9) (by decide)
          refine g_n 1 (pc' := 38) (L' := [some (.ref 0), some (.int a), some (.int 0), some (.int c), some (.int d), some (.int e), some (.int 1), none]) (st' := [.int e]) rfl ?_
          refine g_br (c := e < (0 : Int32)) (t := 51) (f := 41) (L' := [some (.ref 0), some (.int a), some (.int 0), some (.int c), some (.int d), some (.int e), some (.int 1), none]) (st' := []) rfl (fun h12 => ?_) (fun h12 => ?_)
          · have p13 : e.toInt ≤ -1 := x_up_lt h12 (by decide)
            refine g_n 1 (pc' := 52) (L' := [some (.ref 0), some (.int a), some (.int 0), some (.int c), some (.int d), some (.int e), some (.int 1), none]) (st' := [.int (-1)]) rfl ?_
            refine g_ret (ins := .ireturn) (len := 1) (r := (some (.int (-1)))) rfl rfl rfl ?_
            refine ⟨⟨_, rfl⟩, ?_⟩
            refine g_in (M := x_M495) (L := [some (.ref 281), some (.int a), some (.int 0), some (.int c), some (.int d), some (.int e), none, none]) x_pl495 rfl ?_
            refine g_n 13 (pc' := 24) (L' := [some (.ref 281), some (.int a), some (.int 0), some (.int c), some (.int d), some (.int e), some (.int 0), none]) (st' := [.int a, .ref 281]) rfl ?_
            refine g_call (ins := .invokevirtual 1015) (len := 3) (j := 488) (as := [.ref 281, .int a]) (rest := []) rfl rfl rfl rfl (fun _ => rfl) rfl ?_
            refine g_in (M := x_M488) (L := [some (.ref 281), some (.int a)]) x_pl488 rfl ?_
            refine g_n 1 (pc' := 1) (L' := [some (.ref 281), some (.int a)]) (st' := [.int a]) rfl ?_
            refine g_brF (c := a < (0 : Int32)) (t := 13) (f := 4) (L' := [some (.ref 281), some (.int a)]) (st' := []) rfl (x_Flt (l := 0) (u := 0) p5 (by decide) (by decide)) ?_
            refine g_n 2 (pc' := 6) (L' := [some (.ref 281), some (.int a)]) (st' := [.int 4, .int a]) rfl ?_
            refine g_brF (c := (4 : Int32) ≤ a) (t := 13) (f := 9) (L' := [some (.ref 281), some (.int a)]) (st' := []) rfl (x_Fle (l := 4) (u := 3) (by decide) p8 (by decide)) ?_
            refine g_n 2 (pc' := 14) (L' := [some (.ref 281), some (.int a)]) (st' := [.int 1]) rfl ?_
            refine g_ret (ins := .ireturn) (len := 1) (r := (some (.int 1))) rfl rfl rfl ?_
            refine g_n 7 (pc' := 40) (L' := [some (.ref 281), some (.int a), some (.int 0), some (.int c), some (.int d), some (.int e), some (.int 0), none]) (st' := [.int c]) rfl ?_
            refine g_brF (c := c < (0 : Int32)) (t := 58) (f := 43) (L' := [some (.ref 281), some (.int a), some (.int 0), some (.int c), some (.int d), some (.int e), some (.int 0), none]) (st' := []) rfl (x_Flt (l := 0) (u := 0) p11 (by decide) (by decide)) ?_
            refine g_n 3 (pc' := 55) (L' := [some (.ref 281), some (.int a), some (.int 0), some (.int c), some (.int d), some (.int e), some (.int 0), none]) (st' := [.int e]) rfl ?_
            refine g_brF (c := (0 : Int32) ≤ e) (t := 60) (f := 58) (L' := [some (.ref 281), some (.int a), some (.int 0), some (.int c), some (.int d), some (.int e), some (.int 0), none]) (st' := []) rfl (x_Fle (l := 0) (u := -1) (by decide) p13 (by decide)) ?_
            refine g_n 1 (pc' := 59) (L' := [some (.ref 281), some (.int a), some (.int 0), some (.int c), some (.int d), some (.int e), some (.int 0), none]) (st' := [.int (-1)]) rfl ?_
            exact g_ret (ins := .ireturn) (len := 1) (r := (some (.int (-1)))) rfl rfl rfl ⟨_, rfl, rfl, (x_sv_rf _)⟩
          · have p14 : 0 ≤ e.toInt := x_lo_le (x_nlt h12) (by decide)
            refine g_n 5 (pc' := 58) (L' := [some (.ref 0), some (.int a), some (.int 0), some (.int c), some (.int d), some (.int e), some (.int 1), none]) (st' := [.int a, .ref 2]) rfl ?_
            by_cases h15 : a = 0
            · have e16 : a = 0 := h15
              subst e16
              refine g_aa (i := 0) (a := 2) (n := 4) (v := 27) rfl rfl (by decide) (x_at (x_f2 hF) (k := 0) rfl) ?_
              refine g_n 5 (pc' := 71) (L' := [some (.ref 0), some (.int 0), some (.int 0), some (.int c), some (.int d), some (.int e), some (.int 1), some (.ref 27)]) (st' := [.int (-2)]) rfl ?_
              refine g_ret (ins := .ireturn) (len := 1) (r := (some (.int (-2)))) rfl rfl rfl ?_
              refine ⟨⟨_, rfl⟩, ?_⟩
              refine g_in (M := x_M495) (L := [some (.ref 281), some (.int 0), some (.int 0), some (.int c), some (.int d), some (.int e), none, none]) x_pl495 rfl ?_
              refine g_n 13 (pc' := 24) (L' := [some (.ref 281), some (.int 0), some (.int 0), some (.int c), some (.int d), some (.int e), some (.int 0), none]) (st' := [.int 0, .ref 281]) rfl ?_
              refine g_call (ins := .invokevirtual 1015) (len := 3) (j := 488) (as := [.ref 281, .int 0]) (rest := []) rfl rfl rfl rfl (fun _ => rfl) rfl ?_
              refine g_in (M := x_M488) (L := [some (.ref 281), some (.int 0)]) x_pl488 rfl ?_
              refine g_n 7 (pc' := 14) (L' := [some (.ref 281), some (.int 0)]) (st' := [.int 1]) rfl ?_
              refine g_ret (ins := .ireturn) (len := 1) (r := (some (.int 1))) rfl rfl rfl ?_
              refine g_n 7 (pc' := 40) (L' := [some (.ref 281), some (.int 0), some (.int 0), some (.int c), some (.int d), some (.int e), some (.int 0), none]) (st' := [.int c]) rfl ?_
              refine g_brF (c := c < (0 : Int32)) (t := 58) (f := 43) (L' := [some (.ref 281), some (.int 0), some (.int 0), some (.int c), some (.int d), some (.int e), some (.int 0), none]) (st' := []) rfl (x_Flt (l := 0) (u := 0) p11 (by decide) (by decide)) ?_
              refine g_n 3 (pc' := 55) (L' := [some (.ref 281), some (.int 0), some (.int 0), some (.int c), some (.int d), some (.int e), some (.int 0), none]) (st' := [.int e]) rfl ?_
              refine g_brT (c := (0 : Int32) ≤ e) (t := 60) (f := 58) (L' := [some (.ref 281), some (.int 0), some (.int 0), some (.int c), some (.int d), some (.int e), some (.int 0), none]) (st' := []) rfl (x_Tle (u := 0) (l := 0) (by decide) p14 (by decide)) ?_
              refine g_n 6 (pc' := 71) (L' := [some (.ref 281), some (.int 0), some (.int 0), some (.int c), some (.int d), some (.int e), some (.int 0), none]) (st' := [.int (-2)]) rfl ?_
              exact g_ret (ins := .ireturn) (len := 1) (r := (some (.int (-2)))) rfl rfl rfl ⟨_, rfl, rfl, (x_sv_rf _)⟩
            · have q17 : ¬ a = 0 := h15
              have p18 : 1 ≤ a.toInt := x_lo_ne q17 p5 (by decide)
              by_cases h19 : a = 1
              · have e20 : a = 1 := h19
                subst e20
                refine g_aa (i := 1) (a := 2) (n := 4) (v := 50) rfl rfl (by decide) (x_at (x_f2 hF) (k := 1) rfl) ?_
                refine g_n 5 (pc' := 71) (L' := [some (.ref 0), some (.int 1), some (.int 0), some (.int c), some (.int d), some (.int e), some (.int 1), some (.ref 50)]) (st' := [.int (-2)]) rfl ?_
                refine g_ret (ins := .ireturn) (len := 1) (r := (some (.int (-2)))) rfl rfl rfl ?_
                refine ⟨⟨_, rfl⟩, ?_⟩
                refine g_in (M := x_M495) (L := [some (.ref 281), some (.int 1), some (.int 0), some (.int c), some (.int d), some (.int e), none, none]) x_pl495 rfl ?_
                refine g_n 13 (pc' := 24) (L' := [some (.ref 281), some (.int 1), some (.int 0), some (.int c), some (.int d), some (.int e), some (.int 0), none]) (st' := [.int 1, .ref 281]) rfl ?_
                refine g_call (ins := .invokevirtual 1015) (len := 3) (j := 488) (as := [.ref 281, .int 1]) (rest := []) rfl rfl rfl rfl (fun _ => rfl) rfl ?_
                refine g_in (M := x_M488) (L := [some (.ref 281), some (.int 1)]) x_pl488 rfl ?_
                refine g_n 7 (pc' := 14) (L' := [some (.ref 281), some (.int 1)]) (st' := [.int 1]) rfl ?_
                refine g_ret (ins := .ireturn) (len := 1) (r := (some (.int 1))) rfl rfl rfl ?_
                refine g_n 7 (pc' := 40) (L' := [some (.ref 281), some (.int 1), some (.int 0), some (.int c), some (.int d), some (.int e), some (.int 0), none]) (st' := [.int c]) rfl ?_
                refine g_brF (c := c < (0 : Int32)) (t := 58) (f := 43) (L' := [some (.ref 281), some (.int 1), some (.int 0), some (.int c), some (.int d), some (.int e), some (.int 0), none]) (st' := []) rfl (x_Flt (l := 0) (u := 0) p11 (by decide) (by decide)) ?_
                refine g_n 3 (pc' := 55) (L' := [some (.ref 281), some (.int 1), some (.int 0), some (.int c), some (.int d), some (.int e), some (.int 0), none]) (st' := [.int e]) rfl ?_
                refine g_brT (c := (0 : Int32) ≤ e) (t := 60) (f := 58) (L' := [some (.ref 281), some (.int 1), some (.int 0), some (.int c), some (.int d), some (.int e), some (.int 0), none]) (st' := []) rfl (x_Tle (u := 0) (l := 0) (by decide) p14 (by decide)) ?_
                refine g_n 6 (pc' := 71) (L' := [some (.ref 281), some (.int 1), some (.int 0), some (.int c), some (.int d), some (.int e), some (.int 0), none]) (st' := [.int (-2)]) rfl ?_
                exact g_ret (ins := .ireturn) (len := 1) (r := (some (.int (-2)))) rfl rfl rfl ⟨_, rfl, rfl, (x_sv_rf _)⟩
              · have q21 : ¬ a = 1 := h19
                have p22 : 2 ≤ a.toInt := x_lo_ne q21 p18 (by decide)
                by_cases h23 : a = 2
                · have e24 : a = 2 := h23
                  subst e24
                  refine g_aa (i := 2) (a := 2) (n := 4) (v := 73) rfl rfl (by decide) (x_at (x_f2 hF) (k := 2) rfl) ?_
                  refine g_n 5 (pc' := 71) (L' := [some (.ref 0), some (.int 2), some (.int 0), some (.int c), some (.int d), some (.int e), some (.int 1), some (.ref 73)]) (st' := [.int (-2)]) rfl ?_
                  refine g_ret (ins := .ireturn) (len := 1) (r := (some (.int (-2)))) rfl rfl rfl ?_
                  refine ⟨⟨_, rfl⟩, ?_⟩
                  refine g_in (M := x_M495) (L := [some (.ref 281), some (.int 2), some (.int 0), some (.int c), some (.int d), some (.int e), none, none]) x_pl495 rfl ?_
                  refine g_n 13 (pc' := 24) (L' := [some (.ref 281), some (.int 2), some (.int 0), some (.int c), some (.int d), some (.int e), some (.int 0), none]) (st' := [.int 2, .ref 281]) rfl ?_
                  refine g_call (ins := .invokevirtual 1015) (len := 3) (j := 488) (as := [.ref 281, .int 2]) (rest := []) rfl rfl rfl rfl (fun _ => rfl) rfl ?_
                  refine g_in (M := x_M488) (L := [some (.ref 281), some (.int 2)]) x_pl488 rfl ?_
                  refine g_n 7 (pc' := 14) (L' := [some (.ref 281), some (.int 2)]) (st' := [.int 1]) rfl ?_
                  refine g_ret (ins := .ireturn) (len := 1) (r := (some (.int 1))) rfl rfl rfl ?_
                  refine g_n 7 (pc' := 40) (L' := [some (.ref 281), some (.int 2), some (.int 0), some (.int c), some (.int d), some (.int e), some (.int 0), none]) (st' := [.int c]) rfl ?_
                  refine g_brF (c := c < (0 : Int32)) (t := 58) (f := 43) (L' := [some (.ref 281), some (.int 2), some (.int 0), some (.int c), some (.int d), some (.int e), some (.int 0), none]) (st' := []) rfl (x_Flt (l := 0) (u := 0) p11 (by decide) (by decide)) ?_
                  refine g_n 3 (pc' := 55) (L' := [some (.ref 281), some (.int 2), some (.int 0), some (.int c), some (.int d), some (.int e), some (.int 0), none]) (st' := [.int e]) rfl ?_
                  refine g_brT (c := (0 : Int32) ≤ e) (t := 60) (f := 58) (L' := [some (.ref 281), some (.int 2), some (.int 0), some (.int c), some (.int d), some (.int e), some (.int 0), none]) (st' := []) rfl (x_Tle (u := 0) (l := 0) (by decide) p14 (by decide)) ?_
                  refine g_n 6 (pc' := 71) (L' := [some (.ref 281), some (.int 2), some (.int 0), some (.int c), some (.int d), some (.int e), some (.int 0), none]) (st' := [.int (-2)]) rfl ?_
                  exact g_ret (ins := .ireturn) (len := 1) (r := (some (.int (-2)))) rfl rfl rfl ⟨_, rfl, rfl, (x_sv_rf _)⟩
                · have q25 : ¬ a = 2 := h23
                  have p26 : 3 ≤ a.toInt := x_lo_ne q25 p22 (by decide)
                  have e27 : a = 3 := x_sing p26 p8 (by decide)
                  subst e27
                  refine g_aa (i := 3) (a := 2) (n := 4) (v := 96) rfl rfl (by decide) (x_at (x_f2 hF) (k := 3) rfl) ?_
                  refine g_n 5 (pc' := 71) (L' := [some (.ref 0), some (.int 3), some (.int 0), some (.int c), some (.int d), some (.int e), some (.int 1), some (.ref 96)]) (st' := [.int (-2)]) rfl ?_
                  refine g_ret (ins := .ireturn) (len := 1) (r := (some (.int (-2)))) rfl rfl rfl ?_
                  refine ⟨⟨_, rfl⟩, ?_⟩
                  refine g_in (M := x_M495) (L := [some (.ref 281), some (.int 3), some (.int 0), some (.int c), some (.int d), some (.int e), none, none]) x_pl495 rfl ?_
                  refine g_n 13 (pc' := 24) (L' := [some (.ref 281), some (.int 3), some (.int 0), some (.int c), some (.int d), some (.int e), some (.int 0), none]) (st' := [.int 3, .ref 281]) rfl ?_
                  refine g_call (ins := .invokevirtual 1015) (len := 3) (j := 488) (as := [.ref 281, .int 3]) (rest := []) rfl rfl rfl rfl (fun _ => rfl) rfl ?_
                  refine g_in (M := x_M488) (L := [some (.ref 281), some (.int 3)]) x_pl488 rfl ?_
                  refine g_n 7 (pc' := 14) (L' := [some (.ref 281), some (.int 3)]) (st' := [.int 1]) rfl ?_
                  refine g_ret (ins := .ireturn) (len := 1) (r := (some (.int 1))) rfl rfl rfl ?_
                  refine g_n 7 (pc' := 40) (L' := [some (.ref 281), some (.int 3), some (.int 0), some (.int c), some (.int d), some (.int e), some (.int 0), none]) (st' := [.int c]) rfl ?_
                  refine g_brF (c := c < (0 : Int32)) (t := 58) (f := 43) (L' := [some (.ref 281), some (.int 3), some (.int 0), some (.int c), some (.int d), some (.int e), some (.int 0), none]) (st' := []) rfl (x_Flt (l := 0) (u := 0) p11 (by decide) (by decide)) ?_
                  refine g_n 3 (pc' := 55) (L' := [some (.ref 281), some (.int 3), some (.int 0), some (.int c), some (.int d), some (.int e), some (.int 0), none]) (st' := [.int e]) rfl ?_
                  refine g_brT (c := (0 : Int32) ≤ e) (t := 60) (f := 58) (L' := [some (.ref 281), some (.int 3), some (.int 0), some (.int c), some (.int d), some (.int e), some (.int 0), none]) (st' := []) rfl (x_Tle (u := 0) (l := 0) (by decide) p14 (by decide)) ?_
                  refine g_n 6 (pc' := 71) (L' := [some (.ref 281), some (.int 3), some (.int 0), some (.int c), some (.int d), some (.int e), some (.int 0), none]) (st' := [.int (-2)]) rfl ?_
                  exact g_ret (ins := .ireturn) (len := 1) (r := (some (.int (-2)))) rfl rfl rfl ⟨_, rfl, rfl, (x_sv_rf _)⟩
  · have q28 : ¬ b = 0 := h1
    refine g_n 2 (pc' := 6) (L' := [some (.ref 0), some (.int a), some (.int b), some (.int c), some (.int d), some (.int e), none, none]) (st' := [.int 3, .int b]) rfl ?_
    refine g_br (c := b ≠ (3 : Int32)) (t := 13) (f := 9) (L' := [some (.ref 0), some (.int a), some (.int b), some (.int c), some (.int d), some (.int e), none, none]) (st' := []) rfl (fun h29 => ?_) (fun h29 => ?_)
    · have q30 : ¬ b = 3 := h29
      refine g_n 3 (pc' := 17) (L' := [some (.ref 0), some (.int a), some (.int b), some (.int c), some (.int d), some (.int e), some (.int 0), none]) (st' := [.int a]) rfl ?_
      refine g_call (ins := .invokestatic 173) (len := 3) (j := 348) (as := [.int a]) (rest := []) rfl rfl rfl rfl (fun _ => rfl) rfl ?_
      refine g_in (M := x_M348) (L := [some (.int a)]) x_pl348 rfl ?_
      refine g_n 1 (pc' := 1) (L' := [some (.int a)]) (st' := [.int a]) rfl ?_
      refine g_br (c := a < (0 : Int32)) (t := 13) (f := 4) (L' := [some (.int a)]) (st' := []) rfl (fun h31 => ?_) (fun h31 => ?_)
      · have p32 : a.toInt ≤ -1 := x_up_lt h31 (by decide)
        refine g_n 1 (pc' := 14) (L' := [some (.int a)]) (st' := [.int 0]) rfl ?_
        refine g_ret (ins := .ireturn) (len := 1) (r := (some (.int 0))) rfl rfl rfl ?_
        refine g_n 2 (pc' := 52) (L' := [some (.ref 0), some (.int a), some (.int b), some (.int c), some (.int d), some (.int e), some (.int 0), none]) (st' := [.int (-1)]) rfl ?_
        refine g_ret (ins := .ireturn) (len := 1) (r := (some (.int (-1)))) rfl rfl rfl ?_
        refine ⟨⟨_, rfl⟩, ?_⟩
        refine g_in (M := x_M495) (L := [some (.ref 281), some (.int a), some (.int b), some (.int c), some (.int d), some (.int e), none, none]) x_pl495 rfl ?_
        refine g_n 2 (pc' := 2) (L' := [some (.ref 281), some (.int a), some (.int b), some (.int c), some (.int d), some (.int e), none, none]) (st' := [.int 1, .int b]) rfl ?_
        refine g_br (c := b = (1 : Int32)) (t := 15) (f := 5) (L' := [some (.ref 281), some (.int a), some (.int b), some (.int c), some (.int d), some (.int e), none, none]) (st' := []) rfl (fun h33 => ?_) (fun h33 => ?_)
        · have e34 : b = 1 := h33
          subst e34
          refine g_n 5 (pc' := 24) (L' := [some (.ref 281), some (.int a), some (.int 1), some (.int c), some (.int d), some (.int e), some (.int 1), none]) (st' := [.int a, .ref 281]) rfl ?_
          refine g_call (ins := .invokevirtual 1015) (len := 3) (j := 488) (as := [.ref 281, .int a]) (rest := []) rfl rfl rfl rfl (fun _ => rfl) rfl ?_
          refine g_in (M := x_M488) (L := [some (.ref 281), some (.int a)]) x_pl488 rfl ?_
          refine g_n 1 (pc' := 1) (L' := [some (.ref 281), some (.int a)]) (st' := [.int a]) rfl ?_
          refine g_brT (c := a < (0 : Int32)) (t := 13) (f := 4) (L' := [some (.ref 281), some (.int a)]) (st' := []) rfl (x_Tlt (u := -1) (l := 0) p32 (by decide) (by decide)) ?_
          refine g_n 1 (pc' := 14) (L' := [some (.ref 281), some (.int a)]) (st' := [.int 0]) rfl ?_
          refine g_ret (ins := .ireturn) (len := 1) (r := (some (.int 0))) rfl rfl rfl ?_
          refine g_n 2 (pc' := 59) (L' := [some (.ref 281), some (.int a), some (.int 1), some (.int c), some (.int d), some (.int e), some (.int 1), none]) (st' := [.int (-1)]) rfl ?_
          exact g_ret (ins := .ireturn) (len := 1) (r := (some (.int (-1)))) rfl rfl rfl ⟨_, rfl, rfl, (x_sv_rf _)⟩
        · have q35 : ¬ b = 1 := h33
          refine g_n 2 (pc' := 7) (L' := [some (.ref 281), some (.int a), some (.int b), some (.int c), some (.int d), some (.int e), none, none]) (st' := [.int 2, .int b]) rfl ?_
          refine g_br (c := b = (2 : Int32)) (t := 15) (f := 10) (L' := [some (.ref 281), some (.int a), some (.int b), some (.int c), some (.int d), some (.int e), none, none]) (st' := []) rfl (fun h36 => ?_) (fun h36 => ?_)
          · have e37 : b = 2 := h36
            subst e37
            refine g_n 5 (pc' := 24) (L' := [some (.ref 281), some (.int a), some (.int 2), some (.int c), some (.int d), some (.int e), some (.int 1), none]) (st' := [.int a, .ref 281]) rfl ?_
            refine g_call (ins := .invokevirtual 1015) (len := 3) (j := 488) (as := [.ref 281, .int a]) (rest := []) rfl rfl rfl rfl (fun _ => rfl) rfl ?_
            refine g_in (M := x_M488) (L := [some (.ref 281), some (.int a)]) x_pl488 rfl ?_
            refine g_n 1 (pc' := 1) (L' := [some (.ref 281), some (.int a)]) (st' := [.int a]) rfl ?_
            refine g_brT (c := a < (0 : Int32)) (t := 13) (f := 4) (L' := [some (.ref 281), some (.int a)]) (st' := []) rfl (x_Tlt (u := -1) (l := 0) p32 (by decide) (by decide)) ?_
            refine g_n 1 (pc' := 14) (L' := [some (.ref 281), some (.int a)]) (st' := [.int 0]) rfl ?_
            refine g_ret (ins := .ireturn) (len := 1) (r := (some (.int 0))) rfl rfl rfl ?_
            refine g_n 2 (pc' := 59) (L' := [some (.ref 281), some (.int a), some (.int 2), some (.int c), some (.int d), some (.int e), some (.int 1), none]) (st' := [.int (-1)]) rfl ?_
            exact g_ret (ins := .ireturn) (len := 1) (r := (some (.int (-1)))) rfl rfl rfl ⟨_, rfl, rfl, (x_sv_rf _)⟩
          · have q38 : ¬ b = 2 := h36
            refine g_n 2 (pc' := 12) (L' := [some (.ref 281), some (.int a), some (.int b), some (.int c), some (.int d), some (.int e), none, none]) (st' := [.int 3, .int b]) rfl ?_
            refine g_br (c := b ≤ (3 : Int32)) (t := 19) (f := 15) (L' := [some (.ref 281), some (.int a), some (.int b), some (.int c), some (.int d), some (.int e), none, none]) (st' := []) rfl (fun h39 => ?_) (fun h39 => ?_)
            · have p40 : b.toInt ≤ 3 := x_up_le h39 (by decide)
              refine g_n 4 (pc' := 24) (L' := [some (.ref 281), some (.int a), some (.int b), some (.int c), some (.int d), some (.int e), some (.int 0), none]) (st' := [.int a, .ref 281]) rfl ?_
              refine g_call (ins := .invokevirtual 1015) (len := 3) (j := 488) (as := [.ref 281, .int a]) (rest := []) rfl rfl rfl rfl (fun _ => rfl) rfl ?_
              refine g_in (M := x_M488) (L := [some (.ref 281), some (.int a)]) x_pl488 rfl ?_
              refine g_n 1 (pc' := 1) (L' := [some (.ref 281), some (.int a)]) (st' := [.int a]) rfl ?_
              refine g_brT (c := a < (0 : Int32)) (t := 13) (f := 4) (L' := [some (.ref 281), some (.int a)]) (st' := []) rfl (x_Tlt (u := -1) (l := 0) p32 (by decide) (by decide)) ?_
              refine g_n 1 (pc' := 14) (L' := [some (.ref 281), some (.int a)]) (st' := [.int 0]) rfl ?_
              refine g_ret (ins := .ireturn) (len := 1) (r := (some (.int 0))) rfl rfl rfl ?_
              refine g_n 2 (pc' := 59) (L' := [some (.ref 281), some (.int a), some (.int b), some (.int c), some (.int d), some (.int e), some (.int 0), none]) (st' := [.int (-1)]) rfl ?_
              exact g_ret (ins := .ireturn) (len := 1) (r := (some (.int (-1)))) rfl rfl rfl ⟨_, rfl, rfl, (x_sv_rf _)⟩
            · have p41 : 4 ≤ b.toInt := x_lo_lt (x_nle h39) (by decide)
              refine g_n 5 (pc' := 24) (L' := [some (.ref 281), some (.int a), some (.int b), some (.int c), some (.int d), some (.int e), some (.int 1), none]) (st' := [.int a, .ref 281]) rfl ?_
              refine g_call (ins := .invokevirtual 1015) (len := 3) (j := 488) (as := [.ref 281, .int a]) (rest := []) rfl rfl rfl rfl (fun _ => rfl) rfl ?_
              refine g_in (M := x_M488) (L := [some (.ref 281), some (.int a)]) x_pl488 rfl ?_
              refine g_n 1 (pc' := 1) (L' := [some (.ref 281), some (.int a)]) (st' := [.int a]) rfl ?_
              refine g_brT (c := a < (0 : Int32)) (t := 13) (f := 4) (L' := [some (.ref 281), some (.int a)]) (st' := []) rfl (x_Tlt (u := -1) (l := 0) p32 (by decide) (by decide)) ?_
              refine g_n 1 (pc' := 14) (L' := [some (.ref 281), some (.int a)]) (st' := [.int 0]) rfl ?_
              refine g_ret (ins := .ireturn) (len := 1) (r := (some (.int 0))) rfl rfl rfl ?_
              refine g_n 2 (pc' := 59) (L' := [some (.ref 281), some (.int a), some (.int b), some (.int c), some (.int d), some (.int e), some (.int 1), none]) (st' := [.int (-1)]) rfl ?_
              exact g_ret (ins := .ireturn) (len := 1) (r := (some (.int (-1)))) rfl rfl rfl ⟨_, rfl, rfl, (x_sv_rf _)⟩
      · have p42 : 0 ≤ a.toInt := x_lo_le (x_nlt h31) (by decide)
        refine g_n 2 (pc' := 6) (L' := [some (.int a)]) (st' := [.int 4, .int a]) rfl ?_
        refine g_br (c := (4 : Int32) ≤ a) (t := 13) (f := 9) (L' := [some (.int a)]) (st' := []) rfl (fun h43 => ?_) (fun h43 => ?_)
        · have p44 : 4 ≤ a.toInt := x_lo_le h43 (by decide)
          refine g_n 1 (pc' := 14) (L' := [some (.int a)]) (st' := [.int 0]) rfl ?_
          refine g_ret (ins := .ireturn) (len := 1) (r := (some (.int 0))) rfl rfl rfl ?_
          refine g_n 2 (pc' := 52) (L' := [some (.ref 0), some (.int a), some (.int b), some (.int c), some (.int d), some (.int e), some (.int 0), none]) (st' := [.int (-1)]) rfl ?_
          refine g_ret (ins := .ireturn) (len := 1) (r := (some (.int (-1)))) rfl rfl rfl ?_
          refine ⟨⟨_, rfl⟩, ?_⟩
          refine g_in (M := x_M495) (L := [some (.ref 281), some (.int a), some (.int b), some (.int c), some (.int d), some (.int e), none, none]) x_pl495 rfl ?_
          refine g_n 2 (pc' := 2) (L' := [some (.ref 281), some (.int a), some (.int b), some (.int c), some (.int d), some (.int e), none, none]) (st' := [.int 1, .int b]) rfl ?_
          refine g_br (c := b = (1 : Int32)) (t := 15) (f := 5) (L' := [some (.ref 281), some (.int a), some (.int b), some (.int c), some (.int d), some (.int e), none, none]) (st' := []) rfl (fun h45 => ?_) (fun h45 => ?_)
          · have e46 : b = 1 := h45
            subst e46
            refine g_n 5 (pc' := 24) (L' := [some (.ref 281), some (.int a), some (.int 1), some (.int c), some (.int d), some (.int e), some (.int 1), none]) (st' := [.int a, .ref 281]) rfl ?_
            refine g_call (ins := .invokevirtual 1015) (len := 3) (j := 488) (as := [.ref 281, .int a]) (rest := []) rfl rfl rfl rfl (fun _ => rfl) rfl ?_
            refine g_in (M := x_M488) (L := [some (.ref 281), some (.int a)]) x_pl488 rfl ?_
            refine g_n 1 (pc' := 1) (L' := [some (.ref 281), some (.int a)]) (st' := [.int a]) rfl ?_
            refine g_brF (c := a < (0 : Int32)) (t := 13) (f := 4) (L' := [some (.ref 281), some (.int a)]) (st' := []) rfl (x_Flt (l := 4) (u := 0) p44 (by decide) (by decide)) ?_
            refine g_n 2 (pc' := 6) (L' := [some (.ref 281), some (.int a)]) (st' := [.int 4, .int a]) rfl ?_
            refine g_brT (c := (4 : Int32) ≤ a) (t := 13) (f := 9) (L' := [some (.ref 281), some (.int a)]) (st' := []) rfl (x_Tle (u := 4) (l := 4) (by decide) p44 (by decide)) ?_
            refine g_n 1 (pc' := 14) (L' := [some (.ref 281), some (.int a)]) (st' := [.int 0]) rfl ?_
            refine g_ret (ins := .ireturn) (len := 1) (r := (some (.int 0))) rfl rfl rfl ?_
            refine g_n 2 (pc' := 59) (L' := [some (.ref 281), some (.int a), some (.int 1), some (.int c), some (.int d), some (.int e), some (.int 1), none]) (st' := [.int (-1)]) rfl ?_
            exact g_ret (ins := .ireturn) (len := 1) (r := (some (.int (-1)))) rfl rfl rfl ⟨_, rfl, rfl, (x_sv_rf _)⟩
          · have q47 : ¬ b = 1 := h45
            refine g_n 2 (pc' := 7) (L' := [some (.ref 281), some (.int a), some (.int b), some (.int c), some (.int d), some (.int e), none, none]) (st' := [.int 2, .int b]) rfl ?_
            refine g_br (c := b = (2 : Int32)) (t := 15) (f := 10) (L' := [some (.ref 281), some (.int a), some (.int b), some (.int c), some (.int d), some (.int e), none, none]) (st' := []) rfl (fun h48 => ?_) (fun h48 => ?_)
            · have e49 : b = 2 := h48
              subst e49
              refine g_n 5 (pc' := 24) (L' := [some (.ref 281), some (.int a), some (.int 2), some (.int c), some (.int d), some (.int e), some (.int 1), none]) (st' := [.int a, .ref 281]) rfl ?_
              refine g_call (ins := .invokevirtual 1015) (len := 3) (j := 488) (as := [.ref 281, .int a]) (rest := []) rfl rfl rfl rfl (fun _ => rfl) rfl ?_
              refine g_in (M := x_M488) (L := [some (.ref 281), some (.int a)]) x_pl488 rfl ?_
              refine g_n 1 (pc' := 1) (L' := [some (.ref 281), some (.int a)]) (st' := [.int a]) rfl ?_
              refine g_brF (c := a < (0 : Int32)) (t := 13) (f := 4) (L' := [some (.ref 281), some (.int a)]) (st' := []) rfl (x_Flt (l := 4) (u := 0) p44 (by decide) (by decide)) ?_
              refine g_n 2 (pc' := 6) (L' := [some (.ref 281), some (.int a)]) (st' := [.int 4, .int a]) rfl ?_
              refine g_brT (c := (4 : Int32) ≤ a) (t := 13) (f := 9) (L' := [some (.ref 281), some (.int a)]) (st' := []) rfl (x_Tle (u := 4) (l := 4) (by decide) p44 (by decide)) ?_
              refine g_n 1 (pc' := 14) (L' := [some (.ref 281), some (.int a)]) (st' := [.int 0]) rfl ?_
              refine g_ret (ins := .ireturn) (len := 1) (r := (some (.int 0))) rfl rfl rfl ?_
              refine g_n 2 (pc' := 59) (L' := [some (.ref 281), some (.int a), some (.int 2), some (.int c), some (.int d), some (.int e), some (.int 1), none]) (st' := [.int (-1)]) rfl ?_
              exact g_ret (ins := .ireturn) (len := 1) (r := (some (.int (-1)))) rfl rfl rfl ⟨_, rfl, rfl, (x_sv_rf _)⟩
            · have q50 : ¬ b = 2 := h48
              refine g_n 2 (pc' := 12) (L' := [some (.ref 281), some (.int a), some (.int b), some (.int c), some (.int d), some (.int e), none, none]) (st' := [.int 3, .int b]) rfl ?_
              refine g_br (c := b ≤ (3 : Int32)) (t := 19) (f := 15) (L' := [some (.ref 281), some (.int a), some (.int b), some (.int c), some (.int d), some (.int e), none, none]) (st' := []) rfl (fun h51 => ?_) (fun h51 => ?_)
              · have p52 : b.toInt ≤ 3 := x_up_le h51 (by decide)
                refine g_n 4 (pc' := 24) (L' := [some (.ref 281), some (.int a), some (.int b), some (.int c), some (.int d), some (.int e), some (.int 0), none]) (st' := [.int a, .ref 281]) rfl ?_
                refine g_call (ins := .invokevirtual 1015) (len := 3) (j := 488) (as := [.ref 281, .int a]) (rest := []) rfl rfl rfl rfl (fun _ => rfl) rfl ?_
                refine g_in (M := x_M488) (L := [some (.ref 281), some (.int a)]) x_pl488 rfl ?_
                refine g_n 1 (pc' := 1) (L' := [some (.ref 281), some (.int a)]) (st' := [.int a]) rfl ?_
                refine g_brF (c := a < (0 : Int32)) (t := 13) (f := 4) (L' := [some (.ref 281), some (.int a)]) (st' := []) rfl (x_Flt (l := 4) (u := 0) p44 (by decide) (by decide)) ?_
                refine g_n 2 (pc' := 6) (L' := [some (.ref 281), some (.int a)]) (st' := [.int 4, .int a]) rfl ?_
                refine g_brT (c := (4 : Int32) ≤ a) (t := 13) (f := 9) (L' := [some (.ref 281), some (.int a)]) (st' := []) rfl (x_Tle (u := 4) (l := 4) (by decide) p44 (by decide)) ?_
                refine g_n 1 (pc' := 14) (L' := [some (.ref 281), some (.int a)]) (st' := [.int 0]) rfl ?_
                refine g_ret (ins := .ireturn) (len := 1) (r := (some (.int 0))) rfl rfl rfl ?_
                refine g_n 2 (pc' := 59) (L' := [some (.ref 281), some (.int a), some (.int b), some (.int c), some (.int d), some (.int e), some (.int 0), none]) (st' := [.int (-1)]) rfl ?_
                exact g_ret (ins := .ireturn) (len := 1) (r := (some (.int (-1)))) rfl rfl rfl ⟨_, rfl, rfl, (x_sv_rf _)⟩
              · have p53 : 4 ≤ b.toInt := x_lo_lt (x_nle h51) (by decide)
                refine g_n 5 (pc' := 24) (L' := [some (.ref 281), some (.int a), some (.int b), some (.int c), some (.int d), some (.int e), some (.int 1), none]) (st' := [.int a, .ref 281]) rfl ?_
                refine g_call (ins := .invokevirtual 1015) (len := 3) (j := 488) (as := [.ref 281, .int a]) (rest := []) rfl rfl rfl rfl (fun _ => rfl) rfl ?_
                refine g_in (M := x_M488) (L := [some (.ref 281), some (.int a)]) x_pl488 rfl ?_
                refine g_n 1 (pc' := 1) (L' := [some (.ref 281), some (.int a)]) (st' := [.int a]) rfl ?_
                refine g_brF (c := a < (0 : Int32)) (t := 13) (f := 4) (L' := [some (.ref 281), some (.int a)]) (st' := []) rfl (x_Flt (l := 4) (u := 0) p44 (by decide) (by decide)) ?_
                refine g_n 2 (pc' := 6) (L' := [some (.ref 281), some (.int a)]) (st' := [.int 4, .int a]) rfl ?_
                refine g_brT (c := (4 : Int32) ≤ a) (t := 13) (f := 9) (L' := [some (.ref 281), some (.int a)]) (st' := []) rfl (x_Tle (u := 4) (l := 4) (by decide) p44 (by decide)) ?_
                refine g_n 1 (pc' := 14) (L' := [some (.ref 281), some (.int a)]) (st' := [.int 0]) rfl ?_
                refine g_ret (ins := .ireturn) (len := 1) (r := (some (.int 0))) rfl rfl rfl ?_
                refine g_n 2 (pc' := 59) (L' := [some (.ref 281), some (.int a), some (.int b), some (.int c), some (.int d), some (.int e), some (.int 1), none]) (st' := [.int (-1)]) rfl ?_
                exact g_ret (ins := .ireturn) (len := 1) (r := (some (.int (-1)))) rfl rfl rfl ⟨_, rfl, rfl, (x_sv_rf _)⟩
        · have p54 : a.toInt ≤ 3 := x_up_lt (x_nle h43) (by decide)
          refine g_n 2 (pc' := 14) (L' := [some (.int a)]) (st' := [.int 1]) rfl ?_
          refine g_ret (ins := .ireturn) (len := 1) (r := (some (.int 1))) rfl rfl rfl ?_
          refine g_n 2 (pc' := 24) (L' := [some (.ref 0), some (.int a), some (.int b), some (.int c), some (.int d), some (.int e), some (.int 0), none]) (st' := [.int b]) rfl ?_
          refine g_br (c := b < (0 : Int32)) (t := 51) (f := 27) (L' := [some (.ref 0), some (.int a), some (.int b), some (.int c), some (.int d), some (.int e), some (.int 0), none]) (st' := []) rfl (fun h55 => ?_) (fun h55 => ?_)
          · have p56 : b.toInt ≤ -1 := x_up_lt h55 (by decide)
            refine g_n 1 (pc' := 52) (L' := [some (.ref 0), some (.int a), some (.int b), some (.int c), some (.int d), some (.int e), some (.int 0), none]) (st' := [.int (-1)]) rfl ?_
            refine g_ret (ins := .ireturn) (len := 1) (r := (some (.int (-1)))) rfl rfl rfl ?_
            refine ⟨⟨_, rfl⟩, ?_⟩
            refine g_in (M := x_M495) (L := [some (.ref 281), some (.int a), some (.int b), some (.int c), some (.int d), some (.int e), none, none]) x_pl495 rfl ?_
            refine g_n 2 (pc' := 2) (L' := [some (.ref 281), some (.int a), some (.int b), some (.int c), some (.int d), some (.int e), none, none]) (st' := [.int 1, .int b]) rfl ?_
            refine g_brF (c := b = (1 : Int32)) (t := 15) (f := 5) (L' := [some (.ref 281), some (.int a), some (.int b), some (.int c), some (.int d), some (.int e), none, none]) (st' := []) rfl (x_Ne1 (u := -1) (l := 1) p56 (by decide) (by decide)) ?_
            refine g_n 2 (pc' := 7) (L' := [some (.ref 281), some (.int a), some (.int b), some (.int c), some (.int d), some (.int e), none, none]) (st' := [.int 2, .int b]) rfl ?_
            refine g_brF (c := b = (2 : Int32)) (t := 15) (f := 10) (L' := [some (.ref 281), some (.int a), some (.int b), some (.int c), some (.int d), some (.int e), none, none]) (st' := []) rfl (x_Ne1 (u := -1) (l := 2) p56 (by decide) (by decide)) ?_
            refine g_n 2 (pc' := 12) (L' := [some (.ref 281), some (.int a), some (.int b), some (.int c), some (.int d), some (.int e), none, none]) (st' := [.int 3, .int b]) rfl ?_
            refine g_brT (c := b ≤ (3 : Int32)) (t := 19) (f := 15) (L' := [some (.ref 281), some (.int a), some (.int b), some (.int c), some (.int d), some (.int e), none, none]) (st' := []) rfl (x_Tle (u := -1) (l := 3) p56 (by decide) (by decide)) ?_
            refine g_n 4 (pc' := 24) (L' := [some (.ref 281), some (.int a), some (.int b), some (.int c), some (.int d), some (.int e), some (.int 0), none]) (st' := [.int a, .ref 281]) rfl ?_
            refine g_call (ins := .invokevirtual 1015) (len := 3) (j := 488) (as := [.ref 281, .int a]) (rest := []) rfl rfl rfl rfl (fun _ => rfl) rfl ?_
            refine g_in (M := x_M488) (L := [some (.ref 281), some (.int a)]) x_pl488 rfl ?_
            refine g_n 1 (pc' := 1) (L' := [some (.ref 281), some (.int a)]) (st' := [.int a]) rfl ?_
            refine g_brF (c := a < (0 : Int32)) (t := 13) (f := 4) (L' := [some (.ref 281), some (.int a)]) (st' := []) rfl (x_Flt (l := 0) (u := 0) p42 (by decide) (by decide)) ?_
            refine g_n 2 (pc' := 6) (L' := [some (.ref 281), some (.int a)]) (st' := [.int 4, .int a]) rfl ?_
            refine g_brF (c := (4 : Int32) ≤ a) (t := 13) (f := 9) (L' := [some (.ref 281), some (.int a)]) (st' := []) rfl (x_Fle (l := 4) (u := 3) (by decide) p54 (by decide)) ?_
            refine g_n 2 (pc' := 14) (L' := [some (.ref 281), some (.int a)]) (st' := [.int 1]) rfl ?_
            refine g_ret (ins := .ireturn) (len := 1) (r := (some (.int 1))) rfl rfl rfl ?_
            refine g_n 2 (pc' := 31) (L' := [some (.ref 281), some (.int a), some (.int b), some (.int c), some (.int d), some (.int e), some (.int 0), none]) (st' := [.int b]) rfl ?_
            refine g_brT (c := b < (0 : Int32)) (t := 58) (f := 34) (L' := [some (.ref 281), some (.int a), some (.int b), some (.int c), some (.int d), some (.int e), some (.int 0), none]) (st' := []) rfl (x_Tlt (u := -1) (l := 0) p56 (by decide) (by decide)) ?_
            refine g_n 1 (pc' := 59) (L' := [some (.ref 281), some (.int a), some (.int b), some (.int c), some (.int d), some (.int e), some (.int 0), none]) (st' := [.int (-1)]) rfl ?_
            exact g_ret (ins := .ireturn) (len := 1) (r := (some (.int (-1)))) rfl rfl rfl ⟨_, rfl, rfl, (x_sv_rf _)⟩
          · have p57 : 0 ≤ b.toInt := x_lo_le (x_nlt h55) (by decide)
            refine g_n 2 (pc' := 29) (L' := [some (.ref 0), some (.int a), some (.int b), some (.int c), some (.int d), some (.int e), some (.int 0), none]) (st' := [.int 5, .int b]) rfl ?_
            refine g_br (c := (5 : Int32) < b) (t := 51) (f := 32) (L' := [some (.ref 0), some (.int a), some (.int b), some (.int c), some (.int d), some (.int e), some (.int 0), none]) (st' := []) rfl (fun h58 => ?_) (fun h58 => ?_)
            · have p59 : 6 ≤ b.toInt := x_lo_lt h58 (by decide)
              refine g_n 1 (pc' := 52) (L' := [some (.ref 0), some (.int a), some (.int b), some (.int c), some (.int d), some (.int e), some (.int 0), none]) (st' := [.int (-1)]) rfl ?_
              refine g_ret (ins := .ireturn) (len := 1) (r := (some (.int (-1)))) rfl rfl rfl ?_
              refine ⟨⟨_, rfl⟩, ?_⟩
              refine g_in (M := x_M495) (L := [some (.ref 281), some (.int a), some (.int b), some (.int c), some (.int d), some (.int e), none, none]) x_pl495 rfl ?_
              refine g_n 2 (pc' := 2) (L' := [some (.ref 281), some (.int a), some (.int b), some (.int c), some (.int d), some (.int e), none, none]) (st' := [.int 1, .int b]) rfl ?_
              refine g_brF (c := b = (1 : Int32)) (t := 15) (f := 5) (L' := [some (.ref 281), some (.int a), some (.int b), some (.int c), some (.int d), some (.int e), none, none]) (st' := []) rfl (x_Ne2 (l := 6) (u := 1) p59 (by decide) (by decide)) ?_
              refine g_n 2 (pc' := 7) (L' := [some (.ref 281), some (.int a), some (.int b), some (.int c), some (.int d), some (.int e), none, none]) (st' := [.int 2, .int b]) rfl ?_
              refine g_brF (c := b = (2 : Int32)) (t := 15) (f := 10) (L' := [some (.ref 281), some (.int a), some (.int b), some (.int c), some (.int d), some (.int e), none, none]) (st' := []) rfl (x_Ne2 (l := 6) (u := 2) p59 (by decide) (by decide)) ?_
              refine g_n 2 (pc' := 12) (L' := [some (.ref 281), some (.int a), some (.int b), some (.int c), some (.int d), some (.int e), none, none]) (st' := [.int 3, .int b]) rfl ?_
              refine g_brF (c := b ≤ (3 : Int32)) (t := 19) (f := 15) (L' := [some (.ref 281), some (.int a), some (.int b), some (.int c), some (.int d), some (.int e), none, none]) (st' := []) rfl (x_Fle (l := 6) (u := 3) p59 (by decide) (by decide)) ?_
              refine g_n 5 (pc' := 24) (L' := [some (.ref 281), some (.int a), some (.int b), some (.int c), some (.int d), some (.int e), some (.int 1), none]) (st' := [.int a, .ref 281]) rfl ?_
              refine g_call (ins := .invokevirtual 1015) (len := 3) (j := 488) (as := [.ref 281, .int a]) (rest := []) rfl rfl rfl rfl (fun _ => rfl) rfl ?_
              refine g_in (M := x_M488) (L := [some (.ref 281), some (.int a)]) x_pl488 rfl ?_
              refine g_n 1 (pc' := 1) (L' := [some (.ref 281), some (.int a)]) (st' := [.int a]) rfl ?_
              refine g_brF (c := a < (0 : Int32)) (t := 13) (f := 4) (L' := [some (.ref 281), some (.int a)]) (st' := []) rfl (x_Flt (l := 0) (u := 0) p42 (by decide) (by decide)) ?_
              refine g_n 2 (pc' := 6) (L' := [some (.ref 281), some (.int a)]) (st' := [.int 4, .int a]) rfl ?_
              refine g_brF (c := (4 : Int32) ≤ a) (t := 13) (f := 9) (L' := [some (.ref 281), some (.int a)]) (st' := []) rfl (x_Fle (l := 4) (u := 3) (by decide) p54 (by decide)) ?_
              refine g_n 2 (pc' := 14) (L' := [some (.ref 281), some (.int a)]) (st' := [.int 1]) rfl ?_
              refine g_ret (ins := .ireturn) (len := 1) (r := (some (.int 1))) rfl rfl rfl ?_
              refine g_n 2 (pc' := 31) (L' := [some (.ref 281), some (.int a), some (.int b), some (.int c), some (.int d), some (.int e), some (.int 1), none]) (st' := [.int b]) rfl ?_
              refine g_brF (c := b < (0 : Int32)) (t := 58) (f := 34) (L' := [some (.ref 281), some (.int a), some (.int b), some (.int c), some (.int d), some (.int e), some (.int 1), none]) (st' := []) rfl (x_Flt (l := 6) (u := 0) p59 (by decide) (by decide)) ?_
              refine g_n 2 (pc' := 36) (L' := [some (.ref 281), some (.int a), some (.int b), some (.int c), some (.int d), some (.int e), some (.int 1), none]) (st' := [.int 5, .int b]) rfl ?_
              refine g_brT (c := (5 : Int32) < b) (t := 58) (f := 39) (L' := [some (.ref 281), some (.int a), some (.int b), some (.int c), some (.int d), some (.int e), some (.int 1), none]) (st' := []) rfl (x_Tlt (u := 5) (l := 6) (by decide) p59 (by decide)) ?_
              refine g_n 1 (pc' := 59) (L' := [some (.ref 281), some (.int a), some (.int b), some (.int c), some (.int d), some (.int e), some (.int 1), none]) (st' := [.int (-1)]) rfl ?_
              exact g_ret (ins := .ireturn) (len := 1) (r := (some (.int (-1)))) rfl rfl rfl ⟨_, rfl, rfl, (x_sv_rf _)⟩
            · have p60 : b.toInt ≤ 5 := x_up_le (x_nlt h58) (by decide)
              refine g_n 1 (pc' := 33) (L' := [some (.ref 0), some (.int a), some (.int b), some (.int c), some (.int d), some (.int e), some (.int 0), none]) (st' := [.int c]) rfl ?_
              refine g_br (c := c < (0 : Int32)) (t := 51) (f := 36) (L' := [some (.ref 0), some (.int a), some (.int b), some (.int c), some (.int d), some (.int e), some (.int 0), none]) (st' := []) rfl (fun h61 => ?_) (fun h61 => ?_)
              · have p62 : c.toInt ≤ -1 := x_up_lt h61 (by decide)
                refine g_n 1 (pc' := 52) (L' := [some (.ref 0), some (.int a), some (.int b), some (.int c), some (.int d), some (.int e), some (.int 0), none]) (st' := [.int (-1)]) rfl ?_
                refine g_ret (ins := .ireturn) (len := 1) (r := (some (.int (-1)))) rfl rfl rfl ?_
                refine ⟨⟨_, rfl⟩, ?_⟩
                refine g_in (M := x_M495) (L := [some (.ref 281), some (.int a), some (.int b), some (.int c), some (.int d), some (.int e), none, none]) x_pl495 rfl ?_
                refine g_n 2 (pc' := 2) (L' := [some (.ref 281), some (.int a), some (.int b), some (.int c), some (.int d), some (.int e), none, none]) (st' := [.int 1, .int b]) rfl ?_
                refine g_br (c := b = (1 : Int32)) (t := 15) (f := 5) (L' := [some (.ref 281), some (.int a), some (.int b), some (.int c), some (.int d), some (.int e), none, none]) (st' := []) rfl (fun h63 => ?_) (fun h63 => ?_)
                · have e64 : b = 1 := h63
                  subst e64
                  refine g_n 5 (pc' := 24) (L' := [some (.ref 281), some (.int a), some (.int 1), some (.int c), some (.int d), some (.int e), some (.int 1), none]) (st' := [.int a, .ref 281]) rfl ?_
                  refine g_call (ins := .invokevirtual 1015) (len := 3) (j := 488) (as := [.ref 281, .int a]) (rest := []) rfl rfl rfl rfl (fun _ => rfl) rfl ?_
                  refine g_in (M := x_M488) (L := [some (.ref 281), some (.int a)]) x_pl488 rfl ?_
                  refine g_n 1 (pc' := 1) (L' := [some (.ref 281), some (.int a)]) (st' := [.int a]) rfl ?_
                  refine g_brF (c := a < (0 : Int32)) (t := 13) (f := 4) (L' := [some (.ref 281), some (.int a)]) (st' := []) rfl (x_Flt (l := 0) (u := 0) p42 (by decide) (by decide)) ?_
                  refine g_n 2 (pc' := 6) (L' := [some (.ref 281), some (.int a)]) (st' := [.int 4, .int a]) rfl ?_
                  refine g_brF (c := (4 : Int32) ≤ a) (t := 13) (f := 9) (L' := [some (.ref 281), some (.int a)]) (st' := []) rfl (x_Fle (l := 4) (u := 3) (by decide) p54 (by decide)) ?_
                  refine g_n 2 (pc' := 14) (L' := [some (.ref 281), some (.int a)]) (st' := [.int 1]) rfl ?_
                  refine g_ret (ins := .ireturn) (len := 1) (r := (some (.int 1))) rfl rfl rfl ?_
                  refine g_n 7 (pc' := 40) (L' := [some (.ref 281), some (.int a), some (.int 1), some (.int c), some (.int d), some (.int e), some (.int 1), none]) (st' := [.int c]) rfl ?_
                  refine g_brT (c := c < (0 : Int32)) (t := 58) (f := 43) (L' := [some (.ref 281), some (.int a), some (.int 1), some (.int c), some (.int d), some (.int e), some (.int 1), none]) (st' := []) rfl (x_Tlt (u := -1) (l := 0) p62 (by decide) (by decide)) ?_
                  refine g_n 1 (pc' := 59) (L' := [some (.ref 281), some (.int a), some (.int 1), some (.int c), some (.int d), some (.int e), some (.int 1), none]) (st' := [.int (-1)]) rfl ?_
                  exact g_ret (ins := .ireturn) (len := 1) (r := (some (.int (-1)))) rfl rfl rfl ⟨_, rfl, rfl, (x_sv_rf _)⟩
                · have q65 : ¬ b = 1 := h63
                  have p66 : 1 ≤ b.toInt := x_lo_ne q28 p57 (by decide)
                  have p67 : 2 ≤ b.toInt := x_lo_ne q65 p66 (by decide)
                  refine g_n 2 (pc' := 7) (L' := [some (.ref 281), some (.int a), some (.int b), some (.int c), some (.int d), some (.int e), none, none]) (st' := [.int 2, .int b]) rfl ?_
                  refine g_br (c := b = (2 : Int32)) (t := 15) (f := 10) (L' := [some (.ref 281), some (.int a), some (.int b), some (.int c), some (.int d), some (.int e), none, none]) (st' := []) rfl (fun h68 => ?_) (fun h68 => ?_)
                  · have e69 : b = 2 := h68
                    subst e69
                    refine g_n 5 (pc' := 24) (L' := [some (.ref 281), some (.int a), some (.int 2), some (.int c), some (.int d), some (.int e), some (.int 1), none]) (st' := [.int a, .ref 281]) rfl ?_
                    refine g_call (ins := .invokevirtual 1015) (len := 3) (j := 488) (as := [.ref 281, .int a]) (rest := []) rfl rfl rfl rfl (fun _ => rfl) rfl ?_
                    refine g_in (M := x_M488) (L := [some (.ref 281), some (.int a)]) x_pl488 rfl ?_
                    refine g_n 1 (pc' := 1) (L' := [some (.ref 281), some (.int a)]) (st' := [.int a]) rfl ?_
                    refine g_brF (c := a < (0 : Int32)) (t := 13) (f := 4) (L' := [some (.ref 281), some (.int a)]) (st' := []) rfl (x_Flt (l := 0) (u := 0) p42 (by decide) (by decide)) ?_
                    refine g_n 2 (pc' := 6) (L' := [some (.ref 281), some (.int a)]) (st' := [.int 4, .int a]) rfl ?_
                    refine g_brF (c := (4 : Int32) ≤ a) (t := 13) (f := 9) (L' := [some (.ref 281), some (.int a)]) (st' := []) rfl (x_Fle (l := 4) (u := 3) (by decide) p54 (by decide)) ?_
                    refine g_n 2 (pc' := 14) (L' := [some (.ref 281), some (.int a)]) (st' := [.int 1]) rfl ?_
                    refine g_ret (ins := .ireturn) (len := 1) (r := (some (.int 1))) rfl rfl rfl ?_
                    refine g_n 7 (pc' := 40) (L' := [some (.ref 281), some (.int a), some (.int 2), some (.int c), some (.int d), some (.int e), some (.int 1), none]) (st' := [.int c]) rfl ?_
                    refine g_brT (c := c < (0 : Int32)) (t := 58) (f := 43) (L' := [some (.ref 281), some (.int a), some (.int 2), some (.int c), some (.int d), some (.int e), some (.int 1), none]) (st' := []) rfl (x_Tlt (u := -1) (l := 0) p62 (by decide) (by decide)) ?_
                    refine g_n 1 (pc' := 59) (L' := [some (.ref 281), some (.int a), some (.int 2), some (.int c), some (.int d), some (.int e), some (.int 1), none]) (st' := [.int (-1)]) rfl ?_
                    exact g_ret (ins := .ireturn) (len := 1) (r := (some (.int (-1)))) rfl rfl rfl ⟨_, rfl, rfl, (x_sv_rf _)⟩
                  · have q70 : ¬ b = 2 := h68
                    have p71 : 3 ≤ b.toInt := x_lo_ne q70 p67 (by decide)
                    have p72 : 4 ≤ b.toInt := x_lo_ne q30 p71 (by decide)
                    refine g_n 2 (pc' := 12) (L' := [some (.ref 281), some (.int a), some (.int b), some (.int c), some (.int d), some (.int e), none, none]) (st' := [.int 3, .int b]) rfl ?_
                    refine g_brF (c := b ≤ (3 : Int32)) (t := 19) (f := 15) (L' := [some (.ref 281), some (.int a), some (.int b), some (.int c), some (.int d), some (.int e), none, none]) (st' := []) rfl (x_Fle (l := 4) (u := 3) p72 (by decide) (by decide)) ?_
                    refine g_n 5 (pc' := 24) (L' := [some (.ref 281), some (.int a), some (.int b), some (.int c), some (.int d), some (.int e), some (.int 1), none]) (st' := [.int a, .ref 281]) rfl ?_
                    refine g_call (ins := .invokevirtual 1015) (len := 3) (j := 488) (as := [.ref 281, .int a]) (rest := []) rfl rfl rfl rfl (fun _ => rfl) rfl ?_
                    refine g_in (M := x_M488) (L := [some (.ref 281), some (.int a)]) x_pl488 rfl ?_
                    refine g_n 1 (pc' := 1) (L' := [some (.ref 281), some (.int a)]) (st' := [.int a]) rfl ?_
                    refine g_brF (c := a < (0 : Int32)) (t := 13) (f := 4) (L' := [some (.ref 281), some (.int a)]) (st' := []) rfl (x_Flt (l := 0) (u := 0) p42 (by decide) (by decide)) ?_
                    refine g_n 2 (pc' := 6) (L' := [some (.ref 281), some (.int a)]) (st' := [.int 4, .int a]) rfl ?_
                    refine g_brF (c := (4 : Int32) ≤ a) (t := 13) (f := 9) (L' := [some (.ref 281), some (.int a)]) (st' := []) rfl (x_Fle (l := 4) (u := 3) (by decide) p54 (by decide)) ?_
                    refine g_n 2 (pc' := 14) (L' := [some (.ref 281), some (.int a)]) (st' := [.int 1]) rfl ?_
                    refine g_ret (ins := .ireturn) (len := 1) (r := (some (.int 1))) rfl rfl rfl ?_
                    refine g_n 2 (pc' := 31) (L' := [some (.ref 281), some (.int a), some (.int b), some (.int c), some (.int d), some (.int e), some (.int 1), none]) (st' := [.int b]) rfl ?_
                    refine g_brF (c := b < (0 : Int32)) (t := 58) (f := 34) (L' := [some (.ref 281), some (.int a), some (.int b), some (.int c), some (.int d), some (.int e), some (.int 1), none]) (st' := []) rfl (x_Flt (l := 4) (u := 0) p72 (by decide) (by decide)) ?_
                    refine g_n 2 (pc' := 36) (L' := [some (.ref 281), some (.int a), some (.int b), some (.int c), some (.int d), some (.int e), some (.int 1), none]) (st' := [.int 5, .int b]) rfl ?_
                    refine g_brF (c := (5 : Int32) < b) (t := 58) (f := 39) (L' := [some (.ref 281), some (.int a), some (.int b), some (.int c), some (.int d), some (.int e), some (.int 1), none]) (st' := []) rfl (x_Flt (l := 5) (u := 5) (by decide) p60 (by decide)) ?_
                    refine g_n 1 (pc' := 40) (L' := [some (.ref 281), some (.int a), some (.int b), some (.int c), some (.int d), some (.int e), some (.int 1), none]) (st' := [.int c]) rfl ?_
                    refine g_brT (c := c < (0 : Int32)) (t := 58) (f := 43) (L' := [some (.ref 281), some (.int a), some (.int b), some (.int c), some (.int d), some (.int e), some (.int 1), none]) (st' := []) rfl (x_Tlt (u := -1) (l := 0) p62 (by decide) (by decide)) ?_
                    refine g_n 1 (pc' := 59) (L' := [some (.ref 281), some (.int a), some (.int b), some (.int c), some (.int d), some (.int e), some (.int 1), none]) (st' := [.int (-1)]) rfl ?_
                    exact g_ret (ins := .ireturn) (len := 1) (r := (some (.int (-1)))) rfl rfl rfl ⟨_, rfl, rfl, (x_sv_rf _)⟩
              · have p73 : 0 ≤ c.toInt := x_lo_le (x_nlt h61) (by decide)
                refine g_n 1 (pc' := 38) (L' := [some (.ref 0), some (.int a), some (.int b), some (.int c), some (.int d), some (.int e), some (.int 0), none]) (st' := [.int e]) rfl ?_
                refine g_br (c := e < (0 : Int32)) (t := 51) (f := 41) (L' := [some (.ref 0), some (.int a), some (.int b), some (.int c), some (.int d), some (.int e), some (.int 0), none]) (st' := []) rfl (fun h74 => ?_) (fun h74 => ?_)
                · have p75 : e.toInt ≤ -1 := x_up_lt h74 (by decide)
                  refine g_n 1 (pc' := 52) (L' := [some (.ref 0), some (.int a), some (.int b), some (.int c), some (.int d), some (.int e), some (.int 0), none]) (st' := [.int (-1)]) rfl ?_
                  refine g_ret (ins := .ireturn) (len := 1) (r := (some (.int (-1)))) rfl rfl rfl ?_
                  refine ⟨⟨_, rfl⟩, ?_⟩
                  refine g_in (M := x_M495) (L := [some (.ref 281), some (.int a), some (.int b), some (.int c), some (.int d), some (.int e), none, none]) x_pl495 rfl ?_
                  refine g_n 2 (pc' := 2) (L' := [some (.ref 281), some (.int a), some (.int b), some (.int c), some (.int d), some (.int e), none, none]) (st' := [.int 1, .int b]) rfl ?_
                  refine g_br (c := b = (1 : Int32)) (t := 15) (f := 5) (L' := [some (.ref 281), some (.int a), some (.int b), some (.int c), some (.int d), some (.int e), none, none]) (st' := []) rfl (fun h76 => ?_) (fun h76 => ?_)
                  · have e77 : b = 1 := h76
                    subst e77
                    refine g_n 5 (pc' := 24) (L' := [some (.ref 281), some (.int a), some (.int 1), some (.int c), some (.int d), some (.int e), some (.int 1), none]) (st' := [.int a, .ref 281]) rfl ?_
                    refine g_call (ins := .invokevirtual 1015) (len := 3) (j := 488) (as := [.ref 281, .int a]) (rest := []) rfl rfl rfl rfl (fun _ => rfl) rfl ?_
                    refine g_in (M := x_M488) (L := [some (.ref 281), some (.int a)]) x_pl488 rfl ?_
                    refine g_n 1 (pc' := 1) (L' := [some (.ref 281), some (.int a)]) (st' := [.int a]) rfl ?_
                    refine g_brF (c := a < (0 : Int32)) (t := 13) (f := 4) (L' := [some (.ref 281), some (.int a)]) (st' := []) rfl (x_Flt (l := 0) (u := 0) p42 (by decide) (by decide)) ?_
                    refine g_n 2 (pc' := 6) (L' := [some (.ref 281), some (.int a)]) (st' := [.int 4, .int a]) rfl ?_
                    refine g_brF (c := (4 : Int32) ≤ a) (t := 13) (f := 9) (L' := [some (.ref 281), some (.int a)]) (st' := []) rfl (x_Fle (l := 4) (u := 3) (by decide) p54 (by decide)) ?_
                    refine g_n 2 (pc' := 14) (L' := [some (.ref 281), some (.int a)]) (st' := [.int 1]) rfl ?_
                    refine g_ret (ins := .ireturn) (len := 1) (r := (some (.int 1))) rfl rfl rfl ?_
                    refine g_n 7 (pc' := 40) (L' := [some (.ref 281), some (.int a), some (.int 1), some (.int c), some (.int d), some (.int e), some (.int 1), none]) (st' := [.int c]) rfl ?_
                    refine g_brF (c := c < (0 : Int32)) (t := 58) (f := 43) (L' := [some (.ref 281), some (.int a), some (.int 1), some (.int c), some (.int d), some (.int e), some (.int 1), none]) (st' := []) rfl (x_Flt (l := 0) (u := 0) p73 (by decide) (by decide)) ?_
                    refine g_n 3 (pc' := 50) (L' := [some (.ref 281), some (.int a), some (.int 1), some (.int c), some (.int d), some (.int e), some (.int 1), none]) (st' := [.int d]) rfl ?_
                    refine g_br (c := d < (0 : Int32)) (t := 58) (f := 53) (L' := [some (.ref 281), some (.int a), some (.int 1), some (.int c), some (.int d), some (.int e), some (.int 1), none]) (st' := []) rfl (fun h78 => ?_) (fun h78 => ?_)
                    · have p79 : d.toInt ≤ -1 := x_up_lt h78 (by decide)
                      refine g_n 1 (pc' := 59) (L' := [some (.ref 281), some (.int a), some (.int 1), some (.int c), some (.int d), some (.int e), some (.int 1), none]) (st' := [.int (-1)]) rfl ?_
                      exact g_ret (ins := .ireturn) (len := 1) (r := (some (.int (-1)))) rfl rfl rfl ⟨_, rfl, rfl, (x_sv_rf _)⟩
                    · have p80 : 0 ≤ d.toInt := x_lo_le (x_nlt h78) (by decide)
                      refine g_n 1 (pc' := 55) (L' := [some (.ref 281), some (.int a), some (.int 1), some (.int c), some (.int d), some (.int e), some (.int 1), none]) (st' := [.int e]) rfl ?_
                      refine g_brF (c := (0 : Int32) ≤ e) (t := 60) (f := 58) (L' := [some (.ref 281), some (.int a), some (.int 1), some (.int c), some (.int d), some (.int e), some (.int 1), none]) (st' := []) rfl (x_Fle (l := 0) (u := -1) (by decide) p75 (by decide)) ?_
                      refine g_n 1 (pc' := 59) (L' := [some (.ref 281), some (.int a), some (.int 1), some (.int c), some (.int d), some (.int e), some (.int 1), none]) (st' := [.int (-1)]) rfl ?_
                      exact g_ret (ins := .ireturn) (len := 1) (r := (some (.int (-1)))) rfl rfl rfl ⟨_, rfl, rfl, (x_sv_rf _)⟩
                  · have q81 : ¬ b = 1 := h76
                    have p82 : 1 ≤ b.toInt := x_lo_ne q28 p57 (by decide)
                    have p83 : 2 ≤ b.toInt := x_lo_ne q81 p82 (by decide)
                    refine g_n 2 (pc' := 7) (L' := [some (.ref 281), some (.int a), some (.int b), some (.int c), some (.int d), some (.int e), none, none]) (st' := [.int 2, .int b]) rfl ?_
                    refine g_br (c := b = (2 : Int32)) (t := 15) (f := 10) (L' := [some (.ref 281), some (.int a), some (.int b), some (.int c), some (.int d), some (.int e), none, none]) (st' := []) rfl (fun h84 => ?_) (fun h84 => ?_)
                    · have e85 : b = 2 := h84
                      subst e85
                      refine g_n 5 (pc' := 24) (L' := [some (.ref 281), some (.int a), some (.int 2), some (.int c), some (.int d), some (.int e), some (.int 1), none]) (st' := [.int a, .ref 281]) rfl ?_
                      refine g_call (ins := .invokevirtual 1015) (len := 3) (j := 488) (as := [.ref 281, .int a]) (rest := []) rfl rfl rfl rfl (fun _ => rfl) rfl ?_
                      refine g_in (M := x_M488) (L := [some (.ref 281), some (.int a)]) x_pl488 rfl ?_
                      refine g_n 1 (pc' := 1) (L' := [some (.ref 281), some (.int a)]) (st' := [.int a]) rfl ?_
                      refine g_brF (c := a < (0 : Int32)) (t := 13) (f := 4) (L' := [some (.ref 281), some (.int a)]) (st' := []) rfl (x_Flt (l := 0) (u := 0) p42 (by decide) (by decide)) ?_
                      refine g_n 2 (pc' := 6) (L' := [some (.ref 281), some (.int a)]) (st' := [.int 4, .int a]) rfl ?_
                      refine g_brF (c := (4 : Int32) ≤ a) (t := 13) (f := 9) (L' := [some (.ref 281), some (.int a)]) (st' := []) rfl (x_Fle (l := 4) (u := 3) (by decide) p54 (by decide)) ?_
                      refine g_n 2 (pc' := 14) (L' := [some (.ref 281), some (.int a)]) (st' := [.int 1]) rfl ?_
                      refine g_ret (ins := .ireturn) (len := 1) (r := (some (.int 1))) rfl rfl rfl ?_
                      refine g_n 7 (pc' := 40) (L' := [some (.ref 281), some (.int a), some (.int 2), some (.int c), some (.int d), some (.int e), some (.int 1), none]) (st' := [.int c]) rfl ?_
                      refine g_brF (c := c < (0 : Int32)) (t := 58) (f := 43) (L' := [some (.ref 281), some (.int a), some (.int 2), some (.int c), some (.int d), some (.int e), some (.int 1), none]) (st' := []) rfl (x_Flt (l := 0) (u := 0) p73 (by decide) (by decide)) ?_
                      refine g_n 3 (pc' := 50) (L' := [some (.ref 281), some (.int a), some (.int 2), some (.int c), some (.int d), some (.int e), some (.int 1), none]) (st' := [.int d]) rfl ?_
                      refine g_br (c := d < (0 : Int32)) (t := 58) (f := 53) (L' := [some (.ref 281), some (.int a), some (.int 2), some (.int c), some (.int d), some (.int e), some (.int 1), none]) (st' := []) rfl (fun h86 => ?_) (fun h86 => ?_)
                      · have p87 : d.toInt ≤ -1 := x_up_lt h86 (by decide)
                        refine g_n 1 (pc' := 59) (L' := [some (.ref 281), some (.int a), some (.int 2), some (.int c), some (.int d), some (.int e), some (.int 1), none]) (st' := [.int (-1)]) rfl ?_
                        exact g_ret (ins := .ireturn) (len := 1) (r := (some (.int (-1)))) rfl rfl rfl ⟨_, rfl, rfl, (x_sv_rf _)⟩
                      · have p88 : 0 ≤ d.toInt := x_lo_le (x_nlt h86) (by decide)
                        refine g_n 1 (pc' := 55) (L' := [some (.ref 281), some (.int a), some (.int 2), some (.int c), some (.int d), some (.int e), some (.int 1), none]) (st' := [.int e]) rfl ?_
                        refine g_brF (c := (0 : Int32) ≤ e) (t := 60) (f := 58) (L' := [some (.ref 281), some (.int a), some (.int 2), some (.int c), some (.int d), some (.int e), some (.int 1), none]) (st' := []) rfl (x_Fle (l := 0) (u := -1) (by decide) p75 (by decide)) ?_
                        refine g_n 1 (pc' := 59) (L' := [some (.ref 281), some (.int a), some (.int 2), some (.int c), some (.int d), some (.int e), some (.int 1), none]) (st' := [.int (-1)]) rfl ?_
                        exact g_ret (ins := .ireturn) (len := 1) (r := (some (.int (-1)))) rfl rfl rfl ⟨_, rfl, rfl, (x_sv_rf _)⟩
                    · have q89 : ¬ b = 2 := h84
                      have p90 : 3 ≤ b.toInt := x_lo_ne q89 p83 (by decide)
                      have p91 : 4 ≤ b.toInt := x_lo_ne q30 p90 (by decide)
                      refine g_n 2 (pc' := 12) (L' := [some (.ref 281), some (.int a), some (.int b), some (.int c), some (.int d), some (.int e), none, none]) (st' := [.int 3, .int b]) rfl ?_
                      refine g_brF (c := b ≤ (3 : Int32)) (t := 19) (f := 15) (L' := [some (.ref 281), some (.int a), some (.int b), some (.int c), some (.int d), some (.int e), none, none]) (st' := []) rfl (x_Fle (l := 4) (u := 3) p91 (by decide) (by decide)) ?_
                      refine g_n 5 (pc' := 24) (L' := [some (.ref 281), some (.int a), some (.int b), some (.int c), some (.int d), some (.int e), some (.int 1), none]) (st' := [.int a, .ref 281]) rfl ?_
                      refine g_call (ins := .invokevirtual 1015) (len := 3) (j := 488) (as := [.ref 281, .int a]) (rest := []) rfl rfl rfl rfl (fun _ => rfl) rfl ?_
                      refine g_in (M := x_M488) (L := [some (.ref 281), some (.int a)]) x_pl488 rfl ?_
                      refine g_n 1 (pc' := 1) (L' := [some (.ref 281), some (.int a)]) (st' := [.int a]) rfl ?_
                      refine g_brF (c := a < (0 : Int32)) (t := 13) (f := 4) (L' := [some (.ref 281), some (.int a)]) (st' := []) rfl (x_Flt (l := 0) (u := 0) p42 (by decide) (by decide)) ?_
                      refine g_n 2 (pc' := 6) (L' := [some (.ref 281), some (.int a)]) (st' := [.int 4, .int a]) rfl ?_
                      refine g_brF (c := (4 : Int32) ≤ a) (t := 13) (f := 9) (L' := [some (.ref 281), some (.int a)]) (st' := []) rfl (x_Fle (l := 4) (u := 3) (by decide) p54 (by decide)) ?_
                      refine g_n 2 (pc' := 14) (L' := [some (.ref 281), some (.int a)]) (st' := [.int 1]) rfl ?_
                      refine g_ret (ins := .ireturn) (len := 1) (r := (some (.int 1))) rfl rfl rfl ?_
                      refine g_n 2 (pc' := 31) (L' := [some (.ref 281), some (.int a), some (.int b), some (.int c), some (.int d), some (.int e), some (.int 1), none]) (st' := [.int b]) rfl ?_
                      refine g_brF (c := b < (0 : Int32)) (t := 58) (f := 34) (L' := [some (.ref 281), some (.int a), some (.int b), some (.int c), some (.int d), some (.int e), some (.int 1), none]) (st' := []) rfl (x_Flt (l := 4) (u := 0) p91 (by decide) (by decide)) ?_
                      refine g_n 2 (pc' := 36) (L' := [some (.ref 281), some (.int a), some (.int b), some (.int c), some (.int d), some (.int e), some (.int 1), none]) (st' := [.int 5, .int b]) rfl ?_
                      refine g_brF (c := (5 : Int32) < b) (t := 58) (f := 39) (L' := [some (.ref 281), some (.int a), some (.int b), some (.int c), some (.int d), some (.int e), some (.int 1), none]) (st' := []) rfl (x_Flt (l := 5) (u := 5) (by decide) p60 (by decide)) ?_
                      refine g_n 1 (pc' := 40) (L' := [some (.ref 281), some (.int a), some (.int b), some (.int c), some (.int d), some (.int e), some (.int 1), none]) (st' := [.int c]) rfl ?_
                      refine g_brF (c := c < (0 : Int32)) (t := 58) (f := 43) (L' := [some (.ref 281), some (.int a), some (.int b), some (.int c), some (.int d), some (.int e), some (.int 1), none]) (st' := []) rfl (x_Flt (l := 0) (u := 0) p73 (by decide) (by decide)) ?_
                      refine g_n 3 (pc' := 50) (L' := [some (.ref 281), some (.int a), some (.int b), some (.int c), some (.int d), some (.int e), some (.int 1), none]) (st' := [.int d]) rfl ?_
                      refine g_br (c := d < (0 : Int32)) (t := 58) (f := 53) (L' := [some (.ref 281), some (.int a), some (.int b), some (.int c), some (.int d), some (.int e), some (.int 1), none]) (st' := []) rfl (fun h92 => ?_) (fun h92 => ?_)
                      · have p93 : d.toInt ≤ -1 := x_up_lt h92 (by decide)
                        refine g_n 1 (pc' := 59) (L' := [some (.ref 281), some (.int a), some (.int b), some (.int c), some (.int d), some (.int e), some (.int 1), none]) (st' := [.int (-1)]) rfl ?_
                        exact g_ret (ins := .ireturn) (len := 1) (r := (some (.int (-1)))) rfl rfl rfl ⟨_, rfl, rfl, (x_sv_rf _)⟩
                      · have p94 : 0 ≤ d.toInt := x_lo_le (x_nlt h92) (by decide)
                        refine g_n 1 (pc' := 55) (L' := [some (.ref 281), some (.int a), some (.int b), some (.int c), some (.int d), some (.int e), some (.int 1), none]) (st' := [.int e]) rfl ?_
                        refine g_brF (c := (0 : Int32) ≤ e) (t := 60) (f := 58) (L' := [some (.ref 281), some (.int a), some (.int b), some (.int c), some (.int d), some (.int e), some (.int 1), none]) (st' := []) rfl (x_Fle (l := 0) (u := -1) (by decide) p75 (by decide)) ?_
                        refine g_n 1 (pc' := 59) (L' := [some (.ref 281), some (.int a), some (.int b), some (.int c), some (.int d), some (.int e), some (.int 1), none]) (st' := [.int (-1)]) rfl ?_
                        exact g_ret (ins := .ireturn) (len := 1) (r := (some (.int (-1)))) rfl rfl rfl ⟨_, rfl, rfl, (x_sv_rf _)⟩
                · have p95 : 0 ≤ e.toInt := x_lo_le (x_nlt h74) (by decide)
                  refine g_n 3 (pc' := 48) (L' := [some (.ref 0), some (.int a), some (.int b), some (.int c), some (.int d), some (.int e), some (.int 0), none]) (st' := [.int d]) rfl ?_
                  refine g_br (c := (0 : Int32) ≤ d) (t := 53) (f := 51) (L' := [some (.ref 0), some (.int a), some (.int b), some (.int c), some (.int d), some (.int e), some (.int 0), none]) (st' := []) rfl (fun h96 => ?_) (fun h96 => ?_)
                  · have p97 : 0 ≤ d.toInt := x_lo_le h96 (by decide)
                    refine g_n 3 (pc' := 58) (L' := [some (.ref 0), some (.int a), some (.int b), some (.int c), some (.int d), some (.int e), some (.int 0), none]) (st' := [.int a, .ref 2]) rfl ?_
                    by_cases h98 : a = 0
                    · have e99 : a = 0 := h98
                      subst e99
                      refine g_aa (i := 0) (a := 2) (n := 4) (v := 27) rfl rfl (by decide) (x_at (x_f2 hF) (k := 0) rfl) ?_
                      refine g_n 5 (pc' := 71) (L' := [some (.ref 0), some (.int 0), some (.int b), some (.int c), some (.int d), some (.int e), some (.int 0), some (.ref 27)]) (st' := [.int (-2)]) rfl ?_
                      refine g_ret (ins := .ireturn) (len := 1) (r := (some (.int (-2)))) rfl rfl rfl ?_
                      refine ⟨⟨_, rfl⟩, ?_⟩
                      refine g_in (M := x_M495) (L := [some (.ref 281), some (.int 0), some (.int b), some (.int c), some (.int d), some (.int e), none, none]) x_pl495 rfl ?_
                      refine g_n 2 (pc' := 2) (L' := [some (.ref 281), some (.int 0), some (.int b), some (.int c), some (.int d), some (.int e), none, none]) (st' := [.int 1, .int b]) rfl ?_
                      refine g_br (c := b = (1 : Int32)) (t := 15) (f := 5) (L' := [some (.ref 281), some (.int 0), some (.int b), some (.int c), some (.int d), some (.int e), none, none]) (st' := []) rfl (fun h100 => ?_) (fun h100 => ?_)
                      · have e101 : b = 1 := h100
                        subst e101
                        refine g_n 5 (pc' := 24) (L' := [some (.ref 281), some (.int 0), some (.int 1), some (.int c), some (.int d), some (.int e), some (.int 1), none]) (st' := [.int 0, .ref 281]) rfl ?_
                        refine g_call (ins := .invokevirtual 1015) (len := 3) (j := 488) (as := [.ref 281, .int 0]) (rest := []) rfl rfl rfl rfl (fun _ => rfl) rfl ?_
                        refine g_in (M := x_M488) (L := [some (.ref 281), some (.int 0)]) x_pl488 rfl ?_
                        refine g_n 7 (pc' := 14) (L' := [some (.ref 281), some (.int 0)]) (st' := [.int 1]) rfl ?_
                        refine g_ret (ins := .ireturn) (len := 1) (r := (some (.int 1))) rfl rfl rfl ?_
                        refine g_n 7 (pc' := 40) (L' := [some (.ref 281), some (.int 0), some (.int 1), some (.int c), some (.int d), some (.int e), some (.int 1), none]) (st' := [.int c]) rfl ?_
                        refine g_brF (c := c < (0 : Int32)) (t := 58) (f := 43) (L' := [some (.ref 281), some (.int 0), some (.int 1), some (.int c), some (.int d), some (.int e), some (.int 1), none]) (st' := []) rfl (x_Flt (l := 0) (u := 0) p73 (by decide) (by decide)) ?_
                        refine g_n 3 (pc' := 50) (L' := [some (.ref 281), some (.int 0), some (.int 1), some (.int c), some (.int d), some (.int e), some (.int 1), none]) (st' := [.int d]) rfl ?_
                        refine g_brF (c := d < (0 : Int32)) (t := 58) (f := 53) (L' := [some (.ref 281), some (.int 0), some (.int 1), some (.int c), some (.int d), some (.int e), some (.int 1), none]) (st' := []) rfl (x_Flt (l := 0) (u := 0) p97 (by decide) (by decide)) ?_
                        refine g_n 1 (pc' := 55) (L' := [some (.ref 281), some (.int 0), some (.int 1), some (.int c), some (.int d), some (.int e), some (.int 1), none]) (st' := [.int e]) rfl ?_
                        refine g_brT (c := (0 : Int32) ≤ e) (t := 60) (f := 58) (L' := [some (.ref 281), some (.int 0), some (.int 1), some (.int c), some (.int d), some (.int e), some (.int 1), none]) (st' := []) rfl (x_Tle (u := 0) (l := 0) (by decide) p95 (by decide)) ?_
                        refine g_n 6 (pc' := 71) (L' := [some (.ref 281), some (.int 0), some (.int 1), some (.int c), some (.int d), some (.int e), some (.int 1), none]) (st' := [.int (-2)]) rfl ?_
                        exact g_ret (ins := .ireturn) (len := 1) (r := (some (.int (-2)))) rfl rfl rfl ⟨_, rfl, rfl, (x_sv_rf _)⟩
                      · have q102 : ¬ b = 1 := h100
                        have p103 : 1 ≤ b.toInt := x_lo_ne q28 p57 (by decide)
                        have p104 : 2 ≤ b.toInt := x_lo_ne q102 p103 (by decide)
                        refine g_n 2 (pc' := 7) (L' := [some (.ref 281), some (.int 0), some (.int b), some (.int c), some (.int d), some (.int e), none, none]) (st' := [.int 2, .int b]) rfl ?_
                        refine g_br (c := b = (2 : Int32)) (t := 15) (f := 10) (L' := [some (.ref 281), some (.int 0), some (.int b), some (.int c), some (.int d), some (.int e), none, none]) (st' := []) rfl (fun h105 => ?_) (fun h105 => ?_)
                        · have e106 : b = 2 := h105
                          subst e106
                          refine g_n 5 (pc' := 24) (L' := [some (.ref 281), some (.int 0), some (.int 2), some (.int c), some (.int d), some (.int e), some (.int 1), none]) (st' := [.int 0, .ref 281]) rfl ?_
                          refine g_call (ins := .invokevirtual 1015) (len := 3) (j := 488) (as := [.ref 281, .int 0]) (rest := []) rfl rfl rfl rfl (fun _ => rfl) rfl ?_
                          refine g_in (M := x_M488) (L := [some (.ref 281), some (.int 0)]) x_pl488 rfl ?_
                          refine g_n 7 (pc' := 14) (L' := [some (.ref 281), some (.int 0)]) (st' := [.int 1]) rfl ?_
                          refine g_ret (ins := .ireturn) (len := 1) (r := (some (.int 1))) rfl rfl rfl ?_
                          refine g_n 7 (pc' := 40) (L' := [some (.ref 281), some (.int 0), some (.int 2), some (.int c), some (.int d), some (.int e), some (.int 1), none]) (st' := [.int c]) rfl ?_
                          refine g_brF (c := c < (0 : Int32)) (t := 58) (f := 43) (L' := [some (.ref 281), some (.int 0), some (.int 2), some (.int c), some (.int d), some (.int e), some (.int 1), none]) (st' := []) rfl (x_Flt (l := 0) (u := 0) p73 (by decide) (by decide)) ?_
                          refine g_n 3 (pc' := 50) (L' := [some (.ref 281), some (.int 0), some (.int 2), some (.int c), some (.int d), some (.int e), some (.int 1), none]) (st' := [.int d]) rfl ?_
                          refine g_brF (c := d < (0 : Int32)) (t := 58) (f := 53) (L' := [some (.ref 281), some (.int 0), some (.int 2), some (.int c), some (.int d), some (.int e), some (.int 1), none]) (st' := []) rfl (x_Flt (l := 0) (u := 0) p97 (by decide) (by decide)) ?_
                          refine g_n 1 (pc' := 55) (L' := [some (.ref 281), some (.int 0), some (.int 2), some (.int c), some (.int d), some (.int e), some (.int 1), none]) (st' := [.int e]) rfl ?_
                          refine g_brT (c := (0 : Int32) ≤ e) (t := 60) (f := 58) (L' := [some (.ref 281), some (.int 0), some (.int 2), some (.int c), some (.int d), some (.int e), some (.int 1), none]) (st' := []) rfl (x_Tle (u := 0) (l := 0) (by decide) p95 (by decide)) ?_
                          refine g_n 6 (pc' := 71) (L' := [some (.ref 281), some (.int 0), some (.int 2), some (.int c), some (.int d), some (.int e), some (.int 1), none]) (st' := [.int (-2)]) rfl ?_
                          exact g_ret (ins := .ireturn) (len := 1) (r := (some (.int (-2)))) rfl rfl rfl ⟨_, rfl, rfl, (x_sv_rf _)⟩
                        · have q107 : ¬ b = 2 := h105
                          have p108 : 3 ≤ b.toInt := x_lo_ne q107 p104 (by decide)
                          have p109 : 4 ≤ b.toInt := x_lo_ne q30 p108 (by decide)
                          refine g_n 2 (pc' := 12) (L' := [some (.ref 281), some (.int 0), some (.int b), some (.int c), some (.int d), some (.int e), none, none]) (st' := [.int 3, .int b]) rfl ?_
                          refine g_brF (c := b ≤ (3 : Int32)) (t := 19) (f := 15) (L' := [some (.ref 281), some (.int 0), some (.int b), some (.int c), some (.int d), some (.int e), none, none]) (st' := []) rfl (x_Fle (l := 4) (u := 3) p109 (by decide) (by decide)) ?_
                          refine g_n 5 (pc' := 24) (L' := [some (.ref 281), some (.int 0), some (.int b), some (.int c), some (.int d), some (.int e), some (.int 1), none]) (st' := [.int 0, .ref 281]) rfl ?_
                          refine g_call (ins := .invokevirtual 1015) (len := 3) (j := 488) (as := [.ref 281, .int 0]) (rest := []) rfl rfl rfl rfl (fun _ => rfl) rfl ?_
                          refine g_in (M := x_M488) (L := [some (.ref 281), some (.int 0)]) x_pl488 rfl ?_
                          refine g_n 7 (pc' := 14) (L' := [some (.ref 281), some (.int 0)]) (st' := [.int 1]) rfl ?_
                          refine g_ret (ins := .ireturn) (len := 1) (r := (some (.int 1))) rfl rfl rfl ?_
                          refine g_n 2 (pc' := 31) (L' := [some (.ref 281), some (.int 0), some (.int b), some (.int c), some (.int d), some (.int e), some (.int 1), none]) (st' := [.int b]) rfl ?_
                          refine g_brF (c := b < (0 : Int32)) (t := 58) (f := 34) (L' := [some (.ref 281), some (.int 0), some (.int b), some (.int c), some (.int d), some (.int e), some (.int 1), none]) (st' := []) rfl (x_Flt (l := 4) (u := 0) p109 (by decide) (by decide)) ?_
                          refine g_n 2 (pc' := 36) (L' := [some (.ref 281), some (.int 0), some (.int b), some (.int c), some (.int d), some (.int e), some (.int 1), none]) (st' := [.int 5, .int b]) rfl ?_
                          refine g_brF (c := (5 : Int32) < b) (t := 58) (f := 39) (L' := [some (.ref 281), some (.int 0), some (.int b), some (.int c), some (.int d), some (.int e), some (.int 1), none]) (st' := []) rfl (x_Flt (l := 5) (u := 5) (by decide) p60 (by decide)) ?_
                          refine g_n 1 (pc' := 40) (L' := [some (.ref 281), some (.int 0), some (.int b), some (.int c), some (.int d), some (.int e), some (.int 1), none]) (st' := [.int c]) rfl ?_
                          refine g_brF (c := c < (0 : Int32)) (t := 58) (f := 43) (L' := [some (.ref 281), some (.int 0), some (.int b), some (.int c), some (.int d), some (.int e), some (.int 1), none]) (st' := []) rfl (x_Flt (l := 0) (u := 0) p73 (by decide) (by decide)) ?_
                          refine g_n 3 (pc' := 50) (L' := [some (.ref 281), some (.int 0), some (.int b), some (.int c), some (.int d), some (.int e), some (.int 1), none]) (st' := [.int d]) rfl ?_
                          refine g_brF (c := d < (0 : Int32)) (t := 58) (f := 53) (L' := [some (.ref 281), some (.int 0), some (.int b), some (.int c), some (.int d), some (.int e), some (.int 1), none]) (st' := []) rfl (x_Flt (l := 0) (u := 0) p97 (by decide) (by decide)) ?_
                          refine g_n 1 (pc' := 55) (L' := [some (.ref 281), some (.int 0), some (.int b), some (.int c), some (.int d), some (.int e), some (.int 1), none]) (st' := [.int e]) rfl ?_
                          refine g_brT (c := (0 : Int32) ≤ e) (t := 60) (f := 58) (L' := [some (.ref 281), some (.int 0), some (.int b), some (.int c), some (.int d), some (.int e), some (.int 1), none]) (st' := []) rfl (x_Tle (u := 0) (l := 0) (by decide) p95 (by decide)) ?_
                          refine g_n 6 (pc' := 71) (L' := [some (.ref 281), some (.int 0), some (.int b), some (.int c), some (.int d), some (.int e), some (.int 1), none]) (st' := [.int (-2)]) rfl ?_
                          exact g_ret (ins := .ireturn) (len := 1) (r := (some (.int (-2)))) rfl rfl rfl ⟨_, rfl, rfl, (x_sv_rf _)⟩
                    · have q110 : ¬ a = 0 := h98
                      have p111 : 1 ≤ a.toInt := x_lo_ne q110 p42 (by decide)
                      by_cases h112 : a = 1
                      · have e113 : a = 1 := h112
                        subst e113
                        refine g_aa (i := 1) (a := 2) (n := 4) (v := 50) rfl rfl (by decide) (x_at (x_f2 hF) (k := 1) rfl) ?_
                        refine g_n 5 (pc' := 71) (L' := [some (.ref 0), some (.int 1), some (.int b), some (.int c), some (.int d), some (.int e), some (.int 0), some (.ref 50)]) (st' := [.int (-2)]) rfl ?_
                        refine g_ret (ins := .ireturn) (len := 1) (r := (some (.int (-2)))) rfl rfl rfl ?_
                        refine ⟨⟨_, rfl⟩, ?_⟩
                        refine g_in (M := x_M495) (L := [some (.ref 281), some (.int 1), some (.int b), some (.int c), some (.int d), some (.int e), none, none]) x_pl495 rfl ?_
                        refine g_n 2 (pc' := 2) (L' := [some (.ref 281), some (.int 1), some (.int b), some (.int c), some (.int d), some (.int e), none, none]) (st' := [.int 1, .int b]) rfl ?_
                        refine g_br (c := b = (1 : Int32)) (t := 15) (f := 5) (L' := [some (.ref 281), some (.int 1), some (.int b), some (.int c), some (.int d), some (.int e), none, none]) (st' := []) rfl (fun h114 => ?_) (fun h114 => ?_)
                        · have e115 : b = 1 := h114
                          subst e115
                          refine g_n 5 (pc' := 24) (L' := [some (.ref 281), some (.int 1), some (.int 1), some (.int c), some (.int d), some (.int e), some (.int 1), none]) (st' := [.int 1, .ref 281]) rfl ?_
                          refine g_call (ins := .invokevirtual 1015) (len := 3) (j := 488) (as := [.ref 281, .int 1]) (rest := []) rfl rfl rfl rfl (fun _ => rfl) rfl ?_
                          refine g_in (M := x_M488) (L := [some (.ref 281), some (.int 1)]) x_pl488 rfl ?_
                          refine g_n 7 (pc' := 14) (L' := [some (.ref 281), some (.int 1)]) (st' := [.int 1]) rfl ?_
                          refine g_ret (ins := .ireturn) (len := 1) (r := (some (.int 1))) rfl rfl rfl ?_
                          refine g_n 7 (pc' := 40) (L' := [some (.ref 281), some (.int 1), some (.int 1), some (.int c), some (.int d), some (.int e), some (.int 1), none]) (st' := [.int c]) rfl ?_
                          refine g_brF (c := c < (0 : Int32)) (t := 58) (f := 43) (L' := [some (.ref 281), some (.int 1), some (.int 1), some (.int c), some (.int d), some (.int e), some (.int 1), none]) (st' := []) rfl (x_Flt (l := 0) (u := 0) p73 (by decide) (by decide)) ?_
                          refine g_n 3 (pc' := 50) (L' := [some (.ref 281), some (.int 1), some (.int 1), some (.int c), some (.int d), some (.int e), some (.int 1), none]) (st' := [.int d]) rfl ?_
                          refine g_brF (c := d < (0 : Int32)) (t := 58) (f := 53) (L' := [some (.ref 281), some (.int 1), some (.int 1), some (.int c), some (.int d), some (.int e), some (.int 1), none]) (st' := []) rfl (x_Flt (l := 0) (u := 0) p97 (by decide) (by decide)) ?_
                          refine g_n 1 (pc' := 55) (L' := [some (.ref 281), some (.int 1), some (.int 1), some (.int c), some (.int d), some (.int e), some (.int 1), none]) (st' := [.int e]) rfl ?_
                          refine g_brT (c := (0 : Int32) ≤ e) (t := 60) (f := 58) (L' := [some (.ref 281), some (.int 1), some (.int 1), some (.int c), some (.int d), some (.int e), some (.int 1), none]) (st' := []) rfl (x_Tle (u := 0) (l := 0) (by decide) p95 (by decide)) ?_
                          refine g_n 6 (pc' := 71) (L' := [some (.ref 281), some (.int 1), some (.int 1), some (.int c), some (.int d), some (.int e), some (.int 1), none]) (st' := [.int (-2)]) rfl ?_
                          exact g_ret (ins := .ireturn) (len := 1) (r := (some (.int (-2)))) rfl rfl rfl ⟨_, rfl, rfl, (x_sv_rf _)⟩
                        · have q116 : ¬ b = 1 := h114
                          have p117 : 1 ≤ b.toInt := x_lo_ne q28 p57 (by decide)
                          have p118 : 2 ≤ b.toInt := x_lo_ne q116 p117 (by decide)
                          refine g_n 2 (pc' := 7) (L' := [some (.ref 281), some (.int 1), some (.int b), some (.int c), some (.int d), some (.int e), none, none]) (st' := [.int 2, .int b]) rfl ?_
                          refine g_br (c := b = (2 : Int32)) (t := 15) (f := 10) (L' := [some (.ref 281), some (.int 1), some (.int b), some (.int c), some (.int d), some (.int e), none, none]) (st' := []) rfl (fun h119 => ?_) (fun h119 => ?_)
                          · have e120 : b = 2 := h119
                            subst e120
                            refine g_n 5 (pc' := 24) (L' := [some (.ref 281), some (.int 1), some (.int 2), some (.int c), some (.int d), some (.int e), some (.int 1), none]) (st' := [.int 1, .ref 281]) rfl ?_
                            refine g_call (ins := .invokevirtual 1015) (len := 3) (j := 488) (as := [.ref 281, .int 1]) (rest := []) rfl rfl rfl rfl (fun _ => rfl) rfl ?_
                            refine g_in (M := x_M488) (L := [some (.ref 281), some (.int 1)]) x_pl488 rfl ?_
                            refine g_n 7 (pc' := 14) (L' := [some (.ref 281), some (.int 1)]) (st' := [.int 1]) rfl ?_
                            refine g_ret (ins := .ireturn) (len := 1) (r := (some (.int 1))) rfl rfl rfl ?_
                            refine g_n 7 (pc' := 40) (L' := [some (.ref 281), some (.int 1), some (.int 2), some (.int c), some (.int d), some (.int e), some (.int 1), none]) (st' := [.int c]) rfl ?_
                            refine g_brF (c := c < (0 : Int32)) (t := 58) (f := 43) (L' := [some (.ref 281), some (.int 1), some (.int 2), some (.int c), some (.int d), some (.int e), some (.int 1), none]) (st' := []) rfl (x_Flt (l := 0) (u := 0) p73 (by decide) (by decide)) ?_
                            refine g_n 3 (pc' := 50) (L' := [some (.ref 281), some (.int 1), some (.int 2), some (.int c), some (.int d), some (.int e), some (.int 1), none]) (st' := [.int d]) rfl ?_
                            refine g_brF (c := d < (0 : Int32)) (t := 58) (f := 53) (L' := [some (.ref 281), some (.int 1), some (.int 2), some (.int c), some (.int d), some (.int e), some (.int 1), none]) (st' := []) rfl (x_Flt (l := 0) (u := 0) p97 (by decide) (by decide)) ?_
                            refine g_n 1 (pc' := 55) (L' := [some (.ref 281), some (.int 1), some (.int 2), some (.int c), some (.int d), some (.int e), some (.int 1), none]) (st' := [.int e]) rfl ?_
                            refine g_brT (c := (0 : Int32) ≤ e) (t := 60) (f := 58) (L' := [some (.ref 281), some (.int 1), some (.int 2), some (.int c), some (.int d), some (.int e), some (.int 1), none]) (st' := []) rfl (x_Tle (u := 0) (l := 0) (by decide) p95 (by decide)) ?_
                            refine g_n 6 (pc' := 71) (L' := [some (.ref 281), some (.int 1), some (.int 2), some (.int c), some (.int d), some (.int e), some (.int 1), none]) (st' := [.int (-2)]) rfl ?_
                            exact g_ret (ins := .ireturn) (len := 1) (r := (some (.int (-2)))) rfl rfl rfl ⟨_, rfl, rfl, (x_sv_rf _)⟩
                          · have q121 : ¬ b = 2 := h119
                            have p122 : 3 ≤ b.toInt := x_lo_ne q121 p118 (by decide)
                            have p123 : 4 ≤ b.toInt := x_lo_ne q30 p122 (by decide)
                            refine g_n 2 (pc' := 12) (L' := [some (.ref 281), some (.int 1), some (.int b), some (.int c), some (.int d), some (.int e), none, none]) (st' := [.int 3, .int b]) rfl ?_
                            refine g_brF (c := b ≤ (3 : Int32)) (t := 19) (f := 15) (L' := [some (.ref 281), some (.int 1), some (.int b), some (.int c), some (.int d), some (.int e), none, none]) (st' := []) rfl (x_Fle (l := 4) (u := 3) p123 (by decide) (by decide)) ?_
                            refine g_n 5 (pc' := 24) (L' := [some (.ref 281), some (.int 1), some (.int b), some (.int c), some (.int d), some (.int e), some (.int 1), none]) (st' := [.int 1, .ref 281]) rfl ?_
                            refine g_call (ins := .invokevirtual 1015) (len := 3) (j := 488) (as := [.ref 281, .int 1]) (rest := []) rfl rfl rfl rfl (fun _ => rfl) rfl ?_
                            refine g_in (M := x_M488) (L := [some (.ref 281), some (.int 1)]) x_pl488 rfl ?_
                            refine g_n 7 (pc' := 14) (L' := [some (.ref 281), some (.int 1)]) (st' := [.int 1]) rfl ?_
                            refine g_ret (ins := .ireturn) (len := 1) (r := (some (.int 1))) rfl rfl rfl ?_
                            refine g_n 2 (pc' := 31) (L' := [some (.ref 281), some (.int 1), some (.int b), some (.int c), some (.int d), some (.int e), some (.int 1), none]) (st' := [.int b]) rfl ?_
                            refine g_brF (c := b < (0 : Int32)) (t := 58) (f := 34) (L' := [some (.ref 281), some (.int 1), some (.int b), some (.int c), some (.int d), some (.int e), some (.int 1), none]) (st' := []) rfl (x_Flt (l := 4) (u := 0) p123 (by decide) (by decide)) ?_
                            refine g_n 2 (pc' := 36) (L' := [some (.ref 281), some (.int 1), some (.int b), some (.int c), some (.int d), some (.int e), some (.int 1), none]) (st' := [.int 5, .int b]) rfl ?_
                            refine g_brF (c := (5 : Int32) < b) (t := 58) (f := 39) (L' := [some (.ref 281), some (.int 1), some (.int b), some (.int c), some (.int d), some (.int e), some (.int 1), none]) (st' := []) rfl (x_Flt (l := 5) (u := 5) (by decide) p60 (by decide)) ?_
                            refine g_n 1 (pc' := 40) (L' := [some (.ref 281), some (.int 1), some (.int b), some (.int c), some (.int d), some (.int e), some (.int 1), none]) (st' := [.int c]) rfl ?_
                            refine g_brF (c := c < (0 : Int32)) (t := 58) (f := 43) (L' := [some (.ref 281), some (.int 1), some (.int b), some (.int c), some (.int d), some (.int e), some (.int 1), none]) (st' := []) rfl (x_Flt (l := 0) (u := 0) p73 (by decide) (by decide)) ?_
                            refine g_n 3 (pc' := 50) (L' := [some (.ref 281), some (.int 1), some (.int b), some (.int c), some (.int d), some (.int e), some (.int 1), none]) (st' := [.int d]) rfl ?_
                            refine g_brF (c := d < (0 : Int32)) (t := 58) (f := 53) (L' := [some (.ref 281), some (.int 1), some (.int b), some (.int c), some (.int d), some (.int e), some (.int 1), none]) (st' := []) rfl (x_Flt (l := 0) (u := 0) p97 (by decide) (by decide)) ?_
                            refine g_n 1 (pc' := 55) (L' := [some (.ref 281), some (.int 1), some (.int b), some (.int c), some (.int d), some (.int e), some (.int 1), none]) (st' := [.int e]) rfl ?_
                            refine g_brT (c := (0 : Int32) ≤ e) (t := 60) (f := 58) (L' := [some (.ref 281), some (.int 1), some (.int b), some (.int c), some (.int d), some (.int e), some (.int 1), none]) (st' := []) rfl (x_Tle (u := 0) (l := 0) (by decide) p95 (by decide)) ?_
                            refine g_n 6 (pc' := 71) (L' := [some (.ref 281), some (.int 1), some (.int b), some (.int c), some (.int d), some (.int e), some (.int 1), none]) (st' := [.int (-2)]) rfl ?_
                            exact g_ret (ins := .ireturn) (len := 1) (r := (some (.int (-2)))) rfl rfl rfl ⟨_, rfl, rfl, (x_sv_rf _)⟩
                      · have q124 : ¬ a = 1 := h112
                        have p125 : 2 ≤ a.toInt := x_lo_ne q124 p111 (by decide)
                        by_cases h126 : a = 2
                        · have e127 : a = 2 := h126
                          subst e127
                          refine g_aa (i := 2) (a := 2) (n := 4) (v := 73) rfl rfl (by decide) (x_at (x_f2 hF) (k := 2) rfl) ?_
                          refine g_n 5 (pc' := 71) (L' := [some (.ref 0), some (.int 2), some (.int b), some (.int c), some (.int d), some (.int e), some (.int 0), some (.ref 73)]) (st' := [.int (-2)]) rfl ?_
                          refine g_ret (ins := .ireturn) (len := 1) (r := (some (.int (-2)))) rfl rfl rfl ?_
                          refine ⟨⟨_, rfl⟩, ?_⟩
                          refine g_in (M := x_M495) (L := [some (.ref 281), some (.int 2), some (.int b), some (.int c), some (.int d), some (.int e), none, none]) x_pl495 rfl ?_
                          refine g_n 2 (pc' := 2) (L' := [some (.ref 281), some (.int 2), some (.int b), some (.int c), some (.int d), some (.int e), none, none]) (st' := [.int 1, .int b]) rfl ?_
                          refine g_br (c := b = (1 : Int32)) (t := 15) (f := 5) (L' := [some (.ref 281), some (.int 2), some (.int b), some (.int c), some (.int d), some (.int e), none, none]) (st' := []) rfl (fun h128 => ?_) (fun h128 => ?_)
                          · have e129 : b = 1 := h128
                            subst e129
                            refine g_n 5 (pc' := 24) (L' := [some (.ref 281), some (.int 2), some (.int 1), some (.int c), some (.int d), some (.int e), some (.int 1), none]) (st' := [.int 2, .ref 281]) rfl ?_
                            refine g_call (ins := .invokevirtual 1015) (len := 3) (j := 488) (as := [.ref 281, .int 2]) (rest := []) rfl rfl rfl rfl (fun _ => rfl) rfl ?_
                            refine g_in (M := x_M488) (L := [some (.ref 281), some (.int 2)]) x_pl488 rfl ?_
                            refine g_n 7 (pc' := 14) (L' := [some (.ref 281), some (.int 2)]) (st' := [.int 1]) rfl ?_
                            refine g_ret (ins := .ireturn) (len := 1) (r := (some (.int 1))) rfl rfl rfl ?_
                            refine g_n 7 (pc' := 40) (L' := [some (.ref 281), some (.int 2), some (.int 1), some (.int c), some (.int d), some (.int e), some (.int 1), none]) (st' := [.int c]) rfl ?_
                            refine g_brF (c := c < (0 : Int32)) (t := 58) (f := 43) (L' := [some (.ref 281), some (.int 2), some (.int 1), some (.int c), some (.int d), some (.int e), some (.int 1), none]) (st' := []) rfl (x_Flt (l := 0) (u := 0) p73 (by decide) (by decide)) ?_
                            refine g_n 3 (pc' := 50) (L' := [some (.ref 281), some (.int 2), some (.int 1), some (.int c), some (.int d), some (.int e), some (.int 1), none]) (st' := [.int d]) rfl ?_
                            refine g_brF (c := d < (0 : Int32)) (t := 58) (f := 53) (L' := [some (.ref 281), some (.int 2), some (.int 1), some (.int c), some (.int d), some (.int e), some (.int 1), none]) (st' := []) rfl (x_Flt (l := 0) (u := 0) p97 (by decide) (by decide)) ?_
                            refine g_n 1 (pc' := 55) (L' := [some (.ref 281), some (.int 2), some (.int 1), some (.int c), some (.int d), some (.int e), some (.int 1), none]) (st' := [.int e]) rfl ?_
                            refine g_brT (c := (0 : Int32) ≤ e) (t := 60) (f := 58) (L' := [some (.ref 281), some (.int 2), some (.int 1), some (.int c), some (.int d), some (.int e), some (.int 1), none]) (st' := []) rfl (x_Tle (u := 0) (l := 0) (by decide) p95 (by decide)) ?_
                            refine g_n 6 (pc' := 71) (L' := [some (.ref 281), some (.int 2), some (.int 1), some (.int c), some (.int d), some (.int e), some (.int 1), none]) (st' := [.int (-2)]) rfl ?_
                            exact g_ret (ins := .ireturn) (len := 1) (r := (some (.int (-2)))) rfl rfl rfl ⟨_, rfl, rfl, (x_sv_rf _)⟩
                          · have q130 : ¬ b = 1 := h128
                            have p131 : 1 ≤ b.toInt := x_lo_ne q28 p57 (by decide)
                            have p132 : 2 ≤ b.toInt := x_lo_ne q130 p131 (by decide)
                            refine g_n 2 (pc' := 7) (L' := [some (.ref 281), some (.int 2), some (.int b), some (.int c), some (.int d), some (.int e), none, none]) (st' := [.int 2, .int b]) rfl ?_
                            refine g_br (c := b = (2 : Int32)) (t := 15) (f := 10) (L' := [some (.ref 281), some (.int 2), some (.int b), some (.int c), some (.int d), some (.int e), none, none]) (st' := []) rfl (fun h133 => ?_) (fun h133 => ?_)
                            · have e134 : b = 2 := h133
                              subst e134
                              refine g_n 5 (pc' := 24) (L' := [some (.ref 281), some (.int 2), some (.int 2), some (.int c), some (.int d), some (.int e), some (.int 1), none]) (st' := [.int 2, .ref 281]) rfl ?_
                              refine g_call (ins := .invokevirtual 1015) (len := 3) (j := 488) (as := [.ref 281, .int 2]) (rest := []) rfl rfl rfl rfl (fun _ => rfl) rfl ?_
                              refine g_in (M := x_M488) (L := [some (.ref 281), some (.int 2)]) x_pl488 rfl ?_
                              refine g_n 7 (pc' := 14) (L' := [some (.ref 281), some (.int 2)]) (st' := [.int 1]) rfl ?_
                              refine g_ret (ins := .ireturn) (len := 1) (r := (some (.int 1))) rfl rfl rfl ?_
                              refine g_n 7 (pc' := 40) (L' := [some (.ref 281), some (.int 2), some (.int 2), some (.int c), some (.int d), some (.int e), some (.int 1), none]) (st' := [.int c]) rfl ?_
                              refine g_brF (c := c < (0 : Int32)) (t := 58) (f := 43) (L' := [some (.ref 281), some (.int 2), some (.int 2), some (.int c), some (.int d), some (.int e), some (.int 1), none]) (st' := []) rfl (x_Flt (l := 0) (u := 0) p73 (by decide) (by decide)) ?_
                              refine g_n 3 (pc' := 50) (L' := [some (.ref 281), some (.int 2), some (.int 2), some (.int c), some (.int d), some (.int e), some (.int 1), none]) (st' := [.int d]) rfl ?_
                              refine g_brF (c := d < (0 : Int32)) (t := 58) (f := 53) (L' := [some (.ref 281), some (.int 2), some (.int 2), some (.int c), some (.int d), some (.int e), some (.int 1), none]) (st' := []) rfl (x_Flt (l := 0) (u := 0) p97 (by decide) (by decide)) ?_
                              refine g_n 1 (pc' := 55) (L' := [some (.ref 281), some (.int 2), some (.int 2), some (.int c), some (.int d), some (.int e), some (.int 1), none]) (st' := [.int e]) rfl ?_
                              refine g_brT (c := (0 : Int32) ≤ e) (t := 60) (f := 58) (L' := [some (.ref 281), some (.int 2), some (.int 2), some (.int c), some (.int d), some (.int e), some (.int 1), none]) (st' := []) rfl (x_Tle (u := 0) (l := 0) (by decide) p95 (by decide)) ?_
                              refine g_n 6 (pc' := 71) (L' := [some (.ref 281), some (.int 2), some (.int 2), some (.int c), some (.int d), some (.int e), some (.int 1), none]) (st' := [.int (-2)]) rfl ?_
                              exact g_ret (ins := .ireturn) (len := 1) (r := (some (.int (-2)))) rfl rfl rfl ⟨_, rfl, rfl, (x_sv_rf _)⟩
                            · have q135 : ¬ b = 2 := h133
                              have p136 : 3 ≤ b.toInt := x_lo_ne q135 p132 (by decide)
                              have p137 : 4 ≤ b.toInt := x_lo_ne q30 p136 (by decide)
                              refine g_n 2 (pc' := 12) (L' := [some (.ref 281), some (.int 2), some (.int b), some (.int c), some (.int d), some (.int e), none, none]) (st' := [.int 3, .int b]) rfl ?_
                              refine g_brF (c := b ≤ (3 : Int32)) (t := 19) (f := 15) (L' := [some (.ref 281), some (.int 2), some (.int b), some (.int c), some (.int d), some (.int e), none, none]) (st' := []) rfl (x_Fle (l := 4) (u := 3) p137 (by decide) (by decide)) ?_
                              refine g_n 5 (pc' := 24) (L' := [some (.ref 281), some (.int 2), some (.int b), some (.int c), some (.int d), some (.int e), some (.int 1), none]) (st' := [.int 2, .ref 281]) rfl ?_
                              refine g_call (ins := .invokevirtual 1015) (len := 3) (j := 488) (as := [.ref 281, .int 2]) (rest := []) rfl rfl rfl rfl (fun _ => rfl) rfl ?_
                              refine g_in (M := x_M488) (L := [some (.ref 281), some (.int 2)]) x_pl488 rfl ?_
                              refine g_n 7 (pc' := 14) (L' := [some (.ref 281), some (.int 2)]) (st' := [.int 1]) rfl ?_
                              refine g_ret (ins := .ireturn) (len := 1) (r := (some (.int 1))) rfl rfl rfl ?_
                              refine g_n 2 (pc' := 31) (L' := [some (.ref 281), some (.int 2), some (.int b), some (.int c), some (.int d), some (.int e), some (.int 1), none]) (st' := [.int b]) rfl ?_
                              refine g_brF (c := b < (0 : Int32)) (t := 58) (f := 34) (L' := [some (.ref 281), some (.int 2), some (.int b), some (.int c), some (.int d), some (.int e), some (.int 1), none]) (st' := []) rfl (x_Flt (l := 4) (u := 0) p137 (by decide) (by decide)) ?_
                              refine g_n 2 (pc' := 36) (L' := [some (.ref 281), some (.int 2), some (.int b), some (.int c), some (.int d), some (.int e), some (.int 1), none]) (st' := [.int 5, .int b]) rfl ?_
                              refine g_brF (c := (5 : Int32) < b) (t := 58) (f := 39) (L' := [some (.ref 281), some (.int 2), some (.int b), some (.int c), some (.int d), some (.int e), some (.int 1), none]) (st' := []) rfl (x_Flt (l := 5) (u := 5) (by decide) p60 (by decide)) ?_
                              refine g_n 1 (pc' := 40) (L' := [some (.ref 281), some (.int 2), some (.int b), some (.int c), some (.int d), some (.int e), some (.int 1), none]) (st' := [.int c]) rfl ?_
                              refine g_brF (c := c < (0 : Int32)) (t := 58) (f := 43) (L' := [some (.ref 281), some (.int 2), some (.int b), some (.int c), some (.int d), some (.int e), some (.int 1), none]) (st' := []) rfl (x_Flt (l := 0) (u := 0) p73 (by decide) (by decide)) ?_
                              refine g_n 3 (pc' := 50) (L' := [some (.ref 281), some (.int 2), some (.int b), some (.int c), some (.int d), some (.int e), some (.int 1), none]) (st' := [.int d]) rfl ?_
                              refine g_brF (c := d < (0 : Int32)) (t := 58) (f := 53) (L' := [some (.ref 281), some (.int 2), some (.int b), some (.int c), some (.int d), some (.int e), some (.int 1), none]) (st' := []) rfl (x_Flt (l := 0) (u := 0) p97 (by decide) (by decide)) ?_
                              refine g_n 1 (pc' := 55) (L' := [some (.ref 281), some (.int 2), some (.int b), some (.int c), some (.int d), some (.int e), some (.int 1), none]) (st' := [.int e]) rfl ?_
                              refine g_brT (c := (0 : Int32) ≤ e) (t := 60) (f := 58) (L' := [some (.ref 281), some (.int 2), some (.int b), some (.int c), some (.int d), some (.int e), some (.int 1), none]) (st' := []) rfl (x_Tle (u := 0) (l := 0) (by decide) p95 (by decide)) ?_
                              refine g_n 6 (pc' := 71) (L' := [some (.ref 281), some (.int 2), some (.int b), some (.int c), some (.int d), some (.int e), some (.int 1), none]) (st' := [.int (-2)]) rfl ?_
                              exact g_ret (ins := .ireturn) (len := 1) (r := (some (.int (-2)))) rfl rfl rfl ⟨_, rfl, rfl, (x_sv_rf _)⟩
                        · have q138 : ¬ a = 2 := h126
                          have p139 : 3 ≤ a.toInt := x_lo_ne q138 p125 (by decide)
                          have e140 : a = 3 := x_sing p139 p54 (by decide)
                          subst e140
                          refine g_aa (i := 3) (a := 2) (n := 4) (v := 96) rfl rfl (by decide) (x_at (x_f2 hF) (k := 3) rfl) ?_
                          refine g_n 5 (pc' := 71) (L' := [some (.ref 0), some (.int 3), some (.int b), some (.int c), some (.int d), some (.int e), some (.int 0), some (.ref 96)]) (st' := [.int (-2)]) rfl ?_
                          refine g_ret (ins := .ireturn) (len := 1) (r := (some (.int (-2)))) rfl rfl rfl ?_
                          refine ⟨⟨_, rfl⟩, ?_⟩
                          refine g_in (M := x_M495) (L := [some (.ref 281), some (.int 3), some (.int b), some (.int c), some (.int d), some (.int e), none, none]) x_pl495 rfl ?_
                          refine g_n 2 (pc' := 2) (L' := [some (.ref 281), some (.int 3), some (.int b), some (.int c), some (.int d), some (.int e), none, none]) (st' := [.int 1, .int b]) rfl ?_
                          refine g_br (c := b = (1 : Int32)) (t := 15) (f := 5) (L' := [some (.ref 281), some (.int 3), some (.int b), some (.int c), some (.int d), some (.int e), none, none]) (st' := []) rfl (fun h141 => ?_) (fun h141 => ?_)
                          · have e142 : b = 1 := h141
                            subst e142
                            refine g_n 5 (pc' := 24) (L' := [some (.ref 281), some (.int 3), some (.int 1), some (.int c), some (.int d), some (.int e), some (.int 1), none]) (st' := [.int 3, .ref 281]) rfl ?_
                            refine g_call (ins := .invokevirtual 1015) (len := 3) (j := 488) (as := [.ref 281, .int 3]) (rest := []) rfl rfl rfl rfl (fun _ => rfl) rfl ?_
                            refine g_in (M := x_M488) (L := [some (.ref 281), some (.int 3)]) x_pl488 rfl ?_
                            refine g_n 7 (pc' := 14) (L' := [some (.ref 281), some (.int 3)]) (st' := [.int 1]) rfl ?_
                            refine g_ret (ins := .ireturn) (len := 1) (r := (some (.int 1))) rfl rfl rfl ?_
                            refine g_n 7 (pc' := 40) (L' := [some (.ref 281), some (.int 3), some (.int 1), some (.int c), some (.int d), some (.int e), some (.int 1), none]) (st' := [.int c]) rfl ?_
                            refine g_brF (c := c < (0 : Int32)) (t := 58) (f := 43) (L' := [some (.ref 281), some (.int 3), some (.int 1), some (.int c), some (.int d), some (.int e), some (.int 1), none]) (st' := []) rfl (x_Flt (l := 0) (u := 0) p73 (by decide) (by decide)) ?_
                            refine g_n 3 (pc' := 50) (L' := [some (.ref 281), some (.int 3), some (.int 1), some (.int c), some (.int d), some (.int e), some (.int 1), none]) (st' := [.int d]) rfl ?_
                            refine g_brF (c := d < (0 : Int32)) (t := 58) (f := 53) (L' := [some (.ref 281), some (.int 3), some (.int 1), some (.int c), some (.int d), some (.int e), some (.int 1), none]) (st' := []) rfl (x_Flt (l := 0) (u := 0) p97 (by decide) (by decide)) ?_
                            refine g_n 1 (pc' := 55) (L' := [some (.ref 281), some (.int 3), some (.int 1), some (.int c), some (.int d), some (.int e), some (.int 1), none]) (st' := [.int e]) rfl ?_
                            refine g_brT (c := (0 : Int32) ≤ e) (t := 60) (f := 58) (L' := [some (.ref 281), some (.int 3), some (.int 1), some (.int c), some (.int d), some (.int e), some (.int 1), none]) (st' := []) rfl (x_Tle (u := 0) (l := 0) (by decide) p95 (by decide)) ?_
                            refine g_n 6 (pc' := 71) (L' := [some (.ref 281), some (.int 3), some (.int 1), some (.int c), some (.int d), some (.int e), some (.int 1), none]) (st' := [.int (-2)]) rfl ?_
                            exact g_ret (ins := .ireturn) (len := 1) (r := (some (.int (-2)))) rfl rfl rfl ⟨_, rfl, rfl, (x_sv_rf _)⟩
                          · have q143 : ¬ b = 1 := h141
                            have p144 : 1 ≤ b.toInt := x_lo_ne q28 p57 (by decide)
                            have p145 : 2 ≤ b.toInt := x_lo_ne q143 p144 (by decide)
                            refine g_n 2 (pc' := 7) (L' := [some (.ref 281), some (.int 3), some (.int b), some (.int c), some (.int d), some (.int e), none, none]) (st' := [.int 2, .int b]) rfl ?_
                            refine g_br (c := b = (2 : Int32)) (t := 15) (f := 10) (L' := [some (.ref 281), some (.int 3), some (.int b), some (.int c), some (.int d), some (.int e), none, none]) (st' := []) rfl (fun h146 => ?_) (fun h146 => ?_)
                            · have e147 : b = 2 := h146
                              subst e147
                              refine g_n 5 (pc' := 24) (L' := [some (.ref 281), some (.int 3), some (.int 2), some (.int c), some (.int d), some (.int e), some (.int 1), none]) (st' := [.int 3, .ref 281]) rfl ?_
                              refine g_call (ins := .invokevirtual 1015) (len := 3) (j := 488) (as := [.ref 281, .int 3]) (rest := []) rfl rfl rfl rfl (fun _ => rfl) rfl ?_
                              refine g_in (M := x_M488) (L := [some (.ref 281), some (.int 3)]) x_pl488 rfl ?_
                              refine g_n 7 (pc' := 14) (L' := [some (.ref 281), some (.int 3)]) (st' := [.int 1]) rfl ?_
                              refine g_ret (ins := .ireturn) (len := 1) (r := (some (.int 1))) rfl rfl rfl ?_
                              refine g_n 7 (pc' := 40) (L' := [some (.ref 281), some (.int 3), some (.int 2), some (.int c), some (.int d), some (.int e), some (.int 1), none]) (st' := [.int c]) rfl ?_
                              refine g_brF (c := c < (0 : Int32)) (t := 58) (f := 43) (L' := [some (.ref 281), some (.int 3), some (.int 2), some (.int c), some (.int d), some (.int e), some (.int 1), none]) (st' := []) rfl (x_Flt (l := 0) (u := 0) p73 (by decide) (by decide)) ?_
                              refine g_n 3 (pc' := 50) (L' := [some (.ref 281), some (.int 3), some (.int 2), some (.int c), some (.int d), some (.int e), some (.int 1), none]) (st' := [.int d]) rfl ?_
                              refine g_brF (c := d < (0 : Int32)) (t := 58) (f := 53) (L' := [some (.ref 281), some (.int 3), some (.int 2), some (.int c), some (.int d), some (.int e), some (.int 1), none]) (st' := []) rfl (x_Flt (l := 0) (u := 0) p97 (by decide) (by decide)) ?_
                              refine g_n 1 (pc' := 55) (L' := [some (.ref 281), some (.int 3), some (.int 2), some (.int c), some (.int d), some (.int e), some (.int 1), none]) (st' := [.int e]) rfl ?_
                              refine g_brT (c := (0 : Int32) ≤ e) (t := 60) (f := 58) (L' := [some (.ref 281), some (.int 3), some (.int 2), some (.int c), some (.int d), some (.int e), some (.int 1), none]) (st' := []) rfl (x_Tle (u := 0) (l := 0) (by decide) p95 (by decide)) ?_
                              refine g_n 6 (pc' := 71) (L' := [some (.ref 281), some (.int 3), some (.int 2), some (.int c), some (.int d), some (.int e), some (.int 1), none]) (st' := [.int (-2)]) rfl ?_
                              exact g_ret (ins := .ireturn) (len := 1) (r := (some (.int (-2)))) rfl rfl rfl ⟨_, rfl, rfl, (x_sv_rf _)⟩
                            · have q148 : ¬ b = 2 := h146
                              have p149 : 3 ≤ b.toInt := x_lo_ne q148 p145 (by decide)
                              have p150 : 4 ≤ b.toInt := x_lo_ne q30 p149 (by decide)
                              refine g_n 2 (pc' := 12) (L' := [some (.ref 281), some (.int 3), some (.int b), some (.int c), some (.int d), some (.int e), none, none]) (st' := [.int 3, .int b]) rfl ?_
                              refine g_brF (c := b ≤ (3 : Int32)) (t := 19) (f := 15) (L' := [some (.ref 281), some (.int 3), some (.int b), some (.int c), some (.int d), some (.int e), none, none]) (st' := []) rfl (x_Fle (l := 4) (u := 3) p150 (by decide) (by decide)) ?_
                              refine g_n 5 (pc' := 24) (L' := [some (.ref 281), some (.int 3), some (.int b), some (.int c), some (.int d), some (.int e), some (.int 1), none]) (st' := [.int 3, .ref 281]) rfl ?_
                              refine g_call (ins := .invokevirtual 1015) (len := 3) (j := 488) (as := [.ref 281, .int 3]) (rest := []) rfl rfl rfl rfl (fun _ => rfl) rfl ?_
                              refine g_in (M := x_M488) (L := [some (.ref 281), some (.int 3)]) x_pl488 rfl ?_
                              refine g_n 7 (pc' := 14) (L' := [some (.ref 281), some (.int 3)]) (st' := [.int 1]) rfl ?_
                              refine g_ret (ins := .ireturn) (len := 1) (r := (some (.int 1))) rfl rfl rfl ?_
                              refine g_n 2 (pc' := 31) (L' := [some (.ref 281), some (.int 3), some (.int b), some (.int c), some (.int d), some (.int e), some (.int 1), none]) (st' := [.int b]) rfl ?_
                              refine g_brF (c := b < (0 : Int32)) (t := 58) (f := 34) (L' := [some (.ref 281), some (.int 3), some (.int b), some (.int c), some (.int d), some (.int e), some (.int 1), none]) (st' := []) rfl (x_Flt (l := 4) (u := 0) p150 (by decide) (by decide)) ?_
                              refine g_n 2 (pc' := 36) (L' := [some (.ref 281), some (.int 3), some (.int b), some (.int c), some (.int d), some (.int e), some (.int 1), none]) (st' := [.int 5, .int b]) rfl ?_
                              refine g_brF (c := (5 : Int32) < b) (t := 58) (f := 39) (L' := [some (.ref 281), some (.int 3), some (.int b), some (.int c), some (.int d), some (.int e), some (.int 1), none]) (st' := []) rfl (x_Flt (l := 5) (u := 5) (by decide) p60 (by decide)) ?_
                              refine g_n 1 (pc' := 40) (L' := [some (.ref 281), some (.int 3), some (.int b), some (.int c), some (.int d), some (.int e), some (.int 1), none]) (st' := [.int c]) rfl ?_
                              refine g_brF (c := c < (0 : Int32)) (t := 58) (f := 43) (L' := [some (.ref 281), some (.int 3), some (.int b), some (.int c), some (.int d), some (.int e), some (.int 1), none]) (st' := []) rfl (x_Flt (l := 0) (u := 0) p73 (by decide) (by decide)) ?_
                              refine g_n 3 (pc' := 50) (L' := [some (.ref 281), some (.int 3), some (.int b), some (.int c), some (.int d), some (.int e), some (.int 1), none]) (st' := [.int d]) rfl ?_
                              refine g_brF (c := d < (0 : Int32)) (t := 58) (f := 53) (L' := [some (.ref 281), some (.int 3), some (.int b), some (.int c), some (.int d), some (.int e), some (.int 1), none]) (st' := []) rfl (x_Flt (l := 0) (u := 0) p97 (by decide) (by decide)) ?_
                              refine g_n 1 (pc' := 55) (L' := [some (.ref 281), some (.int 3), some (.int b), some (.int c), some (.int d), some (.int e), some (.int 1), none]) (st' := [.int e]) rfl ?_
                              refine g_brT (c := (0 : Int32) ≤ e) (t := 60) (f := 58) (L' := [some (.ref 281), some (.int 3), some (.int b), some (.int c), some (.int d), some (.int e), some (.int 1), none]) (st' := []) rfl (x_Tle (u := 0) (l := 0) (by decide) p95 (by decide)) ?_
                              refine g_n 6 (pc' := 71) (L' := [some (.ref 281), some (.int 3), some (.int b), some (.int c), some (.int d), some (.int e), some (.int 1), none]) (st' := [.int (-2)]) rfl ?_
                              exact g_ret (ins := .ireturn) (len := 1) (r := (some (.int (-2)))) rfl rfl rfl ⟨_, rfl, rfl, (x_sv_rf _)⟩
                  · have p151 : d.toInt ≤ -1 := x_up_lt (x_nle h96) (by decide)
                    refine g_n 1 (pc' := 52) (L' := [some (.ref 0), some (.int a), some (.int b), some (.int c), some (.int d), some (.int e), some (.int 0), none]) (st' := [.int (-1)]) rfl ?_
                    refine g_ret (ins := .ireturn) (len := 1) (r := (some (.int (-1)))) rfl rfl rfl ?_
                    refine ⟨⟨_, rfl⟩, ?_⟩
                    refine g_in (M := x_M495) (L := [some (.ref 281), some (.int a), some (.int b), some (.int c), some (.int d), some (.int e), none, none]) x_pl495 rfl ?_
                    refine g_n 2 (pc' := 2) (L' := [some (.ref 281), some (.int a), some (.int b), some (.int c), some (.int d), some (.int e), none, none]) (st' := [.int 1, .int b]) rfl ?_
                    refine g_br (c := b = (1 : Int32)) (t := 15) (f := 5) (L' := [some (.ref 281), some (.int a), some (.int b), some (.int c), some (.int d), some (.int e), none, none]) (st' := []) rfl (fun h152 => ?_) (fun h152 => ?_)
                    · have e153 : b = 1 := h152
                      subst e153
                      refine g_n 5 (pc' := 24) (L' := [some (.ref 281), some (.int a), some (.int 1), some (.int c), some (.int d), some (.int e), some (.int 1), none]) (st' := [.int a, .ref 281]) rfl ?_
                      refine g_call (ins := .invokevirtual 1015) (len := 3) (j := 488) (as := [.ref 281, .int a]) (rest := []) rfl rfl rfl rfl (fun _ => rfl) rfl ?_
                      refine g_in (M := x_M488) (L := [some (.ref 281), some (.int a)]) x_pl488 rfl ?_
                      refine g_n 1 (pc' := 1) (L' := [some (.ref 281), some (.int a)]) (st' := [.int a]) rfl ?_
                      refine g_brF (c := a < (0 : Int32)) (t := 13) (f := 4) (L' := [some (.ref 281), some (.int a)]) (st' := []) rfl (x_Flt (l := 0) (u := 0) p42 (by decide) (by decide)) ?_
                      refine g_n 2 (pc' := 6) (L' := [some (.ref 281), some (.int a)]) (st' := [.int 4, .int a]) rfl ?_
                      refine g_brF (c := (4 : Int32) ≤ a) (t := 13) (f := 9) (L' := [some (.ref 281), some (.int a)]) (st' := []) rfl (x_Fle (l := 4) (u := 3) (by decide) p54 (by decide)) ?_
                      refine g_n 2 (pc' := 14) (L' := [some (.ref 281), some (.int a)]) (st' := [.int 1]) rfl ?_
                      refine g_ret (ins := .ireturn) (len := 1) (r := (some (.int 1))) rfl rfl rfl ?_
                      refine g_n 7 (pc' := 40) (L' := [some (.ref 281), some (.int a), some (.int 1), some (.int c), some (.int d), some (.int e), some (.int 1), none]) (st' := [.int c]) rfl ?_
                      refine g_brF (c := c < (0 : Int32)) (t := 58) (f := 43) (L' := [some (.ref 281), some (.int a), some (.int 1), some (.int c), some (.int d), some (.int e), some (.int 1), none]) (st' := []) rfl (x_Flt (l := 0) (u := 0) p73 (by decide) (by decide)) ?_
                      refine g_n 3 (pc' := 50) (L' := [some (.ref 281), some (.int a), some (.int 1), some (.int c), some (.int d), some (.int e), some (.int 1), none]) (st' := [.int d]) rfl ?_
                      refine g_brT (c := d < (0 : Int32)) (t := 58) (f := 53) (L' := [some (.ref 281), some (.int a), some (.int 1), some (.int c), some (.int d), some (.int e), some (.int 1), none]) (st' := []) rfl (x_Tlt (u := -1) (l := 0) p151 (by decide) (by decide)) ?_
                      refine g_n 1 (pc' := 59) (L' := [some (.ref 281), some (.int a), some (.int 1), some (.int c), some (.int d), some (.int e), some (.int 1), none]) (st' := [.int (-1)]) rfl ?_
                      exact g_ret (ins := .ireturn) (len := 1) (r := (some (.int (-1)))) rfl rfl rfl ⟨_, rfl, rfl, (x_sv_rf _)⟩
                    · have q154 : ¬ b = 1 := h152
                      have p155 : 1 ≤ b.toInt := x_lo_ne q28 p57 (by decide)
                      have p156 : 2 ≤ b.toInt := x_lo_ne q154 p155 (by decide)
                      refine g_n 2 (pc' := 7) (L' := [some (.ref 281), some (.int a), some (.int b), some (.int c), some (.int d), some (.int e), none, none]) (st' := [.int 2, .int b]) rfl ?_
                      refine g_br (c := b = (2 : Int32)) (t := 15) (f := 10) (L' := [some (.ref 281), some (.int a), some (.int b), some (.int c), some (.int d), some (.int e), none, none]) (st' := []) rfl (fun h157 => ?_) (fun h157 => ?_)
                      · have e158 : b = 2 := h157
                        subst e158
                        refine g_n 5 (pc' := 24) (L' := [some (.ref 281), some (.int a), some (.int 2), some (.int c), some (.int d), some (.int e), some (.int 1), none]) (st' := [.int a, .ref 281]) rfl ?_
                        refine g_call (ins := .invokevirtual 1015) (len := 3) (j := 488) (as := [.ref 281, .int a]) (rest := []) rfl rfl rfl rfl (fun _ => rfl) rfl ?_
                        refine g_in (M := x_M488) (L := [some (.ref 281), some (.int a)]) x_pl488 rfl ?_
                        refine g_n 1 (pc' := 1) (L' := [some (.ref 281), some (.int a)]) (st' := [.int a]) rfl ?_
                        refine g_brF (c := a < (0 : Int32)) (t := 13) (f := 4) (L' := [some (.ref 281), some (.int a)]) (st' := []) rfl (x_Flt (l := 0) (u := 0) p42 (by decide) (by decide)) ?_
                        refine g_n 2 (pc' := 6) (L' := [some (.ref 281), some (.int a)]) (st' := [.int 4, .int a]) rfl ?_
                        refine g_brF (c := (4 : Int32) ≤ a) (t := 13) (f := 9) (L' := [some (.ref 281), some (.int a)]) (st' := []) rfl (x_Fle (l := 4) (u := 3) (by decide) p54 (by decide)) ?_
                        refine g_n 2 (pc' := 14) (L' := [some (.ref 281), some (.int a)]) (st' := [.int 1]) rfl ?_
                        refine g_ret (ins := .ireturn) (len := 1) (r := (some (.int 1))) rfl rfl rfl ?_
                        refine g_n 7 (pc' := 40) (L' := [some (.ref 281), some (.int a), some (.int 2), some (.int c), some (.int d), some (.int e), some (.int 1), none]) (st' := [.int c]) rfl ?_
                        refine g_brF (c := c < (0 : Int32)) (t := 58) (f := 43) (L' := [some (.ref 281), some (.int a), some (.int 2), some (.int c), some (.int d), some (.int e), some (.int 1), none]) (st' := []) rfl (x_Flt (l := 0) (u := 0) p73 (by decide) (by decide)) ?_
                        refine g_n 3 (pc' := 50) (L' := [some (.ref 281), some (.int a), some (.int 2), some (.int c), some (.int d), some (.int e), some (.int 1), none]) (st' := [.int d]) rfl ?_
                        refine g_brT (c := d < (0 : Int32)) (t := 58) (f := 53) (L' := [some (.ref 281), some (.int a), some (.int 2), some (.int c), some (.int d), some (.int e), some (.int 1), none]) (st' := []) rfl (x_Tlt (u := -1) (l := 0) p151 (by decide) (by decide)) ?_
                        refine g_n 1 (pc' := 59) (L' := [some (.ref 281), some (.int a), some (.int 2), some (.int c), some (.int d), some (.int e), some (.int 1), none]) (st' := [.int (-1)]) rfl ?_
                        exact g_ret (ins := .ireturn) (len := 1) (r := (some (.int (-1)))) rfl rfl rfl ⟨_, rfl, rfl, (x_sv_rf _)⟩
                      · have q159 : ¬ b = 2 := h157
                        have p160 : 3 ≤ b.toInt := x_lo_ne q159 p156 (by decide)
                        have p161 : 4 ≤ b.toInt := x_lo_ne q30 p160 (by decide)
                        refine g_n 2 (pc' := 12) (L' := [some (.ref 281), some (.int a), some (.int b), some (.int c), some (.int d), some (.int e), none, none]) (st' := [.int 3, .int b]) rfl ?_
                        refine g_brF (c := b ≤ (3 : Int32)) (t := 19) (f := 15) (L' := [some (.ref 281), some (.int a), some (.int b), some (.int c), some (.int d), some (.int e), none, none]) (st' := []) rfl (x_Fle (l := 4) (u := 3) p161 (by decide) (by decide)) ?_
                        refine g_n 5 (pc' := 24) (L' := [some (.ref 281), some (.int a), some (.int b), some (.int c), some (.int d), some (.int e), some (.int 1), none]) (st' := [.int a, .ref 281]) rfl ?_
                        refine g_call (ins := .invokevirtual 1015) (len := 3) (j := 488) (as := [.ref 281, .int a]) (rest := []) rfl rfl rfl rfl (fun _ => rfl) rfl ?_
                        refine g_in (M := x_M488) (L := [some (.ref 281), some (.int a)]) x_pl488 rfl ?_
                        refine g_n 1 (pc' := 1) (L' := [some (.ref 281), some (.int a)]) (st' := [.int a]) rfl ?_
                        refine g_brF (c := a < (0 : Int32)) (t := 13) (f := 4) (L' := [some (.ref 281), some (.int a)]) (st' := []) rfl (x_Flt (l := 0) (u := 0) p42 (by decide) (by decide)) ?_
                        refine g_n 2 (pc' := 6) (L' := [some (.ref 281), some (.int a)]) (st' := [.int 4, .int a]) rfl ?_
                        refine g_brF (c := (4 : Int32) ≤ a) (t := 13) (f := 9) (L' := [some (.ref 281), some (.int a)]) (st' := []) rfl (x_Fle (l := 4) (u := 3) (by decide) p54 (by decide)) ?_
                        refine g_n 2 (pc' := 14) (L' := [some (.ref 281), some (.int a)]) (st' := [.int 1]) rfl ?_
                        refine g_ret (ins := .ireturn) (len := 1) (r := (some (.int 1))) rfl rfl rfl ?_
                        refine g_n 2 (pc' := 31) (L' := [some (.ref 281), some (.int a), some (.int b), some (.int c), some (.int d), some (.int e), some (.int 1), none]) (st' := [.int b]) rfl ?_
                        refine g_brF (c := b < (0 : Int32)) (t := 58) (f := 34) (L' := [some (.ref 281), some (.int a), some (.int b), some (.int c), some (.int d), some (.int e), some (.int 1), none]) (st' := []) rfl (x_Flt (l := 4) (u := 0) p161 (by decide) (by decide)) ?_
                        refine g_n 2 (pc' := 36) (L' := [some (.ref 281), some (.int a), some (.int b), some (.int c), some (.int d), some (.int e), some (.int 1), none]) (st' := [.int 5, .int b]) rfl ?_
                        refine g_brF (c := (5 : Int32) < b) (t := 58) (f := 39) (L' := [some (.ref 281), some (.int a), some (.int b), some (.int c), some (.int d), some (.int e), some (.int 1), none]) (st' := []) rfl (x_Flt (l := 5) (u := 5) (by decide) p60 (by decide)) ?_
                        refine g_n 1 (pc' := 40) (L' := [some (.ref 281), some (.int a), some (.int b), some (.int c), some (.int d), some (.int e), some (.int 1), none]) (st' := [.int c]) rfl ?_
                        refine g_brF (c := c < (0 : Int32)) (t := 58) (f := 43) (L' := [some (.ref 281), some (.int a), some (.int b), some (.int c), some (.int d), some (.int e), some (.int 1), none]) (st' := []) rfl (x_Flt (l := 0) (u := 0) p73 (by decide) (by decide)) ?_
                        refine g_n 3 (pc' := 50) (L' := [some (.ref 281), some (.int a), some (.int b), some (.int c), some (.int d), some (.int e), some (.int 1), none]) (st' := [.int d]) rfl ?_
                        refine g_brT (c := d < (0 : Int32)) (t := 58) (f := 53) (L' := [some (.ref 281), some (.int a), some (.int b), some (.int c), some (.int d), some (.int e), some (.int 1), none]) (st' := []) rfl (x_Tlt (u := -1) (l := 0) p151 (by decide) (by decide)) ?_
                        refine g_n 1 (pc' := 59) (L' := [some (.ref 281), some (.int a), some (.int b), some (.int c), some (.int d), some (.int e), some (.int 1), none]) (st' := [.int (-1)]) rfl ?_
                        exact g_ret (ins := .ireturn) (len := 1) (r := (some (.int (-1)))) rfl rfl rfl ⟨_, rfl, rfl, (x_sv_rf _)⟩
    · have e162 : b = 3 := (Decidable.of_not_not h29)
      subst e162
      refine g_n 4 (pc' := 17) (L' := [some (.ref 0), some (.int a), some (.int 3), some (.int c), some (.int d), some (.int e), some (.int 1), none]) (st' := [.int a]) rfl ?_
      refine g_call (ins := .invokestatic 173) (len := 3) (j := 348) (as := [.int a]) (rest := []) rfl rfl rfl rfl (fun _ => rfl) rfl ?_
      refine g_in (M := x_M348) (L := [some (.int a)]) x_pl348 rfl ?_
      refine g_n 1 (pc' := 1) (L' := [some (.int a)]) (st' := [.int a]) rfl ?_
      refine g_br (c := a < (0 : Int32)) (t := 13) (f := 4) (L' := [some (.int a)]) (st' := []) rfl (fun h163 => ?_) (fun h163 => ?_)
      · have p164 : a.toInt ≤ -1 := x_up_lt h163 (by decide)
        refine g_n 1 (pc' := 14) (L' := [some (.int a)]) (st' := [.int 0]) rfl ?_
        refine g_ret (ins := .ireturn) (len := 1) (r := (some (.int 0))) rfl rfl rfl ?_
        refine g_n 2 (pc' := 52) (L' := [some (.ref 0), some (.int a), some (.int 3), some (.int c), some (.int d), some (.int e), some (.int 1), none]) (st' := [.int (-1)]) rfl ?_
        refine g_ret (ins := .ireturn) (len := 1) (r := (some (.int (-1)))) rfl rfl rfl ?_
        refine ⟨⟨_, rfl⟩, ?_⟩
        refine g_in (M := x_M495) (L := [some (.ref 281), some (.int a), some (.int 3), some (.int c), some (.int d), some (.int e), none, none]) x_pl495 rfl ?_
        refine g_n 13 (pc' := 24) (L' := [some (.ref 281), some (.int a), some (.int 3), some (.int c), some (.int d), some (.int e), some (.int 0), none]) (st' := [.int a, .ref 281]) rfl ?_
        refine g_call (ins := .invokevirtual 1015) (len := 3) (j := 488) (as := [.ref 281, .int a]) (rest := []) rfl rfl rfl rfl (fun _ => rfl) rfl ?_
        refine g_in (M := x_M488) (L := [some (.ref 281), some (.int a)]) x_pl488 rfl ?_
        refine g_n 1 (pc' := 1) (L' := [some (.ref 281), some (.int a)]) (st' := [.int a]) rfl ?_
        refine g_brT (c := a < (0 : Int32)) (t := 13) (f := 4) (L' := [some (.ref 281), some (.int a)]) (st' := []) rfl (x_Tlt (u := -1) (l := 0) p164 (by decide) (by decide)) ?_
        refine g_n 1 (pc' := 14) (L' := [some (.ref 281), some (.int a)]) (st' := [.int 0]) rfl ?_
        refine g_ret (ins := .ireturn) (len := 1) (r := (some (.int 0))) rfl rfl rfl ?_
        refine g_n 2 (pc' := 59) (L' := [some (.ref 281), some (.int a), some (.int 3), some (.int c), some (.int d), some (.int e), some (.int 0), none]) (st' := [.int (-1)]) rfl ?_
        exact g_ret (ins := .ireturn) (len := 1) (r := (some (.int (-1)))) rfl rfl rfl ⟨_, rfl, rfl, (x_sv_rf _)⟩
      · have p165 : 0 ≤ a.toInt := x_lo_le (x_nlt h163) (by decide)
        refine g_n 2 (pc' := 6) (L' := [some (.int a)]) (st' := [.int 4, .int a]) rfl ?_
        refine g_br (c := (4 : Int32) ≤ a) (t := 13) (f := 9) (L' := [some (.int a)]) (st' := []) rfl (fun h166 => ?_) (fun h166 => ?_)
        · have p167 : 4 ≤ a.toInt := x_lo_le h166 (by decide)
          refine g_n 1 (pc' := 14) (L' := [some (.int a)]) (st' := [.int 0]) rfl ?_
          refine g_ret (ins := .ireturn) (len := 1) (r := (some (.int 0))) rfl rfl rfl ?_
          refine g_n 2 (pc' := 52) (L' := [some (.ref 0), some (.int a), some (.int 3), some (.int c), some (.int d), some (.int e), some (.int 1), none]) (st' := [.int (-1)]) rfl ?_
          refine g_ret (ins := .ireturn) (len := 1) (r := (some (.int (-1)))) rfl rfl rfl ?_
          refine ⟨⟨_, rfl⟩, ?_⟩
          refine g_in (M := x_M495) (L := [some (.ref 281), some (.int a), some (.int 3), some (.int c), some (.int d), some (.int e), none, none]) x_pl495 rfl ?_
          refine g_n 13 (pc' := 24) (L' := [some (.ref 281), some (.int a), some (.int 3), some (.int c), some (.int d), some (.int e), some (.int 0), none]) (st' := [.int a, .ref 281]) rfl ?_
          refine g_call (ins := .invokevirtual 1015) (len := 3) (j := 488) (as := [.ref 281, .int a]) (rest := []) rfl rfl rfl rfl (fun _ => rfl) rfl ?_
          refine g_in (M := x_M488) (L := [some (.ref 281), some (.int a)]) x_pl488 rfl ?_
          refine g_n 1 (pc' := 1) (L' := [some (.ref 281), some (.int a)]) (st' := [.int a]) rfl ?_
          refine g_brF (c := a < (0 : Int32)) (t := 13) (f := 4) (L' := [some (.ref 281), some (.int a)]) (st' := []) rfl (x_Flt (l := 4) (u := 0) p167 (by decide) (by decide)) ?_
          refine g_n 2 (pc' := 6) (L' := [some (.ref 281), some (.int a)]) (st' := [.int 4, .int a]) rfl ?_
          refine g_brT (c := (4 : Int32) ≤ a) (t := 13) (f := 9) (L' := [some (.ref 281), some (.int a)]) (st' := []) rfl (x_Tle (u := 4) (l := 4) (by decide) p167 (by decide)) ?_
          refine g_n 1 (pc' := 14) (L' := [some (.ref 281), some (.int a)]) (st' := [.int 0]) rfl ?_
          refine g_ret (ins := .ireturn) (len := 1) (r := (some (.int 0))) rfl rfl rfl ?_
          refine g_n 2 (pc' := 59) (L' := [some (.ref 281), some (.int a), some (.int 3), some (.int c), some (.int d), some (.int e), some (.int 0), none]) (st' := [.int (-1)]) rfl ?_
          exact g_ret (ins := .ireturn) (len := 1) (r := (some (.int (-1)))) rfl rfl rfl ⟨_, rfl, rfl, (x_sv_rf _)⟩
        · have p168 : a.toInt ≤ 3 := x_up_lt (x_nle h166) (by decide)
          refine g_n 2 (pc' := 14) (L' := [some (.int a)]) (st' := [.int 1]) rfl ?_
          refine g_ret (ins := .ireturn) (len := 1) (r := (some (.int 1))) rfl rfl rfl ?_
          refine g_n 7 (pc' := 33) (L' := [some (.ref 0), some (.int a), some (.int 3), some (.int c), some (.int d), some (.int e), some (.int 1), none]) (st' := [.int c]) rfl ?_
          refine g_br (c := c < (0 : Int32)) (t := 51) (f := 36) (L' := [some (.ref 0), some (.int a), some (.int 3), some (.int c), some (.int d), some (.int e), some (.int 1), none]) (st' := []) rfl (fun h169 => ?_) (fun h169 => ?_)
          · have p170 : c.toInt ≤ -1 := x_up_lt h169 (by decide)
            refine g_n 1 (pc' := 52) (L' := [some (.ref 0), some (.int a), some (.int 3), some (.int c), some (.int d), some (.int e), some (.int 1), none]) (st' := [.int (-1)]) rfl ?_
            refine g_ret (ins := .ireturn) (len := 1) (r := (some (.int (-1)))) rfl rfl rfl ?_
            refine ⟨⟨_, rfl⟩, ?_⟩
            refine g_in (M := x_M495) (L := [some (.ref 281), some (.int a), some (.int 3), some (.int c), some (.int d), some (.int e), none, none]) x_pl495 rfl ?_
            refine g_n 13 (pc' := 24) (L' := [some (.ref 281), some (.int a), some (.int 3), some (.int c), some (.int d), some (.int e), some (.int 0), none]) (st' := [.int a, .ref 281]) rfl ?_
            refine g_call (ins := .invokevirtual 1015) (len := 3) (j := 488) (as := [.ref 281, .int a]) (rest := []) rfl rfl rfl rfl (fun _ => rfl) rfl ?_
            refine g_in (M := x_M488) (L := [some (.ref 281), some (.int a)]) x_pl488 rfl ?_
            refine g_n 1 (pc' := 1) (L' := [some (.ref 281), some (.int a)]) (st' := [.int a]) rfl ?_
            refine g_brF (c := a < (0 : Int32)) (t := 13) (f := 4) (L' := [some (.ref 281), some (.int a)]) (st' := []) rfl (x_Flt (l := 0) (u := 0) p165 (by decide) (by decide)) ?_
            refine g_n 2 (pc' := 6) (L' := [some (.ref 281), some (.int a)]) (st' := [.int 4, .int a]) rfl ?_
            refine g_brF (c := (4 : Int32) ≤ a) (t := 13) (f := 9) (L' := [some (.ref 281), some (.int a)]) (st' := []) rfl (x_Fle (l := 4) (u := 3) (by decide) p168 (by decide)) ?_
            refine g_n 2 (pc' := 14) (L' := [some (.ref 281), some (.int a)]) (st' := [.int 1]) rfl ?_
            refine g_ret (ins := .ireturn) (len := 1) (r := (some (.int 1))) rfl rfl rfl ?_
            refine g_n 7 (pc' := 40) (L' := [some (.ref 281), some (.int a), some (.int 3), some (.int c), some (.int d), some (.int e), some (.int 0), none]) (st' := [.int c]) rfl ?_
            refine g_brT (c := c < (0 : Int32)) (t := 58) (f := 43) (L' := [some (.ref 281), some (.int a), some (.int 3), some (.int c), some (.int d), some (.int e), some (.int 0), none]) (st' := []) rfl (x_Tlt (u := -1) (l := 0) p170 (by decide) (by decide)) ?_
            refine g_n 1 (pc' := 59) (L' := [some (.ref 281), some (.int a), some (.int 3), some (.int c), some (.int d), some (.int e), some (.int 0), none]) (st' := [.int (-1)]) rfl ?_
            exact g_ret (ins := .ireturn) (len := 1) (r := (some (.int (-1)))) rfl rfl rfl ⟨_, rfl, rfl, (x_sv_rf _)⟩
          · have p171 : 0 ≤ c.toInt := x_lo_le (x_nlt h169) (by decide)
            refine g_n 1 (pc' := 38) (L' := [some (.ref 0), some (.int a), some (.int 3), some (.int c), some (.int d), some (.int e), some (.int 1), none]) (st' := [.int e]) rfl ?_
            refine g_br (c := e < (0 : Int32)) (t := 51) (f := 41) (L' := [some (.ref 0), some (.int a), some (.int 3), some (.int c), some (.int d), some (.int e), some (.int 1), none]) (st' := []) rfl (fun h172 => ?_) (fun h172 => ?_)
            · have p173 : e.toInt ≤ -1 := x_up_lt h172 (by decide)
              refine g_n 1 (pc' := 52) (L' := [some (.ref 0), some (.int a), some (.int 3), some (.int c), some (.int d), some (.int e), some (.int 1), none]) (st' := [.int (-1)]) rfl ?_
              refine g_ret (ins := .ireturn) (len := 1) (r := (some (.int (-1)))) rfl rfl rfl ?_
              refine ⟨⟨_, rfl⟩, ?_⟩
              refine g_in (M := x_M495) (L := [some (.ref 281), some (.int a), some (.int 3), some (.int c), some (.int d), some (.int e), none, none]) x_pl495 rfl ?_
              refine g_n 13 (pc' := 24) (L' := [some (.ref 281), some (.int a), some (.int 3), some (.int c), some (.int d), some (.int e), some (.int 0), none]) (st' := [.int a, .ref 281]) rfl ?_
              refine g_call (ins := .invokevirtual 1015) (len := 3) (j := 488) (as := [.ref 281, .int a]) (rest := []) rfl rfl rfl rfl (fun _ => rfl) rfl ?_
              refine g_in (M := x_M488) (L := [some (.ref 281), some (.int a)]) x_pl488 rfl ?_
              refine g_n 1 (pc' := 1) (L' := [some (.ref 281), some (.int a)]) (st' := [.int a]) rfl ?_
              refine g_brF (c := a < (0 : Int32)) (t := 13) (f := 4) (L' := [some (.ref 281), some (.int a)]) (st' := []) rfl (x_Flt (l := 0) (u := 0) p165 (by decide) (by decide)) ?_
              refine g_n 2 (pc' := 6) (L' := [some (.ref 281), some (.int a)]) (st' := [.int 4, .int a]) rfl ?_
              refine g_brF (c := (4 : Int32) ≤ a) (t := 13) (f := 9) (L' := [some (.ref 281), some (.int a)]) (st' := []) rfl (x_Fle (l := 4) (u := 3) (by decide) p168 (by decide)) ?_
              refine g_n 2 (pc' := 14) (L' := [some (.ref 281), some (.int a)]) (st' := [.int 1]) rfl ?_
              refine g_ret (ins := .ireturn) (len := 1) (r := (some (.int 1))) rfl rfl rfl ?_
              refine g_n 7 (pc' := 40) (L' := [some (.ref 281), some (.int a), some (.int 3), some (.int c), some (.int d), some (.int e), some (.int 0), none]) (st' := [.int c]) rfl ?_
              refine g_brF (c := c < (0 : Int32)) (t := 58) (f := 43) (L' := [some (.ref 281), some (.int a), some (.int 3), some (.int c), some (.int d), some (.int e), some (.int 0), none]) (st' := []) rfl (x_Flt (l := 0) (u := 0) p171 (by decide) (by decide)) ?_
              refine g_n 3 (pc' := 55) (L' := [some (.ref 281), some (.int a), some (.int 3), some (.int c), some (.int d), some (.int e), some (.int 0), none]) (st' := [.int e]) rfl ?_
              refine g_brF (c := (0 : Int32) ≤ e) (t := 60) (f := 58) (L' := [some (.ref 281), some (.int a), some (.int 3), some (.int c), some (.int d), some (.int e), some (.int 0), none]) (st' := []) rfl (x_Fle (l := 0) (u := -1) (by decide) p173 (by decide)) ?_
              refine g_n 1 (pc' := 59) (L' := [some (.ref 281), some (.int a), some (.int 3), some (.int c), some (.int d), some (.int e), some (.int 0), none]) (st' := [.int (-1)]) rfl ?_
              exact g_ret (ins := .ireturn) (len := 1) (r := (some (.int (-1)))) rfl rfl rfl ⟨_, rfl, rfl, (x_sv_rf _)⟩
            · have p174 : 0 ≤ e.toInt := x_lo_le (x_nlt h172) (by decide)
              refine g_n 5 (pc' := 58) (L' := [some (.ref 0), some (.int a), some (.int 3), some (.int c), some (.int d), some (.int e), some (.int 1), none]) (st' := [.int a, .ref 2]) rfl ?_
              by_cases h175 : a = 0
              · have e176 : a = 0 := h175
                subst e176
                refine g_aa (i := 0) (a := 2) (n := 4) (v := 27) rfl rfl (by decide) (x_at (x_f2 hF) (k := 0) rfl) ?_
                refine g_n 5 (pc' := 71) (L' := [some (.ref 0), some (.int 0), some (.int 3), some (.int c), some (.int d), some (.int e), some (.int 1), some (.ref 27)]) (st' := [.int (-2)]) rfl ?_
                refine g_ret (ins := .ireturn) (len := 1) (r := (some (.int (-2)))) rfl rfl rfl ?_
                refine ⟨⟨_, rfl⟩, ?_⟩
                refine g_in (M := x_M495) (L := [some (.ref 281), some (.int 0), some (.int 3), some (.int c), some (.int d), some (.int e), none, none]) x_pl495 rfl ?_
                refine g_n 13 (pc' := 24) (L' := [some (.ref 281), some (.int 0), some (.int 3), some (.int c), some (.int d), some (.int e), some (.int 0), none]) (st' := [.int 0, .ref 281]) rfl ?_
                refine g_call (ins := .invokevirtual 1015) (len := 3) (j := 488) (as := [.ref 281, .int 0]) (rest := []) rfl rfl rfl rfl (fun _ => rfl) rfl ?_
                refine g_in (M := x_M488) (L := [some (.ref 281), some (.int 0)]) x_pl488 rfl ?_
                refine g_n 7 (pc' := 14) (L' := [some (.ref 281), some (.int 0)]) (st' := [.int 1]) rfl ?_
                refine g_ret (ins := .ireturn) (len := 1) (r := (some (.int 1))) rfl rfl rfl ?_
                refine g_n 7 (pc' := 40) (L' := [some (.ref 281), some (.int 0), some (.int 3), some (.int c), some (.int d), some (.int e), some (.int 0), none]) (st' := [.int c]) rfl ?_
                refine g_brF (c := c < (0 : Int32)) (t := 58) (f := 43) (L' := [some (.ref 281), some (.int 0), some (.int 3), some (.int c), some (.int d), some (.int e), some (.int 0), none]) (st' := []) rfl (x_Flt (l := 0) (u := 0) p171 (by decide) (by decide)) ?_
                refine g_n 3 (pc' := 55) (L' := [some (.ref 281), some (.int 0), some (.int 3), some (.int c), some (.int d), some (.int e), some (.int 0), none]) (st' := [.int e]) rfl ?_
                refine g_brT (c := (0 : Int32) ≤ e) (t := 60) (f := 58) (L' := [some (.ref 281), some (.int 0), some (.int 3), some (.int c), some (.int d), some (.int e), some (.int 0), none]) (st' := []) rfl (x_Tle (u := 0) (l := 0) (by decide) p174 (by decide)) ?_
                refine g_n 6 (pc' := 71) (L' := [some (.ref 281), some (.int 0), some (.int 3), some (.int c), some (.int d), some (.int e), some (.int 0), none]) (st' := [.int (-2)]) rfl ?_
                exact g_ret (ins := .ireturn) (len := 1) (r := (some (.int (-2)))) rfl rfl rfl ⟨_, rfl, rfl, (x_sv_rf _)⟩
              · have q177 : ¬ a = 0 := h175
                have p178 : 1 ≤ a.toInt := x_lo_ne q177 p165 (by decide)
                by_cases h179 : a = 1
                · have e180 : a = 1 := h179
                  subst e180
                  refine g_aa (i := 1) (a := 2) (n := 4) (v := 50) rfl rfl (by decide) (x_at (x_f2 hF) (k := 1) rfl) ?_
                  refine g_n 5 (pc' := 71) (L' := [some (.ref 0), some (.int 1), some (.int 3), some (.int c), some (.int d), some (.int e), some (.int 1), some (.ref 50)]) (st' := [.int (-2)]) rfl ?_
                  refine g_ret (ins := .ireturn) (len := 1) (r := (some (.int (-2)))) rfl rfl rfl ?_
                  refine ⟨⟨_, rfl⟩, ?_⟩
                  refine g_in (M := x_M495) (L := [some (.ref 281), some (.int 1), some (.int 3), some (.int c), some (.int d), some (.int e), none, none]) x_pl495 rfl ?_
                  refine g_n 13 (pc' := 24) (L' := [some (.ref 281), some (.int 1), some (.int 3), some (.int c), some (.int d), some (.int e), some (.int 0), none]) (st' := [.int 1, .ref 281]) rfl ?_
                  refine g_call (ins := .invokevirtual 1015) (len := 3) (j := 488) (as := [.ref 281, .int 1]) (rest := []) rfl rfl rfl rfl (fun _ => rfl) rfl ?_
                  refine g_in (M := x_M488) (L := [some (.ref 281), some (.int 1)]) x_pl488 rfl ?_
                  refine g_n 7 (pc' := 14) (L' := [some (.ref 281), some (.int 1)]) (st' := [.int 1]) rfl ?_
                  refine g_ret (ins := .ireturn) (len := 1) (r := (some (.int 1))) rfl rfl rfl ?_
                  refine g_n 7 (pc' := 40) (L' := [some (.ref 281), some (.int 1), some (.int 3), some (.int c), some (.int d), some (.int e), some (.int 0), none]) (st' := [.int c]) rfl ?_
                  refine g_brF (c := c < (0 : Int32)) (t := 58) (f := 43) (L' := [some (.ref 281), some (.int 1), some (.int 3), some (.int c), some (.int d), some (.int e), some (.int 0), none]) (st' := []) rfl (x_Flt (l := 0) (u := 0) p171 (by decide) (by decide)) ?_
                  refine g_n 3 (pc' := 55) (L' := [some (.ref 281), some (.int 1), some (.int 3), some (.int c), some (.int d), some (.int e), some (.int 0), none]) (st' := [.int e]) rfl ?_
                  refine g_brT (c := (0 : Int32) ≤ e) (t := 60) (f := 58) (L' := [some (.ref 281), some (.int 1), some (.int 3), some (.int c), some (.int d), some (.int e), some (.int 0), none]) (st' := []) rfl (x_Tle (u := 0) (l := 0) (by decide) p174 (by decide)) ?_
                  refine g_n 6 (pc' := 71) (L' := [some (.ref 281), some (.int 1), some (.int 3), some (.int c), some (.int d), some (.int e), some (.int 0), none]) (st' := [.int (-2)]) rfl ?_
                  exact g_ret (ins := .ireturn) (len := 1) (r := (some (.int (-2)))) rfl rfl rfl ⟨_, rfl, rfl, (x_sv_rf _)⟩
                · have q181 : ¬ a = 1 := h179
                  have p182 : 2 ≤ a.toInt := x_lo_ne q181 p178 (by decide)
                  by_cases h183 : a = 2
                  · have e184 : a = 2 := h183
                    subst e184
                    refine g_aa (i := 2) (a := 2) (n := 4) (v := 73) rfl rfl (by decide) (x_at (x_f2 hF) (k := 2) rfl) ?_
                    refine g_n 5 (pc' := 71) (L' := [some (.ref 0), some (.int 2), some (.int 3), some (.int c), some (.int d), some (.int e), some (.int 1), some (.ref 73)]) (st' := [.int (-2)]) rfl ?_
                    refine g_ret (ins := .ireturn) (len := 1) (r := (some (.int (-2)))) rfl rfl rfl ?_
                    refine ⟨⟨_, rfl⟩, ?_⟩
                    refine g_in (M := x_M495) (L := [some (.ref 281), some (.int 2), some (.int 3), some (.int c), some (.int d), some (.int e), none, none]) x_pl495 rfl ?_
                    refine g_n 13 (pc' := 24) (L' := [some (.ref 281), some (.int 2), some (.int 3), some (.int c), some (.int d), some (.int e), some (.int 0), none]) (st' := [.int 2, .ref 281]) rfl ?_
                    refine g_call (ins := .invokevirtual 1015) (len := 3) (j := 488) (as := [.ref 281, .int 2]) (rest := []) rfl rfl rfl rfl (fun _ => rfl) rfl ?_
                    refine g_in (M := x_M488) (L := [some (.ref 281), some (.int 2)]) x_pl488 rfl ?_
                    refine g_n 7 (pc' := 14) (L' := [some (.ref 281), some (.int 2)]) (st' := [.int 1]) rfl ?_
                    refine g_ret (ins := .ireturn) (len := 1) (r := (some (.int 1))) rfl rfl rfl ?_
                    refine g_n 7 (pc' := 40) (L' := [some (.ref 281), some (.int 2), some (.int 3), some (.int c), some (.int d), some (.int e), some (.int 0), none]) (st' := [.int c]) rfl ?_
                    refine g_brF (c := c < (0 : Int32)) (t := 58) (f := 43) (L' := [some (.ref 281), some (.int 2), some (.int 3), some (.int c), some (.int d), some (.int e), some (.int 0), none]) (st' := []) rfl (x_Flt (l := 0) (u := 0) p171 (by decide) (by decide)) ?_
                    refine g_n 3 (pc' := 55) (L' := [some (.ref 281), some (.int 2), some (.int 3), some (.int c), some (.int d), some (.int e), some (.int 0), none]) (st' := [.int e]) rfl ?_
                    refine g_brT (c := (0 : Int32) ≤ e) (t := 60) (f := 58) (L' := [some (.ref 281), some (.int 2), some (.int 3), some (.int c), some (.int d), some (.int e), some (.int 0), none]) (st' := []) rfl (x_Tle (u := 0) (l := 0) (by decide) p174 (by decide)) ?_
                    refine g_n 6 (pc' := 71) (L' := [some (.ref 281), some (.int 2), some (.int 3), some (.int c), some (.int d), some (.int e), some (.int 0), none]) (st' := [.int (-2)]) rfl ?_
                    exact g_ret (ins := .ireturn) (len := 1) (r := (some (.int (-2)))) rfl rfl rfl ⟨_, rfl, rfl, (x_sv_rf _)⟩
                  · have q185 : ¬ a = 2 := h183
                    have p186 : 3 ≤ a.toInt := x_lo_ne q185 p182 (by decide)
                    have e187 : a = 3 := x_sing p186 p168 (by decide)
                    subst e187
                    refine g_aa (i := 3) (a := 2) (n := 4) (v := 96) rfl rfl (by decide) (x_at (x_f2 hF) (k := 3) rfl) ?_
                    refine g_n 5 (pc' := 71) (L' := [some (.ref 0), some (.int 3), some (.int 3), some (.int c), some (.int d), some (.int e), some (.int 1), some (.ref 96)]) (st' := [.int (-2)]) rfl ?_
                    refine g_ret (ins := .ireturn) (len := 1) (r := (some (.int (-2)))) rfl rfl rfl ?_
                    refine ⟨⟨_, rfl⟩, ?_⟩
                    refine g_in (M := x_M495) (L := [some (.ref 281), some (.int 3), some (.int 3), some (.int c), some (.int d), some (.int e), none, none]) x_pl495 rfl ?_
                    refine g_n 13 (pc' := 24) (L' := [some (.ref 281), some (.int 3), some (.int 3), some (.int c), some (.int d), some (.int e), some (.int 0), none]) (st' := [.int 3, .ref 281]) rfl ?_
                    refine g_call (ins := .invokevirtual 1015) (len := 3) (j := 488) (as := [.ref 281, .int 3]) (rest := []) rfl rfl rfl rfl (fun _ => rfl) rfl ?_
                    refine g_in (M := x_M488) (L := [some (.ref 281), some (.int 3)]) x_pl488 rfl ?_
                    refine g_n 7 (pc' := 14) (L' := [some (.ref 281), some (.int 3)]) (st' := [.int 1]) rfl ?_
                    refine g_ret (ins := .ireturn) (len := 1) (r := (some (.int 1))) rfl rfl rfl ?_
                    refine g_n 7 (pc' := 40) (L' := [some (.ref 281), some (.int 3), some (.int 3), some (.int c), some (.int d), some (.int e), some (.int 0), none]) (st' := [.int c]) rfl ?_
                    refine g_brF (c := c < (0 : Int32)) (t := 58) (f := 43) (L' := [some (.ref 281), some (.int 3), some (.int 3), some (.int c), some (.int d), some (.int e), some (.int 0), none]) (st' := []) rfl (x_Flt (l := 0) (u := 0) p171 (by decide) (by decide)) ?_
                    refine g_n 3 (pc' := 55) (L' := [some (.ref 281), some (.int 3), some (.int 3), some (.int c), some (.int d), some (.int e), some (.int 0), none]) (st' := [.int e]) rfl ?_
                    refine g_brT (c := (0 : Int32) ≤ e) (t := 60) (f := 58) (L' := [some (.ref 281), some (.int 3), some (.int 3), some (.int c), some (.int d), some (.int e), some (.int 0), none]) (st' := []) rfl (x_Tle (u := 0) (l := 0) (by decide) p174 (by decide)) ?_
                    refine g_n 6 (pc' := 71) (L' := [some (.ref 281), some (.int 3), some (.int 3), some (.int c), some (.int d), some (.int e), some (.int 0), none]) (st' := [.int (-2)]) rfl ?_
                    exact g_ret (ins := .ireturn) (len := 1) (r := (some (.int (-2)))) rfl rfl rfl ⟨_, rfl, rfl, (x_sv_rf _)⟩
