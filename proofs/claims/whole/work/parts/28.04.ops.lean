/-! First calls on the fresh objects. -/
set_option maxRecDepth 100000 in
set_option maxHeartbeats 4000000 in
theorem x_op14 {fi : Nat → Nat → Int32} {fl : Nat → Nat → Int64} {fr : Nat → Nat → Option Nat} (hF : x_F fl fr) (a b c d : Int32) : x_ev 30 367 [.ref 0, .int a, .int b, .int c, .int d] (x_W fi fl fr) fun r S1 => (∃ fs, x_obj S1 281 = some (12, fs)) ∧ x_ev 30 496 [.ref 281, .int a, .int b, .int c, .int d] S1 (x_finI (x_W fi fl fr) r) := by
  refine g_in (M := x_M367) (L := [some (.ref 0), some (.int a), some (.int b), some (.int c), some (.int d), none]) x_pl367 rfl ?_
  refine g_n 1 (pc' := 1) (L' := [some (.ref 0), some (.int a), some (.int b), some (.int c), some (.int d), none]) (st' := [.int a]) rfl ?_
  refine g_call (ins := .invokestatic 173) (len := 3) (j := 348) (as := [.int a]) (rest := []) rfl rfl rfl rfl (fun _ => rfl) rfl ?_
  refine g_in (M := x_M348) (L := [some (.int a)]) x_pl348 rfl ?_
  refine g_n 1 (pc' := 1) (L' := [some (.int a)]) (st' := [.int a]) rfl ?_
  refine g_br (c := a < (0 : Int32)) (t := 13) (f := 4) (L' := [some (.int a)]) (st' := []) rfl (fun h1 => ?_) (fun h1 => ?_)
  · have p2 : a.toInt ≤ -1 := x_up_lt h1 (by decide)
    refine g_n 1 (pc' := 14) (L' := [some (.int a)]) (st' := [.int 0]) rfl ?_
    refine g_ret (ins := .ireturn) (len := 1) (r := (some (.int 0))) rfl rfl rfl ?_
    refine g_n 2 (pc' := 34) (L' := [some (.ref 0), some (.int a), some (.int b), some (.int c), some (.int d), none]) (st' := [.int (-1)]) rfl ?_
    refine g_ret (ins := .ireturn) (len := 1) (r := (some (.int (-1)))) rfl rfl rfl ?_
    refine ⟨⟨_, rfl⟩, ?_⟩
    refine g_in (M := x_M496) (L := [some (.ref 281), some (.int a), some (.int b), some (.int c), some (.int d), none, none]) x_pl496 rfl ?_
    refine g_n 2 (pc' := 2) (L' := [some (.ref 281), some (.int a), some (.int b), some (.int c), some (.int d), none, none]) (st' := [.int a, .ref 281]) rfl ?_
    refine g_call (ins := .invokevirtual 1015) (len := 3) (j := 488) (as := [.ref 281, .int a]) (rest := []) rfl rfl rfl rfl (fun _ => rfl) rfl ?_
    refine g_in (M := x_M488) (L := [some (.ref 281), some (.int a)]) x_pl488 rfl ?_
    refine g_n 1 (pc' := 1) (L' := [some (.ref 281), some (.int a)]) (st' := [.int a]) rfl ?_
    refine g_brT (c := a < (0 : Int32)) (t := 13) (f := 4) (L' := [some (.ref 281), some (.int a)]) (st' := []) rfl (x_Tlt (u := -1) (l := 0) p2 (by decide) (by decide)) ?_
    refine g_n 1 (pc' := 14) (L' := [some (.ref 281), some (.int a)]) (st' := [.int 0]) rfl ?_
    refine g_ret (ins := .ireturn) (len := 1) (r := (some (.int 0))) rfl rfl rfl ?_
    refine g_n 2 (pc' := 35) (L' := [some (.ref 281), some (.int a), some (.int b), some (.int c), some (.int d), none, none]) (st' := [.int (-1)]) rfl ?_
    exact g_ret (ins := .ireturn) (len := 1) (r := (some (.int (-1)))) rfl rfl rfl ⟨_, rfl, rfl, (x_sv_rf _)⟩
  · have p3 : 0 ≤ a.toInt := x_lo_le (x_nlt h1) (by decide)
    refine g_n 2 (pc' := 6) (L' := [some (.int a)]) (st' := [.int 4, .int a]) rfl ?_
    refine g_br (c := (4 : Int32) ≤ a) (t := 13) (f := 9) (L' := [some (.int a)]) (st' := []) rfl (fun h4 => ?_) (fun h4 => ?_)
    · have p5 : 4 ≤ a.toInt := x_lo_le h4 (by decide)
      refine g_n 1 (pc' := 14) (L' := [some (.int a)]) (st' := [.int 0]) rfl ?_
      refine g_ret (ins := .ireturn) (len := 1) (r := (some (.int 0))) rfl rfl rfl ?_
      refine g_n 2 (pc' := 34) (L' := [some (.ref 0), some (.int a), some (.int b), some (.int c), some (.int d), none]) (st' := [.int (-1)]) rfl ?_
      refine g_ret (ins := .ireturn) (len := 1) (r := (some (.int (-1)))) rfl rfl rfl ?_
      refine ⟨⟨_, rfl⟩, ?_⟩
      refine g_in (M := x_M496) (L := [some (.ref 281), some (.int a), some (.int b), some (.int c), some (.int d), none, none]) x_pl496 rfl ?_
      refine g_n 2 (pc' := 2) (L' := [some (.ref 281), some (.int a), some (.int b), some (.int c), some (.int d), none, none]) (st' := [.int a, .ref 281]) rfl ?_
      refine g_call (ins := .invokevirtual 1015) (len := 3) (j := 488) (as := [.ref 281, .int a]) (rest := []) rfl rfl rfl rfl (fun _ => rfl) rfl ?_
      refine g_in (M := x_M488) (L := [some (.ref 281), some (.int a)]) x_pl488 rfl ?_
      refine g_n 1 (pc' := 1) (L' := [some (.ref 281), some (.int a)]) (st' := [.int a]) rfl ?_
      refine g_brF (c := a < (0 : Int32)) (t := 13) (f := 4) (L' := [some (.ref 281), some (.int a)]) (st' := []) rfl (x_Flt (l := 4) (u := 0) p5 (by decide) (by decide)) ?_
      refine g_n 2 (pc' := 6) (L' := [some (.ref 281), some (.int a)]) (st' := [.int 4, .int a]) rfl ?_
      refine g_brT (c := (4 : Int32) ≤ a) (t := 13) (f := 9) (L' := [some (.ref 281), some (.int a)]) (st' := []) rfl (x_Tle (u := 4) (l := 4) (by decide) p5 (by decide)) ?_
      refine g_n 1 (pc' := 14) (L' := [some (.ref 281), some (.int a)]) (st' := [.int 0]) rfl ?_
      refine g_ret (ins := .ireturn) (len := 1) (r := (some (.int 0))) rfl rfl rfl ?_
      refine g_n 2 (pc' := 35) (L' := [some (.ref 281), some (.int a), some (.int b), some (.int c), some (.int d), none, none]) (st' := [.int (-1)]) rfl ?_
      exact g_ret (ins := .ireturn) (len := 1) (r := (some (.int (-1)))) rfl rfl rfl ⟨_, rfl, rfl, (x_sv_rf _)⟩
    · have p6 : a.toInt ≤ 3 := x_up_lt (x_nle h4) (by decide)
      refine g_n 2 (pc' := 14) (L' := [some (.int a)]) (st' := [.int 1]) rfl ?_
      refine g_ret (ins := .ireturn) (len := 1) (r := (some (.int 1))) rfl rfl rfl ?_
      refine g_n 2 (pc' := 8) (L' := [some (.ref 0), some (.int a), some (.int b), some (.int c), some (.int d), none]) (st' := [.int b]) rfl ?_
      refine g_br (c := b < (0 : Int32)) (t := 33) (f := 11) (L' := [some (.ref 0), some (.int a), some (.int b), some (.int c), some (.int d), none]) (st' := []) rfl (fun h7 => ?_) (fun h7 => ?_)
      · have p8 : b.toInt ≤ -1 := x_up_lt h7 (by decide)
        refine g_n 1 (pc' := 34) (L' := [some (.ref 0), some (.int a), some (.int b), some (.int c), some (.int d), none]) (st' := [.int (-1)]) rfl ?_
        refine g_ret (ins := .ireturn) (len := 1) (r := (some (.int (-1)))) rfl rfl rfl ?_
        refine ⟨⟨_, rfl⟩, ?_⟩
        refine g_in (M := x_M496) (L := [some (.ref 281), some (.int a), some (.int b), some (.int c), some (.int d), none, none]) x_pl496 rfl ?_
        refine g_n 2 (pc' := 2) (L' := [some (.ref 281), some (.int a), some (.int b), some (.int c), some (.int d), none, none]) (st' := [.int a, .ref 281]) rfl ?_
        refine g_call (ins := .invokevirtual 1015) (len := 3) (j := 488) (as := [.ref 281, .int a]) (rest := []) rfl rfl rfl rfl (fun _ => rfl) rfl ?_
        refine g_in (M := x_M488) (L := [some (.ref 281), some (.int a)]) x_pl488 rfl ?_
        refine g_n 1 (pc' := 1) (L' := [some (.ref 281), some (.int a)]) (st' := [.int a]) rfl ?_
        refine g_brF (c := a < (0 : Int32)) (t := 13) (f := 4) (L' := [some (.ref 281), some (.int a)]) (st' := []) rfl (x_Flt (l := 0) (u := 0) p3 (by decide) (by decide)) ?_
        refine g_n 2 (pc' := 6) (L' := [some (.ref 281), some (.int a)]) (st' := [.int 4, .int a]) rfl ?_
        refine g_brF (c := (4 : Int32) ≤ a) (t := 13) (f := 9) (L' := [some (.ref 281), some (.int a)]) (st' := []) rfl (x_Fle (l := 4) (u := 3) (by decide) p6 (by decide)) ?_
        refine g_n 2 (pc' := 14) (L' := [some (.ref 281), some (.int a)]) (st' := [.int 1]) rfl ?_
        refine g_ret (ins := .ireturn) (len := 1) (r := (some (.int 1))) rfl rfl rfl ?_
        refine g_n 2 (pc' := 10) (L' := [some (.ref 281), some (.int a), some (.int b), some (.int c), some (.int d), none, none]) (st' := [.int d]) rfl ?_
        refine g_br (c := d < (0 : Int32)) (t := 34) (f := 13) (L' := [some (.ref 281), some (.int a), some (.int b), some (.int c), some (.int d), none, none]) (st' := []) rfl (fun h9 => ?_) (fun h9 => ?_)
        · have p10 : d.toInt ≤ -1 := x_up_lt h9 (by decide)
          refine g_n 1 (pc' := 35) (L' := [some (.ref 281), some (.int a), some (.int b), some (.int c), some (.int d), none, none]) (st' := [.int (-1)]) rfl ?_
          exact g_ret (ins := .ireturn) (len := 1) (r := (some (.int (-1)))) rfl rfl rfl ⟨_, rfl, rfl, (x_sv_rf _)⟩
        · have p11 : 0 ≤ d.toInt := x_lo_le (x_nlt h9) (by decide)
          refine g_n 2 (pc' := 17) (L' := [some (.ref 281), some (.int a), some (.int b), some (.int c), some (.int d), none, none]) (st' := [.int 6, .int d]) rfl ?_
          refine g_br (c := (6 : Int32) < d) (t := 34) (f := 20) (L' := [some (.ref 281), some (.int a), some (.int b), some (.int c), some (.int d), none, none]) (st' := []) rfl (fun h12 => ?_) (fun h12 => ?_)
          · have p13 : 7 ≤ d.toInt := x_lo_lt h12 (by decide)
            refine g_n 1 (pc' := 35) (L' := [some (.ref 281), some (.int a), some (.int b), some (.int c), some (.int d), none, none]) (st' := [.int (-1)]) rfl ?_
            exact g_ret (ins := .ireturn) (len := 1) (r := (some (.int (-1)))) rfl rfl rfl ⟨_, rfl, rfl, (x_sv_rf _)⟩
          · have p14 : d.toInt ≤ 6 := x_up_le (x_nlt h12) (by decide)
            refine g_n 1 (pc' := 21) (L' := [some (.ref 281), some (.int a), some (.int b), some (.int c), some (.int d), none, none]) (st' := [.int b]) rfl ?_
            refine g_brT (c := b < (0 : Int32)) (t := 34) (f := 24) (L' := [some (.ref 281), some (.int a), some (.int b), some (.int c), some (.int d), none, none]) (st' := []) rfl (x_Tlt (u := -1) (l := 0) p8 (by decide) (by decide)) ?_
            refine g_n 1 (pc' := 35) (L' := [some (.ref 281), some (.int a), some (.int b), some (.int c), some (.int d), none, none]) (st' := [.int (-1)]) rfl ?_
            exact g_ret (ins := .ireturn) (len := 1) (r := (some (.int (-1)))) rfl rfl rfl ⟨_, rfl, rfl, (x_sv_rf _)⟩
      · have p15 : 0 ≤ b.toInt := x_lo_le (x_nlt h7) (by decide)
        refine g_n 1 (pc' := 13) (L' := [some (.ref 0), some (.int a), some (.int b), some (.int c), some (.int d), none]) (st' := [.int d]) rfl ?_
        refine g_br (c := d < (0 : Int32)) (t := 33) (f := 16) (L' := [some (.ref 0), some (.int a), some (.int b), some (.int c), some (.int d), none]) (st' := []) rfl (fun h16 => ?_) (fun h16 => ?_)
        · have p17 : d.toInt ≤ -1 := x_up_lt h16 (by decide)
          refine g_n 1 (pc' := 34) (L' := [some (.ref 0), some (.int a), some (.int b), some (.int c), some (.int d), none]) (st' := [.int (-1)]) rfl ?_
          refine g_ret (ins := .ireturn) (len := 1) (r := (some (.int (-1)))) rfl rfl rfl ?_
          refine ⟨⟨_, rfl⟩, ?_⟩
          refine g_in (M := x_M496) (L := [some (.ref 281), some (.int a), some (.int b), some (.int c), some (.int d), none, none]) x_pl496 rfl ?_
          refine g_n 2 (pc' := 2) (L' := [some (.ref 281), some (.int a), some (.int b), some (.int c), some (.int d), none, none]) (st' := [.int a, .ref 281]) rfl ?_
          refine g_call (ins := .invokevirtual 1015) (len := 3) (j := 488) (as := [.ref 281, .int a]) (rest := []) rfl rfl rfl rfl (fun _ => rfl) rfl ?_
          refine g_in (M := x_M488) (L := [some (.ref 281), some (.int a)]) x_pl488 rfl ?_
          refine g_n 1 (pc' := 1) (L' := [some (.ref 281), some (.int a)]) (st' := [.int a]) rfl ?_
          refine g_brF (c := a < (0 : Int32)) (t := 13) (f := 4) (L' := [some (.ref 281), some (.int a)]) (st' := []) rfl (x_Flt (l := 0) (u := 0) p3 (by decide) (by decide)) ?_
          refine g_n 2 (pc' := 6) (L' := [some (.ref 281), some (.int a)]) (st' := [.int 4, .int a]) rfl ?_
          refine g_brF (c := (4 : Int32) ≤ a) (t := 13) (f := 9) (L' := [some (.ref 281), some (.int a)]) (st' := []) rfl (x_Fle (l := 4) (u := 3) (by decide) p6 (by decide)) ?_
          refine g_n 2 (pc' := 14) (L' := [some (.ref 281), some (.int a)]) (st' := [.int 1]) rfl ?_
          refine g_ret (ins := .ireturn) (len := 1) (r := (some (.int 1))) rfl rfl rfl ?_
          refine g_n 2 (pc' := 10) (L' := [some (.ref 281), some (.int a), some (.int b), some (.int c), some (.int d), none, none]) (st' := [.int d]) rfl ?_
          refine g_brT (c := d < (0 : Int32)) (t := 34) (f := 13) (L' := [some (.ref 281), some (.int a), some (.int b), some (.int c), some (.int d), none, none]) (st' := []) rfl (x_Tlt (u := -1) (l := 0) p17 (by decide) (by decide)) ?_
          refine g_n 1 (pc' := 35) (L' := [some (.ref 281), some (.int a), some (.int b), some (.int c), some (.int d), none, none]) (st' := [.int (-1)]) rfl ?_
          exact g_ret (ins := .ireturn) (len := 1) (r := (some (.int (-1)))) rfl rfl rfl ⟨_, rfl, rfl, (x_sv_rf _)⟩
        · have p18 : 0 ≤ d.toInt := x_lo_le (x_nlt h16) (by decide)
          refine g_n 2 (pc' := 20) (L' := [some (.ref 0), some (.int a), some (.int b), some (.int c), some (.int d), none]) (st' := [.int 6, .int d]) rfl ?_
          refine g_br (c := (6 : Int32) < d) (t := 33) (f := 23) (L' := [some (.ref 0), some (.int a), some (.int b), some (.int c), some (.int d), none]) (st' := []) rfl (fun h19 => ?_) (fun h19 => ?_)
          · have p20 : 7 ≤ d.toInt := x_lo_lt h19 (by decide)
            refine g_n 1 (pc' := 34) (L' := [some (.ref 0), some (.int a), some (.int b), some (.int c), some (.int d), none]) (st' := [.int (-1)]) rfl ?_
            refine g_ret (ins := .ireturn) (len := 1) (r := (some (.int (-1)))) rfl rfl rfl ?_
            refine ⟨⟨_, rfl⟩, ?_⟩
            refine g_in (M := x_M496) (L := [some (.ref 281), some (.int a), some (.int b), some (.int c), some (.int d), none, none]) x_pl496 rfl ?_
            refine g_n 2 (pc' := 2) (L' := [some (.ref 281), some (.int a), some (.int b), some (.int c), some (.int d), none, none]) (st' := [.int a, .ref 281]) rfl ?_
            refine g_call (ins := .invokevirtual 1015) (len := 3) (j := 488) (as := [.ref 281, .int a]) (rest := []) rfl rfl rfl rfl (fun _ => rfl) rfl ?_
            refine g_in (M := x_M488) (L := [some (.ref 281), some (.int a)]) x_pl488 rfl ?_
            refine g_n 1 (pc' := 1) (L' := [some (.ref 281), some (.int a)]) (st' := [.int a]) rfl ?_
            refine g_brF (c := a < (0 : Int32)) (t := 13) (f := 4) (L' := [some (.ref 281), some (.int a)]) (st' := []) rfl (x_Flt (l := 0) (u := 0) p3 (by decide) (by decide)) ?_
            refine g_n 2 (pc' := 6) (L' := [some (.ref 281), some (.int a)]) (st' := [.int 4, .int a]) rfl ?_
            refine g_brF (c := (4 : Int32) ≤ a) (t := 13) (f := 9) (L' := [some (.ref 281), some (.int a)]) (st' := []) rfl (x_Fle (l := 4) (u := 3) (by decide) p6 (by decide)) ?_
            refine g_n 2 (pc' := 14) (L' := [some (.ref 281), some (.int a)]) (st' := [.int 1]) rfl ?_
            refine g_ret (ins := .ireturn) (len := 1) (r := (some (.int 1))) rfl rfl rfl ?_
            refine g_n 2 (pc' := 10) (L' := [some (.ref 281), some (.int a), some (.int b), some (.int c), some (.int d), none, none]) (st' := [.int d]) rfl ?_
            refine g_brF (c := d < (0 : Int32)) (t := 34) (f := 13) (L' := [some (.ref 281), some (.int a), some (.int b), some (.int c), some (.int d), none, none]) (st' := []) rfl (x_Flt (l := 7) (u := 0) p20 (by decide) (by decide)) ?_
            refine g_n 2 (pc' := 17) (L' := [some (.ref 281), some (.int a), some (.int b), some (.int c), some (.int d), none, none]) (st' := [.int 6, .int d]) rfl ?_
            refine g_brT (c := (6 : Int32) < d) (t := 34) (f := 20) (L' := [some (.ref 281), some (.int a), some (.int b), some (.int c), some (.int d), none, none]) (st' := []) rfl (x_Tlt (u := 6) (l := 7) (by decide) p20 (by decide)) ?_
            refine g_n 1 (pc' := 35) (L' := [some (.ref 281), some (.int a), some (.int b), some (.int c), some (.int d), none, none]) (st' := [.int (-1)]) rfl ?_
            exact g_ret (ins := .ireturn) (len := 1) (r := (some (.int (-1)))) rfl rfl rfl ⟨_, rfl, rfl, (x_sv_rf _)⟩
          · have p21 : d.toInt ≤ 6 := x_up_le (x_nlt h19) (by decide)
            refine g_n 2 (pc' := 26) (L' := [some (.ref 0), some (.int a), some (.int b), some (.int c), some (.int d), none]) (st' := [.int 2, .int d]) rfl ?_
            refine g_br (c := d < (2 : Int32)) (t := 35) (f := 29) (L' := [some (.ref 0), some (.int a), some (.int b), some (.int c), some (.int d), none]) (st' := []) rfl (fun h22 => ?_) (fun h22 => ?_)
            · have p23 : d.toInt ≤ 1 := x_up_lt h22 (by decide)
              refine g_n 3 (pc' := 40) (L' := [some (.ref 0), some (.int a), some (.int b), some (.int c), some (.int d), none]) (st' := [.int a, .ref 2]) rfl ?_
              by_cases h24 : a = 0
              · have e25 : a = 0 := h24
                subst e25
                refine g_aa (i := 0) (a := 2) (n := 4) (v := 27) rfl rfl (by decide) (x_at (x_f2 hF) (k := 0) rfl) ?_
                refine g_n 5 (pc' := 53) (L' := [some (.ref 0), some (.int 0), some (.int b), some (.int c), some (.int d), some (.ref 27)]) (st' := [.int (-2)]) rfl ?_
                refine g_ret (ins := .ireturn) (len := 1) (r := (some (.int (-2)))) rfl rfl rfl ?_
                refine ⟨⟨_, rfl⟩, ?_⟩
                refine g_in (M := x_M496) (L := [some (.ref 281), some (.int 0), some (.int b), some (.int c), some (.int d), none, none]) x_pl496 rfl ?_
                refine g_n 2 (pc' := 2) (L' := [some (.ref 281), some (.int 0), some (.int b), some (.int c), some (.int d), none, none]) (st' := [.int 0, .ref 281]) rfl ?_
                refine g_call (ins := .invokevirtual 1015) (len := 3) (j := 488) (as := [.ref 281, .int 0]) (rest := []) rfl rfl rfl rfl (fun _ => rfl) rfl ?_
                refine g_in (M := x_M488) (L := [some (.ref 281), some (.int 0)]) x_pl488 rfl ?_
                refine g_n 7 (pc' := 14) (L' := [some (.ref 281), some (.int 0)]) (st' := [.int 1]) rfl ?_
                refine g_ret (ins := .ireturn) (len := 1) (r := (some (.int 1))) rfl rfl rfl ?_
                refine g_n 2 (pc' := 10) (L' := [some (.ref 281), some (.int 0), some (.int b), some (.int c), some (.int d), none, none]) (st' := [.int d]) rfl ?_
                refine g_brF (c := d < (0 : Int32)) (t := 34) (f := 13) (L' := [some (.ref 281), some (.int 0), some (.int b), some (.int c), some (.int d), none, none]) (st' := []) rfl (x_Flt (l := 0) (u := 0) p18 (by decide) (by decide)) ?_
                refine g_n 2 (pc' := 17) (L' := [some (.ref 281), some (.int 0), some (.int b), some (.int c), some (.int d), none, none]) (st' := [.int 6, .int d]) rfl ?_
                refine g_brF (c := (6 : Int32) < d) (t := 34) (f := 20) (L' := [some (.ref 281), some (.int 0), some (.int b), some (.int c), some (.int d), none, none]) (st' := []) rfl (x_Flt (l := 6) (u := 1) (by decide) p23 (by decide)) ?_
                refine g_n 1 (pc' := 21) (L' := [some (.ref 281), some (.int 0), some (.int b), some (.int c), some (.int d), none, none]) (st' := [.int b]) rfl ?_
                refine g_brF (c := b < (0 : Int32)) (t := 34) (f := 24) (L' := [some (.ref 281), some (.int 0), some (.int b), some (.int c), some (.int d), none, none]) (st' := []) rfl (x_Flt (l := 0) (u := 0) p15 (by decide) (by decide)) ?_
                refine g_n 2 (pc' := 27) (L' := [some (.ref 281), some (.int 0), some (.int b), some (.int c), some (.int d), none, none]) (st' := [.int 1, .int d]) rfl ?_
                refine g_brT (c := d ≤ (1 : Int32)) (t := 36) (f := 30) (L' := [some (.ref 281), some (.int 0), some (.int b), some (.int c), some (.int d), none, none]) (st' := []) rfl (x_Tle (u := 1) (l := 1) p23 (by decide) (by decide)) ?_
                refine g_n 6 (pc' := 47) (L' := [some (.ref 281), some (.int 0), some (.int b), some (.int c), some (.int d), none, none]) (st' := [.int (-2)]) rfl ?_
                exact g_ret (ins := .ireturn) (len := 1) (r := (some (.int (-2)))) rfl rfl rfl ⟨_, rfl, rfl, (x_sv_rf _)⟩
              · have q26 : ¬ a = 0 := h24
                have p27 : 1 ≤ a.toInt := x_lo_ne q26 p3 (by decide)
                by_cases h28 : a = 1
                · have e29 : a = 1 := h28
                  subst e29
                  refine g_aa (i := 1) (a := 2) (n := 4) (v := 50) rfl rfl (by decide) (x_at (x_f2 hF) (k := 1) rfl) ?_
                  refine g_n 5 (pc' := 53) (L' := [some (.ref 0), some (.int 1), some (.int b), some (.int c), some (.int d), some (.ref 50)]) (st' := [.int (-2)]) rfl ?_
                  refine g_ret (ins := .ireturn) (len := 1) (r := (some (.int (-2)))) rfl rfl rfl ?_
                  refine ⟨⟨_, rfl⟩, ?_⟩
                  refine g_in (M := x_M496) (L := [some (.ref 281), some (.int 1), some (.int b), some (.int c), some (.int d), none, none]) x_pl496 rfl ?_
                  refine g_n 2 (pc' := 2) (L' := [some (.ref 281), some (.int 1), some (.int b), some (.int c), some (.int d), none, none]) (st' := [.int 1, .ref 281]) rfl ?_
                  refine g_call (ins := .invokevirtual 1015) (len := 3) (j := 488) (as := [.ref 281, .int 1]) (rest := []) rfl rfl rfl rfl (fun _ => rfl) rfl ?_
                  refine g_in (M := x_M488) (L := [some (.ref 281), some (.int 1)]) x_pl488 rfl ?_
                  refine g_n 7 (pc' := 14) (L' := [some (.ref 281), some (.int 1)]) (st' := [.int 1]) rfl ?_
                  refine g_ret (ins := .ireturn) (len := 1) (r := (some (.int 1))) rfl rfl rfl ?_
                  refine g_n 2 (pc' := 10) (L' := [some (.ref 281), some (.int 1), some (.int b), some (.int c), some (.int d), none, none]) (st' := [.int d]) rfl ?_
                  refine g_brF (c := d < (0 : Int32)) (t := 34) (f := 13) (L' := [some (.ref 281), some (.int 1), some (.int b), some (.int c), some (.int d), none, none]) (st' := []) rfl (x_Flt (l := 0) (u := 0) p18 (by decide) (by decide)) ?_
                  refine g_n 2 (pc' := 17) (L' := [some (.ref 281), some (.int 1), some (.int b), some (.int c), some (.int d), none, none]) (st' := [.int 6, .int d]) rfl ?_
                  refine g_brF (c := (6 : Int32) < d) (t := 34) (f := 20) (L' := [some (.ref 281), some (.int 1), some (.int b), some (.int c), some (.int d), none, none]) (st' := []) rfl (x_Flt (l := 6) (u := 1) (by decide) p23 (by decide)) ?_
                  refine g_n 1 (pc' := 21) (L' := [some (.ref 281), some (.int 1), some (.int b), some (.int c), some (.int d), none, none]) (st' := [.int b]) rfl ?_
                  refine g_brF (c := b < (0 : Int32)) (t := 34) (f := 24) (L' := [some (.ref 281), some (.int 1), some (.int b), some (.int c), some (.int d), none, none]) (st' := []) rfl (x_Flt (l := 0) (u := 0) p15 (by decide) (by decide)) ?_
                  refine g_n 2 (pc' := 27) (L' := [some (.ref 281), some (.int 1), some (.int b), some (.int c), some (.int d), none, none]) (st' := [.int 1, .int d]) rfl ?_
                  refine g_brT (c := d ≤ (1 : Int32)) (t := 36) (f := 30) (L' := [some (.ref 281), some (.int 1), some (.int b), some (.int c), some (.int d), none, none]) (st' := []) rfl (x_Tle (u := 1) (l := 1) p23 (by decide) (by decide)) ?_
                  refine g_n 6 (pc' := 47) (L' := [some (.ref 281), some (.int 1), some (.int b), some (.int c), some (.int d), none, none]) (st' := [.int (-2)]) rfl ?_
                  exact g_ret (ins := .ireturn) (len := 1) (r := (some (.int (-2)))) rfl rfl rfl ⟨_, rfl, rfl, (x_sv_rf _)⟩
                · have q30 : ¬ a = 1 := h28
                  have p31 : 2 ≤ a.toInt := x_lo_ne q30 p27 (by decide)
                  by_cases h32 : a = 2
                  · have e33 : a = 2 := h32
                    subst e33
                    refine g_aa (i := 2) (a := 2) (n := 4) (v := 73) rfl rfl (by decide) (x_at (x_f2 hF) (k := 2) rfl) ?_
                    refine g_n 5 (pc' := 53) (L' := [some (.ref 0), some (.int 2), some (.int b), some (.int c), some (.int d), some (.ref 73)]) (st' := [.int (-2)]) rfl ?_
                    refine g_ret (ins := .ireturn) (len := 1) (r := (some (.int (-2)))) rfl rfl rfl ?_
                    refine ⟨⟨_, rfl⟩, ?_⟩
                    refine g_in (M := x_M496) (L := [some (.ref 281), some (.int 2), some (.int b), some (.int c), some (.int d), none, none]) x_pl496 rfl ?_
                    refine g_n 2 (pc' := 2) (L' := [some (.ref 281), some (.int 2), some (.int b), some (.int c), some (.int d), none, none]) (st' := [.int 2, .ref 281]) rfl ?_
                    refine g_call (ins := .invokevirtual 1015) (len := 3) (j := 488) (as := [.ref 281, .int 2]) (rest := []) rfl rfl rfl rfl (fun _ => rfl) rfl ?_
                    refine g_in (M := x_M488) (L := [some (.ref 281), some (.int 2)]) x_pl488 rfl ?_
                    refine g_n 7 (pc' := 14) (L' := [some (.ref 281), some (.int 2)]) (st' := [.int 1]) rfl ?_
                    refine g_ret (ins := .ireturn) (len := 1) (r := (some (.int 1))) rfl rfl rfl ?_
                    refine g_n 2 (pc' := 10) (L' := [some (.ref 281), some (.int 2), some (.int b), some (.int c), some (.int d), none, none]) (st' := [.int d]) rfl ?_
                    refine g_brF (c := d < (0 : Int32)) (t := 34) (f := 13) (L' := [some (.ref 281), some (.int 2), some (.int b), some (.int c), some (.int d), none, none]) (st' := []) rfl (x_Flt (l := 0) (u := 0) p18 (by decide) (by decide)) ?_
                    refine g_n 2 (pc' := 17) (L' := [some (.ref 281), some (.int 2), some (.int b), some (.int c), some (.int d), none, none]) (st' := [.int 6, .int d]) rfl ?_
                    refine g_brF (c := (6 : Int32) < d) (t := 34) (f := 20) (L' := [some (.ref 281), some (.int 2), some (.int b), some (.int c), some (.int d), none, none]) (st' := []) rfl (x_Flt (l := 6) (u := 1) (by decide) p23 (by decide)) ?_
                    refine g_n 1 (pc' := 21) (L' := [some (.ref 281), some (.int 2), some (.int b), some (.int c), some (.int d), none, none]) (st' := [.int b]) rfl ?_
                    refine g_brF (c := b < (0 : Int32)) (t := 34) (f := 24) (L' := [some (.ref 281), some (.int 2), some (.int b), some (.int c), some (.int d), none, none]) (st' := []) rfl (x_Flt (l := 0) (u := 0) p15 (by decide) (by decide)) ?_
                    refine g_n 2 (pc' := 27) (L' := [some (.ref 281), some (.int 2), some (.int b), some (.int c), some (.int d), none, none]) (st' := [.int 1, .int d]) rfl ?_
                    refine g_brT (c := d ≤ (1 : Int32)) (t := 36) (f := 30) (L' := [some (.ref 281), some (.int 2), some (.int b), some (.int c), some (.int d), none, none]) (st' := []) rfl (x_Tle (u := 1) (l := 1) p23 (by decide) (by decide)) ?_
                    refine g_n 6 (pc' := 47) (L' := [some (.ref 281), some (.int 2), some (.int b), some (.int c), some (.int d), none, none]) (st' := [.int (-2)]) rfl ?_
                    exact g_ret (ins := .ireturn) (len := 1) (r := (some (.int (-2)))) rfl rfl rfl ⟨_, rfl, rfl, (x_sv_rf _)⟩
                  · have q34 : ¬ a = 2 := h32
                    have p35 : 3 ≤ a.toInt := x_lo_ne q34 p31 (by decide)
                    have e36 : a = 3 := x_sing p35 p6 (by decide)
                    subst e36
                    refine g_aa (i := 3) (a := 2) (n := 4) (v := 96) rfl rfl (by decide) (x_at (x_f2 hF) (k := 3) rfl) ?_
                    refine g_n 5 (pc' := 53) (L' := [some (.ref 0), some (.int 3), some (.int b), some (.int c), some (.int d), some (.ref 96)]) (st' := [.int (-2)]) rfl ?_
                    refine g_ret (ins := .ireturn) (len := 1) (r := (some (.int (-2)))) rfl rfl rfl ?_
                    refine ⟨⟨_, rfl⟩, ?_⟩
                    refine g_in (M := x_M496) (L := [some (.ref 281), some (.int 3), some (.int b), some (.int c), some (.int d), none, none]) x_pl496 rfl ?_
                    refine g_n 2 (pc' := 2) (L' := [some (.ref 281), some (.int 3), some (.int b), some (.int c), some (.int d), none, none]) (st' := [.int 3, .ref 281]) rfl ?_
                    refine g_call (ins := .invokevirtual 1015) (len := 3) (j := 488) (as := [.ref 281, .int 3]) (rest := []) rfl rfl rfl rfl (fun _ => rfl) rfl ?_
                    refine g_in (M := x_M488) (L := [some (.ref 281), some (.int 3)]) x_pl488 rfl ?_
                    refine g_n 7 (pc' := 14) (L' := [some (.ref 281), some (.int 3)]) (st' := [.int 1]) rfl ?_
                    refine g_ret (ins := .ireturn) (len := 1) (r := (some (.int 1))) rfl rfl rfl ?_
                    refine g_n 2 (pc' := 10) (L' := [some (.ref 281), some (.int 3), some (.int b), some (.int c), some (.int d), none, none]) (st' := [.int d]) rfl ?_
                    refine g_brF (c := d < (0 : Int32)) (t := 34) (f := 13) (L' := [some (.ref 281), some (.int 3), some (.int b), some (.int c), some (.int d), none, none]) (st' := []) rfl (x_Flt (l := 0) (u := 0) p18 (by decide) (by decide)) ?_
                    refine g_n 2 (pc' := 17) (L' := [some (.ref 281), some (.int 3), some (.int b), some (.int c), some (.int d), none, none]) (st' := [.int 6, .int d]) rfl ?_
                    refine g_brF (c := (6 : Int32) < d) (t := 34) (f := 20) (L' := [some (.ref 281), some (.int 3), some (.int b), some (.int c), some (.int d), none, none]) (st' := []) rfl (x_Flt (l := 6) (u := 1) (by decide) p23 (by decide)) ?_
                    refine g_n 1 (pc' := 21) (L' := [some (.ref 281), some (.int 3), some (.int b), some (.int c), some (.int d), none, none]) (st' := [.int b]) rfl ?_
                    refine g_brF (c := b < (0 : Int32)) (t := 34) (f := 24) (L' := [some (.ref 281), some (.int 3), some (.int b), some (.int c), some (.int d), none, none]) (st' := []) rfl (x_Flt (l := 0) (u := 0) p15 (by decide) (by decide)) ?_
                    refine g_n 2 (pc' := 27) (L' := [some (.ref 281), some (.int 3), some (.int b), some (.int c), some (.int d), none, none]) (st' := [.int 1, .int d]) rfl ?_
                    refine g_brT (c := d ≤ (1 : Int32)) (t := 36) (f := 30) (L' := [some (.ref 281), some (.int 3), some (.int b), some (.int c), some (.int d), none, none]) (st' := []) rfl (x_Tle (u := 1) (l := 1) p23 (by decide) (by decide)) ?_
                    refine g_n 6 (pc' := 47) (L' := [some (.ref 281), some (.int 3), some (.int b), some (.int c), some (.int d), none, none]) (st' := [.int (-2)]) rfl ?_
                    exact g_ret (ins := .ireturn) (len := 1) (r := (some (.int (-2)))) rfl rfl rfl ⟨_, rfl, rfl, (x_sv_rf _)⟩
            · have p37 : 2 ≤ d.toInt := x_lo_le (x_nlt h22) (by decide)
              refine g_n 1 (pc' := 30) (L' := [some (.ref 0), some (.int a), some (.int b), some (.int c), some (.int d), none]) (st' := [.int c]) rfl ?_
              refine g_br (c := (0 : Int32) ≤ c) (t := 35) (f := 33) (L' := [some (.ref 0), some (.int a), some (.int b), some (.int c), some (.int d), none]) (st' := []) rfl (fun h38 => ?_) (fun h38 => ?_)
              · have p39 : 0 ≤ c.toInt := x_lo_le h38 (by decide)
                refine g_n 3 (pc' := 40) (L' := [some (.ref 0), some (.int a), some (.int b), some (.int c), some (.int d), none]) (st' := [.int a, .ref 2]) rfl ?_
                by_cases h40 : a = 0
                · have e41 : a = 0 := h40
                  subst e41
                  refine g_aa (i := 0) (a := 2) (n := 4) (v := 27) rfl rfl (by decide) (x_at (x_f2 hF) (k := 0) rfl) ?_
                  refine g_n 5 (pc' := 53) (L' := [some (.ref 0), some (.int 0), some (.int b), some (.int c), some (.int d), some (.ref 27)]) (st' := [.int (-2)]) rfl ?_
                  refine g_ret (ins := .ireturn) (len := 1) (r := (some (.int (-2)))) rfl rfl rfl ?_
                  refine ⟨⟨_, rfl⟩, ?_⟩
                  refine g_in (M := x_M496) (L := [some (.ref 281), some (.int 0), some (.int b), some (.int c), some (.int d), none, none]) x_pl496 rfl ?_
                  refine g_n 2 (pc' := 2) (L' := [some (.ref 281), some (.int 0), some (.int b), some (.int c), some (.int d), none, none]) (st' := [.int 0, .ref 281]) rfl ?_
                  refine g_call (ins := .invokevirtual 1015) (len := 3) (j := 488) (as := [.ref 281, .int 0]) (rest := []) rfl rfl rfl rfl (fun _ => rfl) rfl ?_
                  refine g_in (M := x_M488) (L := [some (.ref 281), some (.int 0)]) x_pl488 rfl ?_
                  refine g_n 7 (pc' := 14) (L' := [some (.ref 281), some (.int 0)]) (st' := [.int 1]) rfl ?_
                  refine g_ret (ins := .ireturn) (len := 1) (r := (some (.int 1))) rfl rfl rfl ?_
                  refine g_n 2 (pc' := 10) (L' := [some (.ref 281), some (.int 0), some (.int b), some (.int c), some (.int d), none, none]) (st' := [.int d]) rfl ?_
                  refine g_brF (c := d < (0 : Int32)) (t := 34) (f := 13) (L' := [some (.ref 281), some (.int 0), some (.int b), some (.int c), some (.int d), none, none]) (st' := []) rfl (x_Flt (l := 2) (u := 0) p37 (by decide) (by decide)) ?_
                  refine g_n 2 (pc' := 17) (L' := [some (.ref 281), some (.int 0), some (.int b), some (.int c), some (.int d), none, none]) (st' := [.int 6, .int d]) rfl ?_
                  refine g_brF (c := (6 : Int32) < d) (t := 34) (f := 20) (L' := [some (.ref 281), some (.int 0), some (.int b), some (.int c), some (.int d), none, none]) (st' := []) rfl (x_Flt (l := 6) (u := 6) (by decide) p21 (by decide)) ?_
                  refine g_n 1 (pc' := 21) (L' := [some (.ref 281), some (.int 0), some (.int b), some (.int c), some (.int d), none, none]) (st' := [.int b]) rfl ?_
                  refine g_brF (c := b < (0 : Int32)) (t := 34) (f := 24) (L' := [some (.ref 281), some (.int 0), some (.int b), some (.int c), some (.int d), none, none]) (st' := []) rfl (x_Flt (l := 0) (u := 0) p15 (by decide) (by decide)) ?_
                  refine g_n 2 (pc' := 27) (L' := [some (.ref 281), some (.int 0), some (.int b), some (.int c), some (.int d), none, none]) (st' := [.int 1, .int d]) rfl ?_
                  refine g_brF (c := d ≤ (1 : Int32)) (t := 36) (f := 30) (L' := [some (.ref 281), some (.int 0), some (.int b), some (.int c), some (.int d), none, none]) (st' := []) rfl (x_Fle (l := 2) (u := 1) p37 (by decide) (by decide)) ?_
                  refine g_n 1 (pc' := 31) (L' := [some (.ref 281), some (.int 0), some (.int b), some (.int c), some (.int d), none, none]) (st' := [.int c]) rfl ?_
                  refine g_brT (c := (0 : Int32) ≤ c) (t := 36) (f := 34) (L' := [some (.ref 281), some (.int 0), some (.int b), some (.int c), some (.int d), none, none]) (st' := []) rfl (x_Tle (u := 0) (l := 0) (by decide) p39 (by decide)) ?_
                  refine g_n 6 (pc' := 47) (L' := [some (.ref 281), some (.int 0), some (.int b), some (.int c), some (.int d), none, none]) (st' := [.int (-2)]) rfl ?_
                  exact g_ret (ins := .ireturn) (len := 1) (r := (some (.int (-2)))) rfl rfl rfl ⟨_, rfl, rfl, (x_sv_rf _)⟩
                · have q42 : ¬ a = 0 := h40
                  have p43 : 1 ≤ a.toInt := x_lo_ne q42 p3 (by decide)
                  by_cases h44 : a = 1
                  · have e45 : a = 1 := h44
                    subst e45
                    refine g_aa (i := 1) (a := 2) (n := 4) (v := 50) rfl rfl (by decide) (x_at (x_f2 hF) (k := 1) rfl) ?_
                    refine g_n 5 (pc' := 53) (L' := [some (.ref 0), some (.int 1), some (.int b), some (.int c), some (.int d), some (.ref 50)]) (st' := [.int (-2)]) rfl ?_
                    refine g_ret (ins := .ireturn) (len := 1) (r := (some (.int (-2)))) rfl rfl rfl ?_
                    refine ⟨⟨_, rfl⟩, ?_⟩
                    refine g_in (M := x_M496) (L := [some (.ref 281), some (.int 1), some (.int b), some (.int c), some (.int d), none, none]) x_pl496 rfl ?_
                    refine g_n 2 (pc' := 2) (L' := [some (.ref 281), some (.int 1), some (.int b), some (.int c), some (.int d), none, none]) (st' := [.int 1, .ref 281]) rfl ?_
                    refine g_call (ins := .invokevirtual 1015) (len := 3) (j := 488) (as := [.ref 281, .int 1]) (rest := []) rfl rfl rfl rfl (fun _ => rfl) rfl ?_
                    refine g_in (M := x_M488) (L := [some (.ref 281), some (.int 1)]) x_pl488 rfl ?_
                    refine g_n 7 (pc' := 14) (L' := [some (.ref 281), some (.int 1)]) (st' := [.int 1]) rfl ?_
                    refine g_ret (ins := .ireturn) (len := 1) (r := (some (.int 1))) rfl rfl rfl ?_
                    refine g_n 2 (pc' := 10) (L' := [some (.ref 281), some (.int 1), some (.int b), some (.int c), some (.int d), none, none]) (st' := [.int d]) rfl ?_
                    refine g_brF (c := d < (0 : Int32)) (t := 34) (f := 13) (L' := [some (.ref 281), some (.int 1), some (.int b), some (.int c), some (.int d), none, none]) (st' := []) rfl (x_Flt (l := 2) (u := 0) p37 (by decide) (by decide)) ?_
                    refine g_n 2 (pc' := 17) (L' := [some (.ref 281), some (.int 1), some (.int b), some (.int c), some (.int d), none, none]) (st' := [.int 6, .int d]) rfl ?_
                    refine g_brF (c := (6 : Int32) < d) (t := 34) (f := 20) (L' := [some (.ref 281), some (.int 1), some (.int b), some (.int c), some (.int d), none, none]) (st' := []) rfl (x_Flt (l := 6) (u := 6) (by decide) p21 (by decide)) ?_
                    refine g_n 1 (pc' := 21) (L' := [some (.ref 281), some (.int 1), some (.int b), some (.int c), some (.int d), none, none]) (st' := [.int b]) rfl ?_
                    refine g_brF (c := b < (0 : Int32)) (t := 34) (f := 24) (L' := [some (.ref 281), some (.int 1), some (.int b), some (.int c), some (.int d), none, none]) (st' := []) rfl (x_Flt (l := 0) (u := 0) p15 (by decide) (by decide)) ?_
                    refine g_n 2 (pc' := 27) (L' := [some (.ref 281), some (.int 1), some (.int b), some (.int c), some (.int d), none, none]) (st' := [.int 1, .int d]) rfl ?_
                    refine g_brF (c := d ≤ (1 : Int32)) (t := 36) (f := 30) (L' := [some (.ref 281), some (.int 1), some (.int b), some (.int c), some (.int d), none, none]) (st' := []) rfl (x_Fle (l := 2) (u := 1) p37 (by decide) (by decide)) ?_
                    refine g_n 1 (pc' := 31) (L' := [some (.ref 281), some (.int 1), some (.int b), some (.int c), some (.int d), none, none]) (st' := [.int c]) rfl ?_
                    refine g_brT (c := (0 : Int32) ≤ c) (t := 36) (f := 34) (L' := [some (.ref 281), some (.int 1), some (.int b), some (.int c), some (.int d), none, none]) (st' := []) rfl (x_Tle (u := 0) (l := 0) (by decide) p39 (by decide)) ?_
                    refine g_n 6 (pc' := 47) (L' := [some (.ref 281), some (.int 1), some (.int b), some (.int c), some (.int d), none, none]) (st' := [.int (-2)]) rfl ?_
                    exact g_ret (ins := .ireturn) (len := 1) (r := (some (.int (-2)))) rfl rfl rfl ⟨_, rfl, rfl, (x_sv_rf _)⟩
                  · have q46 : ¬ a = 1 := h44
                    have p47 : 2 ≤ a.toInt := x_lo_ne q46 p43 (by decide)
                    by_cases h48 : a = 2
                    · have e49 : a = 2 := h48
                      subst e49
                      refine g_aa (i := 2) (a := 2) (n := 4) (v := 73) rfl rfl (by decide) (x_at (x_f2 hF) (k := 2) rfl) ?_
                      refine g_n 5 (pc' := 53) (L' := [some (.ref 0), some (.int 2), some (.int b), some (.int c), some (.int d), some (.ref 73)]) (st' := [.int (-2)]) rfl ?_
                      refine g_ret (ins := .ireturn) (len := 1) (r := (some (.int (-2)))) rfl rfl rfl ?_
                      refine ⟨⟨_, rfl⟩, ?_⟩
                      refine g_in (M := x_M496) (L := [some (.ref 281), some (.int 2), some (.int b), some (.int c), some (.int d), none, none]) x_pl496 rfl ?_
                      refine g_n 2 (pc' := 2) (L' := [some (.ref 281), some (.int 2), some (.int b), some (.int c), some (.int d), none, none]) (st' := [.int 2, .ref 281]) rfl ?_
                      refine g_call (ins := .invokevirtual 1015) (len := 3) (j := 488) (as := [.ref 281, .int 2]) (rest := []) rfl rfl rfl rfl (fun _ => rfl) rfl ?_
                      refine g_in (M := x_M488) (L := [some (.ref 281), some (.int 2)]) x_pl488 rfl ?_
                      refine g_n 7 (pc' := 14) (L' := [some (.ref 281), some (.int 2)]) (st' := [.int 1]) rfl ?_
                      refine g_ret (ins := .ireturn) (len := 1) (r := (some (.int 1))) rfl rfl rfl ?_
                      refine g_n 2 (pc' := 10) (L' := [some (.ref 281), some (.int 2), some (.int b), some (.int c), some (.int d), none, none]) (st' := [.int d]) rfl ?_
                      refine g_brF (c := d < (0 : Int32)) (t := 34) (f := 13) (L' := [some (.ref 281), some (.int 2), some (.int b), some (.int c), some (.int d), none, none]) (st' := []) rfl (x_Flt (l := 2) (u := 0) p37 (by decide) (by decide)) ?_
                      refine g_n 2 (pc' := 17) (L' := [some (.ref 281), some (.int 2), some (.int b), some (.int c), some (.int d), none, none]) (st' := [.int 6, .int d]) rfl ?_
                      refine g_brF (c := (6 : Int32) < d) (t := 34) (f := 20) (L' := [some (.ref 281), some (.int 2), some (.int b), some (.int c), some (.int d), none, none]) (st' := []) rfl (x_Flt (l := 6) (u := 6) (by decide) p21 (by decide)) ?_
                      refine g_n 1 (pc' := 21) (L' := [some (.ref 281), some (.int 2), some (.int b), some (.int c), some (.int d), none, none]) (st' := [.int b]) rfl ?_
                      refine g_brF (c := b < (0 : Int32)) (t := 34) (f := 24) (L' := [some (.ref 281), some (.int 2), some (.int b), some (.int c), some (.int d), none, none]) (st' := []) rfl (x_Flt (l := 0) (u := 0) p15 (by decide) (by decide)) ?_
                      refine g_n 2 (pc' := 27) (L' := [some (.ref 281), some (.int 2), some (.int b), some (.int c), some (.int d), none, none]) (st' := [.int 1, .int d]) rfl ?_
                      refine g_brF (c := d ≤ (1 : Int32)) (t := 36) (f := 30) (L' := [some (.ref 281), some (.int 2), some (.int b), some (.int c), some (.int d), none, none]) (st' := []) rfl (x_Fle (l := 2) (u := 1) p37 (by decide) (by decide)) ?_
                      refine g_n 1 (pc' := 31) (L' := [some (.ref 281), some (.int 2), some (.int b), some (.int c), some (.int d), none, none]) (st' := [.int c]) rfl ?_
                      refine g_brT (c := (0 : Int32) ≤ c) (t := 36) (f := 34) (L' := [some (.ref 281), some (.int 2), some (.int b), some (.int c), some (.int d), none, none]) (st' := []) rfl (x_Tle (u := 0) (l := 0) (by decide) p39 (by decide)) ?_
                      refine g_n 6 (pc' := 47) (L' := [some (.ref 281), some (.int 2), some (.int b), some (.int c), some (.int d), none, none]) (st' := [.int (-2)]) rfl ?_
                      exact g_ret (ins := .ireturn) (len := 1) (r := (some (.int (-2)))) rfl rfl rfl ⟨_, rfl, rfl, (x_sv_rf _)⟩
                    · have q50 : ¬ a = 2 := h48
                      have p51 : 3 ≤ a.toInt := x_lo_ne q50 p47 (by decide)
                      have e52 : a = 3 := x_sing p51 p6 (by decide)
                      subst e52
                      refine g_aa (i := 3) (a := 2) (n := 4) (v := 96) rfl rfl (by decide) (x_at (x_f2 hF) (k := 3) rfl) ?_
                      refine g_n 5 (pc' := 53) (L' := [some (.ref 0), some (.int 3), some (.int b), some (.int c), some (.int d), some (.ref 96)]) (st' := [.int (-2)]) rfl ?_
                      refine g_ret (ins := .ireturn) (len := 1) (r := (some (.int (-2)))) rfl rfl rfl ?_
                      refine ⟨⟨_, rfl⟩, ?_⟩
                      refine g_in (M := x_M496) (L := [some (.ref 281), some (.int 3), some (.int b), some (.int c), some (.int d), none, none]) x_pl496 rfl ?_
                      refine g_n 2 (pc' := 2) (L' := [some (.ref 281), some (.int 3), some (.int b), some (.int c), some (.int d), none, none]) (st' := [.int 3, .ref 281]) rfl ?_
                      refine g_call (ins := .invokevirtual 1015) (len := 3) (j := 488) (as := [.ref 281, .int 3]) (rest := []) rfl rfl rfl rfl (fun _ => rfl) rfl ?_
                      refine g_in (M := x_M488) (L := [some (.ref 281), some (.int 3)]) x_pl488 rfl ?_
                      refine g_n 7 (pc' := 14) (L' := [some (.ref 281), some (.int 3)]) (st' := [.int 1]) rfl ?_
                      refine g_ret (ins := .ireturn) (len := 1) (r := (some (.int 1))) rfl rfl rfl ?_
                      refine g_n 2 (pc' := 10) (L' := [some (.ref 281), some (.int 3), some (.int b), some (.int c), some (.int d), none, none]) (st' := [.int d]) rfl ?_
                      refine g_brF (c := d < (0 : Int32)) (t := 34) (f := 13) (L' := [some (.ref 281), some (.int 3), some (.int b), some (.int c), some (.int d), none, none]) (st' := []) rfl (x_Flt (l := 2) (u := 0) p37 (by decide) (by decide)) ?_
                      refine g_n 2 (pc' := 17) (L' := [some (.ref 281), some (.int 3), some (.int b), some (.int c), some (.int d), none, none]) (st' := [.int 6, .int d]) rfl ?_
                      refine g_brF (c := (6 : Int32) < d) (t := 34) (f := 20) (L' := [some (.ref 281), some (.int 3), some (.int b), some (.int c), some (.int d), none, none]) (st' := []) rfl (x_Flt (l := 6) (u := 6) (by decide) p21 (by decide)) ?_
                      refine g_n 1 (pc' := 21) (L' := [some (.ref 281), some (.int 3), some (.int b), some (.int c), some (.int d), none, none]) (st' := [.int b]) rfl ?_
                      refine g_brF (c := b < (0 : Int32)) (t := 34) (f := 24) (L' := [some (.ref 281), some (.int 3), some (.int b), some (.int c), some (.int d), none, none]) (st' := []) rfl (x_Flt (l := 0) (u := 0) p15 (by decide) (by decide)) ?_
                      refine g_n 2 (pc' := 27) (L' := [some (.ref 281), some (.int 3), some (.int b), some (.int c), some (.int d), none, none]) (st' := [.int 1, .int d]) rfl ?_
                      refine g_brF (c := d ≤ (1 : Int32)) (t := 36) (f := 30) (L' := [some (.ref 281), some (.int 3), some (.int b), some (.int c), some (.int d), none, none]) (st' := []) rfl (x_Fle (l := 2) (u := 1) p37 (by decide) (by decide)) ?_
                      refine g_n 1 (pc' := 31) (L' := [some (.ref 281), some (.int 3), some (.int b), some (.int c), some (.int d), none, none]) (st' := [.int c]) rfl ?_
                      refine g_brT (c := (0 : Int32) ≤ c) (t := 36) (f := 34) (L' := [some (.ref 281), some (.int 3), some (.int b), some (.int c), some (.int d), none, none]) (st' := []) rfl (x_Tle (u := 0) (l := 0) (by decide) p39 (by decide)) ?_
                      refine g_n 6 (pc' := 47) (L' := [some (.ref 281), some (.int 3), some (.int b), some (.int c), some (.int d), none, none]) (st' := [.int (-2)]) rfl ?_
                      exact g_ret (ins := .ireturn) (len := 1) (r := (some (.int (-2)))) rfl rfl rfl ⟨_, rfl, rfl, (x_sv_rf _)⟩
              · have p53 : c.toInt ≤ -1 := x_up_lt (x_nle h38) (by decide)
                refine g_n 1 (pc' := 34) (L' := [some (.ref 0), some (.int a), some (.int b), some (.int c), some (.int d), none]) (st' := [.int (-1)]) rfl ?_
                refine g_ret (ins := .ireturn) (len := 1) (r := (some (.int (-1)))) rfl rfl rfl ?_
                refine ⟨⟨_, rfl⟩, ?_⟩
                refine g_in (M := x_M496) (L := [some (.ref 281), some (.int a), some (.int b), some (.int c), some (.int d), none, none]) x_pl496 rfl ?_
                refine g_n 2 (pc' := 2) (L' := [some (.ref 281), some (.int a), some (.int b), some (.int c), some (.int d), none, none]) (st' := [.int a, .ref 281]) rfl ?_
                refine g_call (ins := .invokevirtual 1015) (len := 3) (j := 488) (as := [.ref 281, .int a]) (rest := []) rfl rfl rfl rfl (fun _ => rfl) rfl ?_
                refine g_in (M := x_M488) (L := [some (.ref 281), some (.int a)]) x_pl488 rfl ?_
                refine g_n 1 (pc' := 1) (L' := [some (.ref 281), some (.int a)]) (st' := [.int a]) rfl ?_
                refine g_brF (c := a < (0 : Int32)) (t := 13) (f := 4) (L' := [some (.ref 281), some (.int a)]) (st' := []) rfl (x_Flt (l := 0) (u := 0) p3 (by decide) (by decide)) ?_
                refine g_n 2 (pc' := 6) (L' := [some (.ref 281), some (.int a)]) (st' := [.int 4, .int a]) rfl ?_
                refine g_brF (c := (4 : Int32) ≤ a) (t := 13) (f := 9) (L' := [some (.ref 281), some (.int a)]) (st' := []) rfl (x_Fle (l := 4) (u := 3) (by decide) p6 (by decide)) ?_
                refine g_n 2 (pc' := 14) (L' := [some (.ref 281), some (.int a)]) (st' := [.int 1]) rfl ?_
                refine g_ret (ins := .ireturn) (len := 1) (r := (some (.int 1))) rfl rfl rfl ?_
                refine g_n 2 (pc' := 10) (L' := [some (.ref 281), some (.int a), some (.int b), some (.int c), some (.int d), none, none]) (st' := [.int d]) rfl ?_
                refine g_brF (c := d < (0 : Int32)) (t := 34) (f := 13) (L' := [some (.ref 281), some (.int a), some (.int b), some (.int c), some (.int d), none, none]) (st' := []) rfl (x_Flt (l := 2) (u := 0) p37 (by decide) (by decide)) ?_
                refine g_n 2 (pc' := 17) (L' := [some (.ref 281), some (.int a), some (.int b), some (.int c), some (.int d), none, none]) (st' := [.int 6, .int d]) rfl ?_
                refine g_brF (c := (6 : Int32) < d) (t := 34) (f := 20) (L' := [some (.ref 281), some (.int a), some (.int b), some (.int c), some (.int d), none, none]) (st' := []) rfl (x_Flt (l := 6) (u := 6) (by decide) p21 (by decide)) ?_
                refine g_n 1 (pc' := 21) (L' := [some (.ref 281), some (.int a), some (.int b), some (.int c), some (.int d), none, none]) (st' := [.int b]) rfl ?_
                refine g_brF (c := b < (0 : Int32)) (t := 34) (f := 24) (L' := [some (.ref 281), some (.int a), some (.int b), some (.int c), some (.int d), none, none]) (st' := []) rfl (x_Flt (l := 0) (u := 0) p15 (by decide) (by decide)) ?_
                refine g_n 2 (pc' := 27) (L' := [some (.ref 281), some (.int a), some (.int b), some (.int c), some (.int d), none, none]) (st' := [.int 1, .int d]) rfl ?_
                refine g_brF (c := d ≤ (1 : Int32)) (t := 36) (f := 30) (L' := [some (.ref 281), some (.int a), some (.int b), some (.int c), some (.int d), none, none]) (st' := []) rfl (x_Fle (l := 2) (u := 1) p37 (by decide) (by decide)) ?_
                refine g_n 1 (pc' := 31) (L' := [some (.ref 281), some (.int a), some (.int b), some (.int c), some (.int d), none, none]) (st' := [.int c]) rfl ?_
                refine g_brF (c := (0 : Int32) ≤ c) (t := 36) (f := 34) (L' := [some (.ref 281), some (.int a), some (.int b), some (.int c), some (.int d), none, none]) (st' := []) rfl (x_Fle (l := 0) (u := -1) (by decide) p53 (by decide)) ?_
                refine g_n 1 (pc' := 35) (L' := [some (.ref 281), some (.int a), some (.int b), some (.int c), some (.int d), none, none]) (st' := [.int (-1)]) rfl ?_
                exact g_ret (ins := .ireturn) (len := 1) (r := (some (.int (-1)))) rfl rfl rfl ⟨_, rfl, rfl, (x_sv_rf _)⟩
set_option maxRecDepth 100000 in
set_option maxHeartbeats 4000000 in
theorem x_op15 {fi : Nat → Nat → Int32} {fl : Nat → Nat → Int64} {fr : Nat → Nat → Option Nat} (hF : x_F fl fr) (a b : Int32) : x_ev 30 368 [.ref 0, .int a, .int b] (x_W fi fl fr) fun r S1 => (∃ fs, x_obj S1 281 = some (12, fs)) ∧ x_ev 30 497 [.ref 281, .int a, .int b] S1 (x_finI (x_W fi fl fr) r) := by
  refine g_in (M := x_M368) (L := [some (.ref 0), some (.int a), some (.int b), none, none]) x_pl368 rfl ?_
  refine g_n 1 (pc' := 1) (L' := [some (.ref 0), some (.int a), some (.int b), none, none]) (st' := [.int a]) rfl ?_
  refine g_call (ins := .invokestatic 173) (len := 3) (j := 348) (as := [.int a]) (rest := []) rfl rfl rfl rfl (fun _ => rfl) rfl ?_
  refine g_in (M := x_M348) (L := [some (.int a)]) x_pl348 rfl ?_
  refine g_n 1 (pc' := 1) (L' := [some (.int a)]) (st' := [.int a]) rfl ?_
  refine g_br (c := a < (0 : Int32)) (t := 13) (f := 4) (L' := [some (.int a)]) (st' := []) rfl (fun h1 => ?_) (fun h1 => ?_)
  · have p2 : a.toInt ≤ -1 := x_up_lt h1 (by decide)
    refine g_n 1 (pc' := 14) (L' := [some (.int a)]) (st' := [.int 0]) rfl ?_
    refine g_ret (ins := .ireturn) (len := 1) (r := (some (.int 0))) rfl rfl rfl ?_
    refine g_n 2 (pc' := 15) (L' := [some (.ref 0), some (.int a), some (.int b), none, none]) (st' := [.int (-1)]) rfl ?_
    refine g_ret (ins := .ireturn) (len := 1) (r := (some (.int (-1)))) rfl rfl rfl ?_
    refine ⟨⟨_, rfl⟩, ?_⟩
    refine g_in (M := x_M497) (L := [some (.ref 281), some (.int a), some (.int b), none, none]) x_pl497 rfl ?_
    refine g_n 2 (pc' := 2) (L' := [some (.ref 281), some (.int a), some (.int b), none, none]) (st' := [.int a, .ref 281]) rfl ?_
    refine g_call (ins := .invokevirtual 1015) (len := 3) (j := 488) (as := [.ref 281, .int a]) (rest := []) rfl rfl rfl rfl (fun _ => rfl) rfl ?_
    refine g_in (M := x_M488) (L := [some (.ref 281), some (.int a)]) x_pl488 rfl ?_
    refine g_n 1 (pc' := 1) (L' := [some (.ref 281), some (.int a)]) (st' := [.int a]) rfl ?_
    refine g_brT (c := a < (0 : Int32)) (t := 13) (f := 4) (L' := [some (.ref 281), some (.int a)]) (st' := []) rfl (x_Tlt (u := -1) (l := 0) p2 (by decide) (by decide)) ?_
    refine g_n 1 (pc' := 14) (L' := [some (.ref 281), some (.int a)]) (st' := [.int 0]) rfl ?_
    refine g_ret (ins := .ireturn) (len := 1) (r := (some (.int 0))) rfl rfl rfl ?_
    refine g_n 2 (pc' := 17) (L' := [some (.ref 281), some (.int a), some (.int b), none, none]) (st' := [.int (-1)]) rfl ?_
    exact g_ret (ins := .ireturn) (len := 1) (r := (some (.int (-1)))) rfl rfl rfl ⟨_, rfl, rfl, (x_sv_rf _)⟩
  · have p3 : 0 ≤ a.toInt := x_lo_le (x_nlt h1) (by decide)
    refine g_n 2 (pc' := 6) (L' := [some (.int a)]) (st' := [.int 4, .int a]) rfl ?_
    refine g_br (c := (4 : Int32) ≤ a) (t := 13) (f := 9) (L' := [some (.int a)]) (st' := []) rfl (fun h4 => ?_) (fun h4 => ?_)
    · have p5 : 4 ≤ a.toInt := x_lo_le h4 (by decide)
      refine g_n 1 (pc' := 14) (L' := [some (.int a)]) (st' := [.int 0]) rfl ?_
      refine g_ret (ins := .ireturn) (len := 1) (r := (some (.int 0))) rfl rfl rfl ?_
      refine g_n 2 (pc' := 15) (L' := [some (.ref 0), some (.int a), some (.int b), none, none]) (st' := [.int (-1)]) rfl ?_
      refine g_ret (ins := .ireturn) (len := 1) (r := (some (.int (-1)))) rfl rfl rfl ?_
      refine ⟨⟨_, rfl⟩, ?_⟩
      refine g_in (M := x_M497) (L := [some (.ref 281), some (.int a), some (.int b), none, none]) x_pl497 rfl ?_
      refine g_n 2 (pc' := 2) (L' := [some (.ref 281), some (.int a), some (.int b), none, none]) (st' := [.int a, .ref 281]) rfl ?_
      refine g_call (ins := .invokevirtual 1015) (len := 3) (j := 488) (as := [.ref 281, .int a]) (rest := []) rfl rfl rfl rfl (fun _ => rfl) rfl ?_
      refine g_in (M := x_M488) (L := [some (.ref 281), some (.int a)]) x_pl488 rfl ?_
      refine g_n 1 (pc' := 1) (L' := [some (.ref 281), some (.int a)]) (st' := [.int a]) rfl ?_
      refine g_brF (c := a < (0 : Int32)) (t := 13) (f := 4) (L' := [some (.ref 281), some (.int a)]) (st' := []) rfl (x_Flt (l := 4) (u := 0) p5 (by decide) (by decide)) ?_
      refine g_n 2 (pc' := 6) (L' := [some (.ref 281), some (.int a)]) (st' := [.int 4, .int a]) rfl ?_
      refine g_brT (c := (4 : Int32) ≤ a) (t := 13) (f := 9) (L' := [some (.ref 281), some (.int a)]) (st' := []) rfl (x_Tle (u := 4) (l := 4) (by decide) p5 (by decide)) ?_
      refine g_n 1 (pc' := 14) (L' := [some (.ref 281), some (.int a)]) (st' := [.int 0]) rfl ?_
      refine g_ret (ins := .ireturn) (len := 1) (r := (some (.int 0))) rfl rfl rfl ?_
      refine g_n 2 (pc' := 17) (L' := [some (.ref 281), some (.int a), some (.int b), none, none]) (st' := [.int (-1)]) rfl ?_
      exact g_ret (ins := .ireturn) (len := 1) (r := (some (.int (-1)))) rfl rfl rfl ⟨_, rfl, rfl, (x_sv_rf _)⟩
    · have p6 : a.toInt ≤ 3 := x_up_lt (x_nle h4) (by decide)
      refine g_n 2 (pc' := 14) (L' := [some (.int a)]) (st' := [.int 1]) rfl ?_
      refine g_ret (ins := .ireturn) (len := 1) (r := (some (.int 1))) rfl rfl rfl ?_
      refine g_n 2 (pc' := 8) (L' := [some (.ref 0), some (.int a), some (.int b), none, none]) (st' := [.int b]) rfl ?_
      refine g_call (ins := .invokestatic 150) (len := 3) (j := 347) (as := [.int b]) (rest := []) rfl rfl rfl rfl (fun _ => rfl) rfl ?_
      refine g_in (M := x_M347) (L := [some (.int b)]) x_pl347 rfl ?_
      refine g_n 1 (pc' := 1) (L' := [some (.int b)]) (st' := [.int b]) rfl ?_
      refine g_br (c := b < (0 : Int32)) (t := 14) (f := 4) (L' := [some (.int b)]) (st' := []) rfl (fun h7 => ?_) (fun h7 => ?_)
      · have p8 : b.toInt ≤ -1 := x_up_lt h7 (by decide)
        refine g_n 1 (pc' := 15) (L' := [some (.int b)]) (st' := [.int 0]) rfl ?_
        refine g_ret (ins := .ireturn) (len := 1) (r := (some (.int 0))) rfl rfl rfl ?_
        refine g_n 2 (pc' := 15) (L' := [some (.ref 0), some (.int a), some (.int b), none, none]) (st' := [.int (-1)]) rfl ?_
        refine g_ret (ins := .ireturn) (len := 1) (r := (some (.int (-1)))) rfl rfl rfl ?_
        refine ⟨⟨_, rfl⟩, ?_⟩
        refine g_in (M := x_M497) (L := [some (.ref 281), some (.int a), some (.int b), none, none]) x_pl497 rfl ?_
        refine g_n 2 (pc' := 2) (L' := [some (.ref 281), some (.int a), some (.int b), none, none]) (st' := [.int a, .ref 281]) rfl ?_
        refine g_call (ins := .invokevirtual 1015) (len := 3) (j := 488) (as := [.ref 281, .int a]) (rest := []) rfl rfl rfl rfl (fun _ => rfl) rfl ?_
        refine g_in (M := x_M488) (L := [some (.ref 281), some (.int a)]) x_pl488 rfl ?_
        refine g_n 1 (pc' := 1) (L' := [some (.ref 281), some (.int a)]) (st' := [.int a]) rfl ?_
        refine g_brF (c := a < (0 : Int32)) (t := 13) (f := 4) (L' := [some (.ref 281), some (.int a)]) (st' := []) rfl (x_Flt (l := 0) (u := 0) p3 (by decide) (by decide)) ?_
        refine g_n 2 (pc' := 6) (L' := [some (.ref 281), some (.int a)]) (st' := [.int 4, .int a]) rfl ?_
        refine g_brF (c := (4 : Int32) ≤ a) (t := 13) (f := 9) (L' := [some (.ref 281), some (.int a)]) (st' := []) rfl (x_Fle (l := 4) (u := 3) (by decide) p6 (by decide)) ?_
        refine g_n 2 (pc' := 14) (L' := [some (.ref 281), some (.int a)]) (st' := [.int 1]) rfl ?_
        refine g_ret (ins := .ireturn) (len := 1) (r := (some (.int 1))) rfl rfl rfl ?_
        refine g_n 3 (pc' := 10) (L' := [some (.ref 281), some (.int a), some (.int b), none, none]) (st' := [.int b, .ref 281]) rfl ?_
        refine g_call (ins := .invokevirtual 671) (len := 3) (j := 411) (as := [.ref 281, .int b]) (rest := []) rfl rfl rfl rfl (fun _ => rfl) rfl ?_
        refine g_in (M := x_M411) (L := [some (.ref 281), some (.int b)]) x_pl411 rfl ?_
        refine g_n 1 (pc' := 1) (L' := [some (.ref 281), some (.int b)]) (st' := [.int b]) rfl ?_
        refine g_brT (c := b < (0 : Int32)) (t := 14) (f := 4) (L' := [some (.ref 281), some (.int b)]) (st' := []) rfl (x_Tlt (u := -1) (l := 0) p8 (by decide) (by decide)) ?_
        refine g_n 1 (pc' := 15) (L' := [some (.ref 281), some (.int b)]) (st' := [.int 0]) rfl ?_
        refine g_ret (ins := .ireturn) (len := 1) (r := (some (.int 0))) rfl rfl rfl ?_
        refine g_n 2 (pc' := 17) (L' := [some (.ref 281), some (.int a), some (.int b), none, none]) (st' := [.int (-1)]) rfl ?_
        exact g_ret (ins := .ireturn) (len := 1) (r := (some (.int (-1)))) rfl rfl rfl ⟨_, rfl, rfl, (x_sv_rf _)⟩
      · have p9 : 0 ≤ b.toInt := x_lo_le (x_nlt h7) (by decide)
        refine g_n 2 (pc' := 7) (L' := [some (.int b)]) (st' := [.int 8, .int b]) rfl ?_
        refine g_br (c := (8 : Int32) ≤ b) (t := 14) (f := 10) (L' := [some (.int b)]) (st' := []) rfl (fun h10 => ?_) (fun h10 => ?_)
        · have p11 : 8 ≤ b.toInt := x_lo_le h10 (by decide)
          refine g_n 1 (pc' := 15) (L' := [some (.int b)]) (st' := [.int 0]) rfl ?_
          refine g_ret (ins := .ireturn) (len := 1) (r := (some (.int 0))) rfl rfl rfl ?_
          refine g_n 2 (pc' := 15) (L' := [some (.ref 0), some (.int a), some (.int b), none, none]) (st' := [.int (-1)]) rfl ?_
          refine g_ret (ins := .ireturn) (len := 1) (r := (some (.int (-1)))) rfl rfl rfl ?_
          refine ⟨⟨_, rfl⟩, ?_⟩
          refine g_in (M := x_M497) (L := [some (.ref 281), some (.int a), some (.int b), none, none]) x_pl497 rfl ?_
          refine g_n 2 (pc' := 2) (L' := [some (.ref 281), some (.int a), some (.int b), none, none]) (st' := [.int a, .ref 281]) rfl ?_
          refine g_call (ins := .invokevirtual 1015) (len := 3) (j := 488) (as := [.ref 281, .int a]) (rest := []) rfl rfl rfl rfl (fun _ => rfl) rfl ?_
          refine g_in (M := x_M488) (L := [some (.ref 281), some (.int a)]) x_pl488 rfl ?_
          refine g_n 1 (pc' := 1) (L' := [some (.ref 281), some (.int a)]) (st' := [.int a]) rfl ?_
          refine g_brF (c := a < (0 : Int32)) (t := 13) (f := 4) (L' := [some (.ref 281), some (.int a)]) (st' := []) rfl (x_Flt (l := 0) (u := 0) p3 (by decide) (by decide)) ?_
          refine g_n 2 (pc' := 6) (L' := [some (.ref 281), some (.int a)]) (st' := [.int 4, .int a]) rfl ?_
          refine g_brF (c := (4 : Int32) ≤ a) (t := 13) (f := 9) (L' := [some (.ref 281), some (.int a)]) (st' := []) rfl (x_Fle (l := 4) (u := 3) (by decide) p6 (by decide)) ?_
          refine g_n 2 (pc' := 14) (L' := [some (.ref 281), some (.int a)]) (st' := [.int 1]) rfl ?_
          refine g_ret (ins := .ireturn) (len := 1) (r := (some (.int 1))) rfl rfl rfl ?_
          refine g_n 3 (pc' := 10) (L' := [some (.ref 281), some (.int a), some (.int b), none, none]) (st' := [.int b, .ref 281]) rfl ?_
          refine g_call (ins := .invokevirtual 671) (len := 3) (j := 411) (as := [.ref 281, .int b]) (rest := []) rfl rfl rfl rfl (fun _ => rfl) rfl ?_
          refine g_in (M := x_M411) (L := [some (.ref 281), some (.int b)]) x_pl411 rfl ?_
          refine g_n 1 (pc' := 1) (L' := [some (.ref 281), some (.int b)]) (st' := [.int b]) rfl ?_
          refine g_brF (c := b < (0 : Int32)) (t := 14) (f := 4) (L' := [some (.ref 281), some (.int b)]) (st' := []) rfl (x_Flt (l := 8) (u := 0) p11 (by decide) (by decide)) ?_
          refine g_n 2 (pc' := 7) (L' := [some (.ref 281), some (.int b)]) (st' := [.int 8, .int b]) rfl ?_
          refine g_brT (c := (8 : Int32) ≤ b) (t := 14) (f := 10) (L' := [some (.ref 281), some (.int b)]) (st' := []) rfl (x_Tle (u := 8) (l := 8) (by decide) p11 (by decide)) ?_
          refine g_n 1 (pc' := 15) (L' := [some (.ref 281), some (.int b)]) (st' := [.int 0]) rfl ?_
          refine g_ret (ins := .ireturn) (len := 1) (r := (some (.int 0))) rfl rfl rfl ?_
          refine g_n 2 (pc' := 17) (L' := [some (.ref 281), some (.int a), some (.int b), none, none]) (st' := [.int (-1)]) rfl ?_
          exact g_ret (ins := .ireturn) (len := 1) (r := (some (.int (-1)))) rfl rfl rfl ⟨_, rfl, rfl, (x_sv_rf _)⟩
        · have p12 : b.toInt ≤ 7 := x_up_lt (x_nle h10) (by decide)
          refine g_n 2 (pc' := 15) (L' := [some (.int b)]) (st' := [.int 1]) rfl ?_
          refine g_ret (ins := .ireturn) (len := 1) (r := (some (.int 1))) rfl rfl rfl ?_
          refine g_n 4 (pc' := 21) (L' := [some (.ref 0), some (.int a), some (.int b), none, none]) (st' := [.int a, .ref 2]) rfl ?_
          by_cases h13 : a = 0
          · have e14 : a = 0 := h13
            subst e14
            refine g_aa (i := 0) (a := 2) (n := 4) (v := 27) rfl rfl (by decide) (x_at (x_f2 hF) (k := 0) rfl) ?_
            refine g_n 5 (pc' := 32) (L' := [some (.ref 0), some (.int 0), some (.int b), some (.ref 27), none]) (st' := [.int (-2)]) rfl ?_
            refine g_ret (ins := .ireturn) (len := 1) (r := (some (.int (-2)))) rfl rfl rfl ?_
            refine ⟨⟨_, rfl⟩, ?_⟩
            refine g_in (M := x_M497) (L := [some (.ref 281), some (.int 0), some (.int b), none, none]) x_pl497 rfl ?_
            refine g_n 2 (pc' := 2) (L' := [some (.ref 281), some (.int 0), some (.int b), none, none]) (st' := [.int 0, .ref 281]) rfl ?_
            refine g_call (ins := .invokevirtual 1015) (len := 3) (j := 488) (as := [.ref 281, .int 0]) (rest := []) rfl rfl rfl rfl (fun _ => rfl) rfl ?_
            refine g_in (M := x_M488) (L := [some (.ref 281), some (.int 0)]) x_pl488 rfl ?_
            refine g_n 7 (pc' := 14) (L' := [some (.ref 281), some (.int 0)]) (st' := [.int 1]) rfl ?_
            refine g_ret (ins := .ireturn) (len := 1) (r := (some (.int 1))) rfl rfl rfl ?_
            refine g_n 3 (pc' := 10) (L' := [some (.ref 281), some (.int 0), some (.int b), none, none]) (st' := [.int b, .ref 281]) rfl ?_
            refine g_call (ins := .invokevirtual 671) (len := 3) (j := 411) (as := [.ref 281, .int b]) (rest := []) rfl rfl rfl rfl (fun _ => rfl) rfl ?_
            refine g_in (M := x_M411) (L := [some (.ref 281), some (.int b)]) x_pl411 rfl ?_
            refine g_n 1 (pc' := 1) (L' := [some (.ref 281), some (.int b)]) (st' := [.int b]) rfl ?_
            refine g_brF (c := b < (0 : Int32)) (t := 14) (f := 4) (L' := [some (.ref 281), some (.int b)]) (st' := []) rfl (x_Flt (l := 0) (u := 0) p9 (by decide) (by decide)) ?_
            refine g_n 2 (pc' := 7) (L' := [some (.ref 281), some (.int b)]) (st' := [.int 8, .int b]) rfl ?_
            refine g_brF (c := (8 : Int32) ≤ b) (t := 14) (f := 10) (L' := [some (.ref 281), some (.int b)]) (st' := []) rfl (x_Fle (l := 8) (u := 7) (by decide) p12 (by decide)) ?_
            refine g_n 2 (pc' := 15) (L' := [some (.ref 281), some (.int b)]) (st' := [.int 1]) rfl ?_
            refine g_ret (ins := .ireturn) (len := 1) (r := (some (.int 1))) rfl rfl rfl ?_
            refine g_n 7 (pc' := 29) (L' := [some (.ref 281), some (.int 0), some (.int b), none, none]) (st' := [.int (-2)]) rfl ?_
            exact g_ret (ins := .ireturn) (len := 1) (r := (some (.int (-2)))) rfl rfl rfl ⟨_, rfl, rfl, (x_sv_rf _)⟩
          · have q15 : ¬ a = 0 := h13
            have p16 : 1 ≤ a.toInt := x_lo_ne q15 p3 (by decide)
            by_cases h17 : a = 1
            · have e18 : a = 1 := h17
              subst e18
              refine g_aa (i := 1) (a := 2) (n := 4) (v := 50) rfl rfl (by decide) (x_at (x_f2 hF) (k := 1) rfl) ?_
              refine g_n 5 (pc' := 32) (L' := [some (.ref 0), some (.int 1), some (.int b), some (.ref 50), none]) (st' := [.int (-2)]) rfl ?_
              refine g_ret (ins := .ireturn) (len := 1) (r := (some (.int (-2)))) rfl rfl rfl ?_
              refine ⟨⟨_, rfl⟩, ?_⟩
              refine g_in (M := x_M497) (L := [some (.ref 281), some (.int 1), some (.int b), none, none]) x_pl497 rfl ?_
              refine g_n 2 (pc' := 2) (L' := [some (.ref 281), some (.int 1), some (.int b), none, none]) (st' := [.int 1, .ref 281]) rfl ?_
              refine g_call (ins := .invokevirtual 1015) (len := 3) (j := 488) (as := [.ref 281, .int 1]) (rest := []) rfl rfl rfl rfl (fun _ => rfl) rfl ?_
              refine g_in (M := x_M488) (L := [some (.ref 281), some (.int 1)]) x_pl488 rfl ?_
              refine g_n 7 (pc' := 14) (L' := [some (.ref 281), some (.int 1)]) (st' := [.int 1]) rfl ?_
              refine g_ret (ins := .ireturn) (len := 1) (r := (some (.int 1))) rfl rfl rfl ?_
              refine g_n 3 (pc' := 10) (L' := [some (.ref 281), some (.int 1), some (.int b), none, none]) (st' := [.int b, .ref 281]) rfl ?_
              refine g_call (ins := .invokevirtual 671) (len := 3) (j := 411) (as := [.ref 281, .int b]) (rest := []) rfl rfl rfl rfl (fun _ => rfl) rfl ?_
              refine g_in (M := x_M411) (L := [some (.ref 281), some (.int b)]) x_pl411 rfl ?_
              refine g_n 1 (pc' := 1) (L' := [some (.ref 281), some (.int b)]) (st' := [.int b]) rfl ?_
              refine g_brF (c := b < (0 : Int32)) (t := 14) (f := 4) (L' := [some (.ref 281), some (.int b)]) (st' := []) rfl (x_Flt (l := 0) (u := 0) p9 (by decide) (by decide)) ?_
              refine g_n 2 (pc' := 7) (L' := [some (.ref 281), some (.int b)]) (st' := [.int 8, .int b]) rfl ?_
              refine g_brF (c := (8 : Int32) ≤ b) (t := 14) (f := 10) (L' := [some (.ref 281), some (.int b)]) (st' := []) rfl (x_Fle (l := 8) (u := 7) (by decide) p12 (by decide)) ?_
              refine g_n 2 (pc' := 15) (L' := [some (.ref 281), some (.int b)]) (st' := [.int 1]) rfl ?_
              refine g_ret (ins := .ireturn) (len := 1) (r := (some (.int 1))) rfl rfl rfl ?_
              refine g_n 7 (pc' := 29) (L' := [some (.ref 281), some (.int 1), some (.int b), none, none]) (st' := [.int (-2)]) rfl ?_
              exact g_ret (ins := .ireturn) (len := 1) (r := (some (.int (-2)))) rfl rfl rfl ⟨_, rfl, rfl, (x_sv_rf _)⟩
            · have q19 : ¬ a = 1 := h17
              have p20 : 2 ≤ a.toInt := x_lo_ne q19 p16 (by decide)
              by_cases h21 : a = 2
              · have e22 : a = 2 := h21
                subst e22
                refine g_aa (i := 2) (a := 2) (n := 4) (v := 73) rfl rfl (by decide) (x_at (x_f2 hF) (k := 2) rfl) ?_
                refine g_n 5 (pc' := 32) (L' := [some (.ref 0), some (.int 2), some (.int b), some (.ref 73), none]) (st' := [.int (-2)]) rfl ?_
                refine g_ret (ins := .ireturn) (len := 1) (r := (some (.int (-2)))) rfl rfl rfl ?_
                refine ⟨⟨_, rfl⟩, ?_⟩
                refine g_in (M := x_M497) (L := [some (.ref 281), some (.int 2), some (.int b), none, none]) x_pl497 rfl ?_
                refine g_n 2 (pc' := 2) (L' := [some (.ref 281), some (.int 2), some (.int b), none, none]) (st' := [.int 2, .ref 281]) rfl ?_
                refine g_call (ins := .invokevirtual 1015) (len := 3) (j := 488) (as := [.ref 281, .int 2]) (rest := []) rfl rfl rfl rfl (fun _ => rfl) rfl ?_
                refine g_in (M := x_M488) (L := [some (.ref 281), some (.int 2)]) x_pl488 rfl ?_
                refine g_n 7 (pc' := 14) (L' := [some (.ref 281), some (.int 2)]) (st' := [.int 1]) rfl ?_
                refine g_ret (ins := .ireturn) (len := 1) (r := (some (.int 1))) rfl rfl rfl ?_
                refine g_n 3 (pc' := 10) (L' := [some (.ref 281), some (.int 2), some (.int b), none, none]) (st' := [.int b, .ref 281]) rfl ?_
                refine g_call (ins := .invokevirtual 671) (len := 3) (j := 411) (as := [.ref 281, .int b]) (rest := []) rfl rfl rfl rfl (fun _ => rfl) rfl ?_
                refine g_in (M := x_M411) (L := [some (.ref 281), some (.int b)]) x_pl411 rfl ?_
                refine g_n 1 (pc' := 1) (L' := [some (.ref 281), some (.int b)]) (st' := [.int b]) rfl ?_
                refine g_brF (c := b < (0 : Int32)) (t := 14) (f := 4) (L' := [some (.ref 281), some (.int b)]) (st' := []) rfl (x_Flt (l := 0) (u := 0) p9 (by decide) (by decide)) ?_
                refine g_n 2 (pc' := 7) (L' := [some (.ref 281), some (.int b)]) (st' := [.int 8, .int b]) rfl ?_
                refine g_brF (c := (8 : Int32) ≤ b) (t := 14) (f := 10) (L' := [some (.ref 281), some (.int b)]) (st' := []) rfl (x_Fle (l := 8) (u := 7) (by decide) p12 (by decide)) ?_
                refine g_n 2 (pc' := 15) (L' := [some (.ref 281), some (.int b)]) (st' := [.int 1]) rfl ?_
                refine g_ret (ins := .ireturn) (len := 1) (r := (some (.int 1))) rfl rfl rfl ?_
                refine g_n 7 (pc' := 29) (L' := [some (.ref 281), some (.int 2), some (.int b), none, none]) (st' := [.int (-2)]) rfl ?_
                exact g_ret (ins := .ireturn) (len := 1) (r := (some (.int (-2)))) rfl rfl rfl ⟨_, rfl, rfl, (x_sv_rf _)⟩
              · have q23 : ¬ a = 2 := h21
                have p24 : 3 ≤ a.toInt := x_lo_ne q23 p20 (by decide)
                have e25 : a = 3 := x_sing p24 p6 (by decide)
                subst e25
                refine g_aa (i := 3) (a := 2) (n := 4) (v := 96) rfl rfl (by decide) (x_at (x_f2 hF) (k := 3) rfl) ?_
                refine g_n 5 (pc' := 32) (L' := [some (.ref 0), some (.int 3), some (.int b), some (.ref 96), none]) (st' := [.int (-2)]) rfl ?_
                refine g_ret (ins := .ireturn) (len := 1) (r := (some (.int (-2)))) rfl rfl rfl ?_
                refine ⟨⟨_, rfl⟩, ?_⟩
                refine g_in (M := x_M497) (L := [some (.ref 281), some (.int 3), some (.int b), none, none]) x_pl497 rfl ?_
                refine g_n 2 (pc' := 2) (L' := [some (.ref 281), some (.int 3), some (.int b), none, none]) (st' := [.int 3, .ref 281]) rfl ?_
                refine g_call (ins := .invokevirtual 1015) (len := 3) (j := 488) (as := [.ref 281, .int 3]) (rest := []) rfl rfl rfl rfl (fun _ => rfl) rfl ?_
                refine g_in (M := x_M488) (L := [some (.ref 281), some (.int 3)]) x_pl488 rfl ?_
                refine g_n 7 (pc' := 14) (L' := [some (.ref 281), some (.int 3)]) (st' := [.int 1]) rfl ?_
                refine g_ret (ins := .ireturn) (len := 1) (r := (some (.int 1))) rfl rfl rfl ?_
                refine g_n 3 (pc' := 10) (L' := [some (.ref 281), some (.int 3), some (.int b), none, none]) (st' := [.int b, .ref 281]) rfl ?_
                refine g_call (ins := .invokevirtual 671) (len := 3) (j := 411) (as := [.ref 281, .int b]) (rest := []) rfl rfl rfl rfl (fun _ => rfl) rfl ?_
                refine g_in (M := x_M411) (L := [some (.ref 281), some (.int b)]) x_pl411 rfl ?_
                refine g_n 1 (pc' := 1) (L' := [some (.ref 281), some (.int b)]) (st' := [.int b]) rfl ?_
                refine g_brF (c := b < (0 : Int32)) (t := 14) (f := 4) (L' := [some (.ref 281), some (.int b)]) (st' := []) rfl (x_Flt (l := 0) (u := 0) p9 (by decide) (by decide)) ?_
                refine g_n 2 (pc' := 7) (L' := [some (.ref 281), some (.int b)]) (st' := [.int 8, .int b]) rfl ?_
                refine g_brF (c := (8 : Int32) ≤ b) (t := 14) (f := 10) (L' := [some (.ref 281), some (.int b)]) (st' := []) rfl (x_Fle (l := 8) (u := 7) (by decide) p12 (by decide)) ?_
                refine g_n 2 (pc' := 15) (L' := [some (.ref 281), some (.int b)]) (st' := [.int 1]) rfl ?_
                refine g_ret (ins := .ireturn) (len := 1) (r := (some (.int 1))) rfl rfl rfl ?_
                refine g_n 7 (pc' := 29) (L' := [some (.ref 281), some (.int 3), some (.int b), none, none]) (st' := [.int (-2)]) rfl ?_
                exact g_ret (ins := .ireturn) (len := 1) (r := (some (.int (-2)))) rfl rfl rfl ⟨_, rfl, rfl, (x_sv_rf _)⟩
set_option maxRecDepth 100000 in
set_option maxHeartbeats 4000000 in
theorem x_op16 {fi : Nat → Nat → Int32} {fl : Nat → Nat → Int64} {fr : Nat → Nat → Option Nat} (hF : x_F fl fr) (a b c : Int32) : x_ev 30 369 [.ref 0, .int a, .int b, .int c] (x_W fi fl fr) fun r S1 => (∃ fs, x_obj S1 281 = some (12, fs)) ∧ x_ev 30 502 [.ref 281, .int a, .int b, .int c] S1 (x_finL (x_W fi fl fr) r) := by
  refine g_in (M := x_M369) (L := [some (.ref 0), some (.int a), some (.int b), some (.int c)]) x_pl369 rfl ?_
  refine g_n 1 (pc' := 1) (L' := [some (.ref 0), some (.int a), some (.int b), some (.int c)]) (st' := [.int a]) rfl ?_
  refine g_call (ins := .invokestatic 173) (len := 3) (j := 348) (as := [.int a]) (rest := []) rfl rfl rfl rfl (fun _ => rfl) rfl ?_
  refine g_in (M := x_M348) (L := [some (.int a)]) x_pl348 rfl ?_
  refine g_n 1 (pc' := 1) (L' := [some (.int a)]) (st' := [.int a]) rfl ?_
  refine g_br (c := a < (0 : Int32)) (t := 13) (f := 4) (L' := [some (.int a)]) (st' := []) rfl (fun h1 => ?_) (fun h1 => ?_)
  · have p2 : a.toInt ≤ -1 := x_up_lt h1 (by decide)
    refine g_n 1 (pc' := 14) (L' := [some (.int a)]) (st' := [.int 0]) rfl ?_
    refine g_ret (ins := .ireturn) (len := 1) (r := (some (.int 0))) rfl rfl rfl ?_
    refine g_n 2 (pc' := 24) (L' := [some (.ref 0), some (.int a), some (.int b), some (.int c)]) (st' := [.long 0]) rfl ?_
    refine g_ret (ins := .lreturn) (len := 1) (r := (some (.long 0))) rfl rfl rfl ?_
    refine ⟨⟨_, rfl⟩, ?_⟩
    refine g_in (M := x_M502) (L := [some (.ref 281), some (.int a), some (.int b), some (.int c)]) x_pl502 rfl ?_
    refine g_n 2 (pc' := 2) (L' := [some (.ref 281), some (.int a), some (.int b), some (.int c)]) (st' := [.int a, .ref 281]) rfl ?_
    refine g_call (ins := .invokevirtual 1015) (len := 3) (j := 488) (as := [.ref 281, .int a]) (rest := []) rfl rfl rfl rfl (fun _ => rfl) rfl ?_
    refine g_in (M := x_M488) (L := [some (.ref 281), some (.int a)]) x_pl488 rfl ?_
    refine g_n 1 (pc' := 1) (L' := [some (.ref 281), some (.int a)]) (st' := [.int a]) rfl ?_
    refine g_brT (c := a < (0 : Int32)) (t := 13) (f := 4) (L' := [some (.ref 281), some (.int a)]) (st' := []) rfl (x_Tlt (u := -1) (l := 0) p2 (by decide) (by decide)) ?_
    refine g_n 1 (pc' := 14) (L' := [some (.ref 281), some (.int a)]) (st' := [.int 0]) rfl ?_
    refine g_ret (ins := .ireturn) (len := 1) (r := (some (.int 0))) rfl rfl rfl ?_
    refine g_n 2 (pc' := 22) (L' := [some (.ref 281), some (.int a), some (.int b), some (.int c)]) (st' := [.long 0]) rfl ?_
    exact g_ret (ins := .lreturn) (len := 1) (r := (some (.long 0))) rfl rfl rfl ⟨_, rfl, rfl, (x_sv_rf _)⟩
  · have p3 : 0 ≤ a.toInt := x_lo_le (x_nlt h1) (by decide)
    refine g_n 2 (pc' := 6) (L' := [some (.int a)]) (st' := [.int 4, .int a]) rfl ?_
    refine g_br (c := (4 : Int32) ≤ a) (t := 13) (f := 9) (L' := [some (.int a)]) (st' := []) rfl (fun h4 => ?_) (fun h4 => ?_)
    · have p5 : 4 ≤ a.toInt := x_lo_le h4 (by decide)
      refine g_n 1 (pc' := 14) (L' := [some (.int a)]) (st' := [.int 0]) rfl ?_
      refine g_ret (ins := .ireturn) (len := 1) (r := (some (.int 0))) rfl rfl rfl ?_
      refine g_n 2 (pc' := 24) (L' := [some (.ref 0), some (.int a), some (.int b), some (.int c)]) (st' := [.long 0]) rfl ?_
      refine g_ret (ins := .lreturn) (len := 1) (r := (some (.long 0))) rfl rfl rfl ?_
      refine ⟨⟨_, rfl⟩, ?_⟩
      refine g_in (M := x_M502) (L := [some (.ref 281), some (.int a), some (.int b), some (.int c)]) x_pl502 rfl ?_
      refine g_n 2 (pc' := 2) (L' := [some (.ref 281), some (.int a), some (.int b), some (.int c)]) (st' := [.int a, .ref 281]) rfl ?_
      refine g_call (ins := .invokevirtual 1015) (len := 3) (j := 488) (as := [.ref 281, .int a]) (rest := []) rfl rfl rfl rfl (fun _ => rfl) rfl ?_
      refine g_in (M := x_M488) (L := [some (.ref 281), some (.int a)]) x_pl488 rfl ?_
      refine g_n 1 (pc' := 1) (L' := [some (.ref 281), some (.int a)]) (st' := [.int a]) rfl ?_
      refine g_brF (c := a < (0 : Int32)) (t := 13) (f := 4) (L' := [some (.ref 281), some (.int a)]) (st' := []) rfl (x_Flt (l := 4) (u := 0) p5 (by decide) (by decide)) ?_
      refine g_n 2 (pc' := 6) (L' := [some (.ref 281), some (.int a)]) (st' := [.int 4, .int a]) rfl ?_
      refine g_brT (c := (4 : Int32) ≤ a) (t := 13) (f := 9) (L' := [some (.ref 281), some (.int a)]) (st' := []) rfl (x_Tle (u := 4) (l := 4) (by decide) p5 (by decide)) ?_
      refine g_n 1 (pc' := 14) (L' := [some (.ref 281), some (.int a)]) (st' := [.int 0]) rfl ?_
      refine g_ret (ins := .ireturn) (len := 1) (r := (some (.int 0))) rfl rfl rfl ?_
      refine g_n 2 (pc' := 22) (L' := [some (.ref 281), some (.int a), some (.int b), some (.int c)]) (st' := [.long 0]) rfl ?_
      exact g_ret (ins := .lreturn) (len := 1) (r := (some (.long 0))) rfl rfl rfl ⟨_, rfl, rfl, (x_sv_rf _)⟩
    · have p6 : a.toInt ≤ 3 := x_up_lt (x_nle h4) (by decide)
      refine g_n 2 (pc' := 14) (L' := [some (.int a)]) (st' := [.int 1]) rfl ?_
      refine g_ret (ins := .ireturn) (len := 1) (r := (some (.int 1))) rfl rfl rfl ?_
      refine g_n 4 (pc' := 12) (L' := [some (.ref 0), some (.int a), some (.int b), some (.int c)]) (st' := [.int a, .ref 2]) rfl ?_
      by_cases h7 : a = 0
      · have e8 : a = 0 := h7
        subst e8
        refine g_aa (i := 0) (a := 2) (n := 4) (v := 27) rfl rfl (by decide) (x_at (x_f2 hF) (k := 0) rfl) ?_
        refine g_n 3 (pc' := 24) (L' := [some (.ref 0), some (.int 0), some (.int b), some (.int c)]) (st' := [.long 0]) rfl ?_
        refine g_ret (ins := .lreturn) (len := 1) (r := (some (.long 0))) rfl rfl rfl ?_
        refine ⟨⟨_, rfl⟩, ?_⟩
        refine g_in (M := x_M502) (L := [some (.ref 281), some (.int 0), some (.int b), some (.int c)]) x_pl502 rfl ?_
        refine g_n 2 (pc' := 2) (L' := [some (.ref 281), some (.int 0), some (.int b), some (.int c)]) (st' := [.int 0, .ref 281]) rfl ?_
        refine g_call (ins := .invokevirtual 1015) (len := 3) (j := 488) (as := [.ref 281, .int 0]) (rest := []) rfl rfl rfl rfl (fun _ => rfl) rfl ?_
        refine g_in (M := x_M488) (L := [some (.ref 281), some (.int 0)]) x_pl488 rfl ?_
        refine g_n 7 (pc' := 14) (L' := [some (.ref 281), some (.int 0)]) (st' := [.int 1]) rfl ?_
        refine g_ret (ins := .ireturn) (len := 1) (r := (some (.int 1))) rfl rfl rfl ?_
        refine g_n 7 (pc' := 22) (L' := [some (.ref 281), some (.int 0), some (.int b), some (.int c)]) (st' := [.long 0]) rfl ?_
        exact g_ret (ins := .lreturn) (len := 1) (r := (some (.long 0))) rfl rfl rfl ⟨_, rfl, rfl, (x_sv_rf _)⟩
      · have q9 : ¬ a = 0 := h7
        have p10 : 1 ≤ a.toInt := x_lo_ne q9 p3 (by decide)
        by_cases h11 : a = 1
        · have e12 : a = 1 := h11
          subst e12
          refine g_aa (i := 1) (a := 2) (n := 4) (v := 50) rfl rfl (by decide) (x_at (x_f2 hF) (k := 1) rfl) ?_
          refine g_n 3 (pc' := 24) (L' := [some (.ref 0), some (.int 1), some (.int b), some (.int c)]) (st' := [.long 0]) rfl ?_
          refine g_ret (ins := .lreturn) (len := 1) (r := (some (.long 0))) rfl rfl rfl ?_
          refine ⟨⟨_, rfl⟩, ?_⟩
          refine g_in (M := x_M502) (L := [some (.ref 281), some (.int 1), some (.int b), some (.int c)]) x_pl502 rfl ?_
          refine g_n 2 (pc' := 2) (L' := [some (.ref 281), some (.int 1), some (.int b), some (.int c)]) (st' := [.int 1, .ref 281]) rfl ?_
          refine g_call (ins := .invokevirtual 1015) (len := 3) (j := 488) (as := [.ref 281, .int 1]) (rest := []) rfl rfl rfl rfl (fun _ => rfl) rfl ?_
          refine g_in (M := x_M488) (L := [some (.ref 281), some (.int 1)]) x_pl488 rfl ?_
          refine g_n 7 (pc' := 14) (L' := [some (.ref 281), some (.int 1)]) (st' := [.int 1]) rfl ?_
          refine g_ret (ins := .ireturn) (len := 1) (r := (some (.int 1))) rfl rfl rfl ?_
          refine g_n 7 (pc' := 22) (L' := [some (.ref 281), some (.int 1), some (.int b), some (.int c)]) (st' := [.long 0]) rfl ?_
          exact g_ret (ins := .lreturn) (len := 1) (r := (some (.long 0))) rfl rfl rfl ⟨_, rfl, rfl, (x_sv_rf _)⟩
        · have q13 : ¬ a = 1 := h11
          have p14 : 2 ≤ a.toInt := x_lo_ne q13 p10 (by decide)
          by_cases h15 : a = 2
          · have e16 : a = 2 := h15
            subst e16
            refine g_aa (i := 2) (a := 2) (n := 4) (v := 73) rfl rfl (by decide) (x_at (x_f2 hF) (k := 2) rfl) ?_
            refine g_n 3 (pc' := 24) (L' := [some (.ref 0), some (.int 2), some (.int b), some (.int c)]) (st' := [.long 0]) rfl ?_
            refine g_ret (ins := .lreturn) (len := 1) (r := (some (.long 0))) rfl rfl rfl ?_
            refine ⟨⟨_, rfl⟩, ?_⟩
            refine g_in (M := x_M502) (L := [some (.ref 281), some (.int 2), some (.int b), some (.int c)]) x_pl502 rfl ?_
            refine g_n 2 (pc' := 2) (L' := [some (.ref 281), some (.int 2), some (.int b), some (.int c)]) (st' := [.int 2, .ref 281]) rfl ?_
            refine g_call (ins := .invokevirtual 1015) (len := 3) (j := 488) (as := [.ref 281, .int 2]) (rest := []) rfl rfl rfl rfl (fun _ => rfl) rfl ?_
            refine g_in (M := x_M488) (L := [some (.ref 281), some (.int 2)]) x_pl488 rfl ?_
            refine g_n 7 (pc' := 14) (L' := [some (.ref 281), some (.int 2)]) (st' := [.int 1]) rfl ?_
            refine g_ret (ins := .ireturn) (len := 1) (r := (some (.int 1))) rfl rfl rfl ?_
            refine g_n 7 (pc' := 22) (L' := [some (.ref 281), some (.int 2), some (.int b), some (.int c)]) (st' := [.long 0]) rfl ?_
            exact g_ret (ins := .lreturn) (len := 1) (r := (some (.long 0))) rfl rfl rfl ⟨_, rfl, rfl, (x_sv_rf _)⟩
          · have q17 : ¬ a = 2 := h15
            have p18 : 3 ≤ a.toInt := x_lo_ne q17 p14 (by decide)
            have e19 : a = 3 := x_sing p18 p6 (by decide)
            subst e19
            refine g_aa (i := 3) (a := 2) (n := 4) (v := 96) rfl rfl (by decide) (x_at (x_f2 hF) (k := 3) rfl) ?_
            refine g_n 3 (pc' := 24) (L' := [some (.ref 0), some (.int 3), some (.int b), some (.int c)]) (st' := [.long 0]) rfl ?_
            refine g_ret (ins := .lreturn) (len := 1) (r := (some (.long 0))) rfl rfl rfl ?_
            refine ⟨⟨_, rfl⟩, ?_⟩
            refine g_in (M := x_M502) (L := [some (.ref 281), some (.int 3), some (.int b), some (.int c)]) x_pl502 rfl ?_
            refine g_n 2 (pc' := 2) (L' := [some (.ref 281), some (.int 3), some (.int b), some (.int c)]) (st' := [.int 3, .ref 281]) rfl ?_
            refine g_call (ins := .invokevirtual 1015) (len := 3) (j := 488) (as := [.ref 281, .int 3]) (rest := []) rfl rfl rfl rfl (fun _ => rfl) rfl ?_
            refine g_in (M := x_M488) (L := [some (.ref 281), some (.int 3)]) x_pl488 rfl ?_
            refine g_n 7 (pc' := 14) (L' := [some (.ref 281), some (.int 3)]) (st' := [.int 1]) rfl ?_
            refine g_ret (ins := .ireturn) (len := 1) (r := (some (.int 1))) rfl rfl rfl ?_
            refine g_n 7 (pc' := 22) (L' := [some (.ref 281), some (.int 3), some (.int b), some (.int c)]) (st' := [.long 0]) rfl ?_
            exact g_ret (ins := .lreturn) (len := 1) (r := (some (.long 0))) rfl rfl rfl ⟨_, rfl, rfl, (x_sv_rf _)⟩
set_option maxRecDepth 100000 in
set_option maxHeartbeats 4000000 in
theorem x_op17 {fi : Nat → Nat → Int32} {fl : Nat → Nat → Int64} {fr : Nat → Nat → Option Nat} (hF : x_F fl fr) (a b : Int32) : x_ev 30 371 [.ref 0, .int a, .int b] (x_W fi fl fr) fun r S1 => (∃ fs, x_obj S1 281 = some (12, fs)) ∧ x_ev 30 542 [.ref 281, .int a, .int b] S1 (x_finI (x_W fi fl fr) r) := by
  refine g_in (M := x_M371) (L := [some (.ref 0), some (.int a), some (.int b)]) x_pl371 rfl ?_
  refine g_n 1 (pc' := 1) (L' := [some (.ref 0), some (.int a), some (.int b)]) (st' := [.int a]) rfl ?_
  refine g_call (ins := .invokestatic 173) (len := 3) (j := 348) (as := [.int a]) (rest := []) rfl rfl rfl rfl (fun _ => rfl) rfl ?_
  refine g_in (M := x_M348) (L := [some (.int a)]) x_pl348 rfl ?_
  refine g_n 1 (pc' := 1) (L' := [some (.int a)]) (st' := [.int a]) rfl ?_
  refine g_br (c := a < (0 : Int32)) (t := 13) (f := 4) (L' := [some (.int a)]) (st' := []) rfl (fun h1 => ?_) (fun h1 => ?_)
  · have p2 : a.toInt ≤ -1 := x_up_lt h1 (by decide)
    refine g_n 1 (pc' := 14) (L' := [some (.int a)]) (st' := [.int 0]) rfl ?_
    refine g_ret (ins := .ireturn) (len := 1) (r := (some (.int 0))) rfl rfl rfl ?_
    refine g_n 2 (pc' := 15) (L' := [some (.ref 0), some (.int a), some (.int b)]) (st' := [.int (-1)]) rfl ?_
    refine g_ret (ins := .ireturn) (len := 1) (r := (some (.int (-1)))) rfl rfl rfl ?_
    refine ⟨⟨_, rfl⟩, ?_⟩
    refine g_in (M := x_M542) (L := [some (.ref 281), some (.int a), some (.int b)]) x_pl542 rfl ?_
    refine g_n 2 (pc' := 2) (L' := [some (.ref 281), some (.int a), some (.int b)]) (st' := [.int a, .ref 281]) rfl ?_
    refine g_call (ins := .invokevirtual 1015) (len := 3) (j := 488) (as := [.ref 281, .int a]) (rest := []) rfl rfl rfl rfl (fun _ => rfl) rfl ?_
    refine g_in (M := x_M488) (L := [some (.ref 281), some (.int a)]) x_pl488 rfl ?_
    refine g_n 1 (pc' := 1) (L' := [some (.ref 281), some (.int a)]) (st' := [.int a]) rfl ?_
    refine g_brT (c := a < (0 : Int32)) (t := 13) (f := 4) (L' := [some (.ref 281), some (.int a)]) (st' := []) rfl (x_Tlt (u := -1) (l := 0) p2 (by decide) (by decide)) ?_
    refine g_n 1 (pc' := 14) (L' := [some (.ref 281), some (.int a)]) (st' := [.int 0]) rfl ?_
    refine g_ret (ins := .ireturn) (len := 1) (r := (some (.int 0))) rfl rfl rfl ?_
    refine g_n 2 (pc' := 17) (L' := [some (.ref 281), some (.int a), some (.int b)]) (st' := [.int (-1)]) rfl ?_
    exact g_ret (ins := .ireturn) (len := 1) (r := (some (.int (-1)))) rfl rfl rfl ⟨_, rfl, rfl, (x_sv_rf _)⟩
  · have p3 : 0 ≤ a.toInt := x_lo_le (x_nlt h1) (by decide)
    refine g_n 2 (pc' := 6) (L' := [some (.int a)]) (st' := [.int 4, .int a]) rfl ?_
    refine g_br (c := (4 : Int32) ≤ a) (t := 13) (f := 9) (L' := [some (.int a)]) (st' := []) rfl (fun h4 => ?_) (fun h4 => ?_)
    · have p5 : 4 ≤ a.toInt := x_lo_le h4 (by decide)
      refine g_n 1 (pc' := 14) (L' := [some (.int a)]) (st' := [.int 0]) rfl ?_
      refine g_ret (ins := .ireturn) (len := 1) (r := (some (.int 0))) rfl rfl rfl ?_
      refine g_n 2 (pc' := 15) (L' := [some (.ref 0), some (.int a), some (.int b)]) (st' := [.int (-1)]) rfl ?_
      refine g_ret (ins := .ireturn) (len := 1) (r := (some (.int (-1)))) rfl rfl rfl ?_
      refine ⟨⟨_, rfl⟩, ?_⟩
      refine g_in (M := x_M542) (L := [some (.ref 281), some (.int a), some (.int b)]) x_pl542 rfl ?_
      refine g_n 2 (pc' := 2) (L' := [some (.ref 281), some (.int a), some (.int b)]) (st' := [.int a, .ref 281]) rfl ?_
      refine g_call (ins := .invokevirtual 1015) (len := 3) (j := 488) (as := [.ref 281, .int a]) (rest := []) rfl rfl rfl rfl (fun _ => rfl) rfl ?_
      refine g_in (M := x_M488) (L := [some (.ref 281), some (.int a)]) x_pl488 rfl ?_
      refine g_n 1 (pc' := 1) (L' := [some (.ref 281), some (.int a)]) (st' := [.int a]) rfl ?_
      refine g_brF (c := a < (0 : Int32)) (t := 13) (f := 4) (L' := [some (.ref 281), some (.int a)]) (st' := []) rfl (x_Flt (l := 4) (u := 0) p5 (by decide) (by decide)) ?_
      refine g_n 2 (pc' := 6) (L' := [some (.ref 281), some (.int a)]) (st' := [.int 4, .int a]) rfl ?_
      refine g_brT (c := (4 : Int32) ≤ a) (t := 13) (f := 9) (L' := [some (.ref 281), some (.int a)]) (st' := []) rfl (x_Tle (u := 4) (l := 4) (by decide) p5 (by decide)) ?_
      refine g_n 1 (pc' := 14) (L' := [some (.ref 281), some (.int a)]) (st' := [.int 0]) rfl ?_
      refine g_ret (ins := .ireturn) (len := 1) (r := (some (.int 0))) rfl rfl rfl ?_
      refine g_n 2 (pc' := 17) (L' := [some (.ref 281), some (.int a), some (.int b)]) (st' := [.int (-1)]) rfl ?_
      exact g_ret (ins := .ireturn) (len := 1) (r := (some (.int (-1)))) rfl rfl rfl ⟨_, rfl, rfl, (x_sv_rf _)⟩
    · have p6 : a.toInt ≤ 3 := x_up_lt (x_nle h4) (by decide)
      refine g_n 2 (pc' := 14) (L' := [some (.int a)]) (st' := [.int 1]) rfl ?_
      refine g_ret (ins := .ireturn) (len := 1) (r := (some (.int 1))) rfl rfl rfl ?_
      refine g_n 2 (pc' := 8) (L' := [some (.ref 0), some (.int a), some (.int b)]) (st' := [.int b]) rfl ?_
      refine g_call (ins := .invokestatic 280) (len := 3) (j := 349) (as := [.int b]) (rest := []) rfl rfl rfl rfl (fun _ => rfl) rfl ?_
      refine g_in (M := x_M349) (L := [some (.int b)]) x_pl349 rfl ?_
      refine g_n 1 (pc' := 1) (L' := [some (.int b)]) (st' := [.int b]) rfl ?_
      refine g_br (c := b < (0 : Int32)) (t := 14) (f := 4) (L' := [some (.int b)]) (st' := []) rfl (fun h7 => ?_) (fun h7 => ?_)
      · have p8 : b.toInt ≤ -1 := x_up_lt h7 (by decide)
        refine g_n 1 (pc' := 15) (L' := [some (.int b)]) (st' := [.int 0]) rfl ?_
        refine g_ret (ins := .ireturn) (len := 1) (r := (some (.int 0))) rfl rfl rfl ?_
        refine g_n 2 (pc' := 15) (L' := [some (.ref 0), some (.int a), some (.int b)]) (st' := [.int (-1)]) rfl ?_
        refine g_ret (ins := .ireturn) (len := 1) (r := (some (.int (-1)))) rfl rfl rfl ?_
        refine ⟨⟨_, rfl⟩, ?_⟩
        refine g_in (M := x_M542) (L := [some (.ref 281), some (.int a), some (.int b)]) x_pl542 rfl ?_
        refine g_n 2 (pc' := 2) (L' := [some (.ref 281), some (.int a), some (.int b)]) (st' := [.int a, .ref 281]) rfl ?_
        refine g_call (ins := .invokevirtual 1015) (len := 3) (j := 488) (as := [.ref 281, .int a]) (rest := []) rfl rfl rfl rfl (fun _ => rfl) rfl ?_
        refine g_in (M := x_M488) (L := [some (.ref 281), some (.int a)]) x_pl488 rfl ?_
        refine g_n 1 (pc' := 1) (L' := [some (.ref 281), some (.int a)]) (st' := [.int a]) rfl ?_
        refine g_brF (c := a < (0 : Int32)) (t := 13) (f := 4) (L' := [some (.ref 281), some (.int a)]) (st' := []) rfl (x_Flt (l := 0) (u := 0) p3 (by decide) (by decide)) ?_
        refine g_n 2 (pc' := 6) (L' := [some (.ref 281), some (.int a)]) (st' := [.int 4, .int a]) rfl ?_
        refine g_brF (c := (4 : Int32) ≤ a) (t := 13) (f := 9) (L' := [some (.ref 281), some (.int a)]) (st' := []) rfl (x_Fle (l := 4) (u := 3) (by decide) p6 (by decide)) ?_
        refine g_n 2 (pc' := 14) (L' := [some (.ref 281), some (.int a)]) (st' := [.int 1]) rfl ?_
        refine g_ret (ins := .ireturn) (len := 1) (r := (some (.int 1))) rfl rfl rfl ?_
        refine g_n 3 (pc' := 10) (L' := [some (.ref 281), some (.int a), some (.int b)]) (st' := [.int b, .ref 281]) rfl ?_
        refine g_call (ins := .invokevirtual 1213) (len := 3) (j := 541) (as := [.ref 281, .int b]) (rest := []) rfl rfl rfl rfl (fun _ => rfl) rfl ?_
        refine g_in (M := x_M541) (L := [some (.ref 281), some (.int b)]) x_pl541 rfl ?_
        refine g_n 1 (pc' := 1) (L' := [some (.ref 281), some (.int b)]) (st' := [.int b]) rfl ?_
        refine g_brT (c := b < (0 : Int32)) (t := 14) (f := 4) (L' := [some (.ref 281), some (.int b)]) (st' := []) rfl (x_Tlt (u := -1) (l := 0) p8 (by decide) (by decide)) ?_
        refine g_n 1 (pc' := 15) (L' := [some (.ref 281), some (.int b)]) (st' := [.int 0]) rfl ?_
        refine g_ret (ins := .ireturn) (len := 1) (r := (some (.int 0))) rfl rfl rfl ?_
        refine g_n 2 (pc' := 17) (L' := [some (.ref 281), some (.int a), some (.int b)]) (st' := [.int (-1)]) rfl ?_
        exact g_ret (ins := .ireturn) (len := 1) (r := (some (.int (-1)))) rfl rfl rfl ⟨_, rfl, rfl, (x_sv_rf _)⟩
      · have p9 : 0 ≤ b.toInt := x_lo_le (x_nlt h7) (by decide)
        refine g_n 2 (pc' := 7) (L' := [some (.int b)]) (st' := [.int 12, .int b]) rfl ?_
        refine g_br (c := (12 : Int32) ≤ b) (t := 14) (f := 10) (L' := [some (.int b)]) (st' := []) rfl (fun h10 => ?_) (fun h10 => ?_)
        · have p11 : 12 ≤ b.toInt := x_lo_le h10 (by decide)
          refine g_n 1 (pc' := 15) (L' := [some (.int b)]) (st' := [.int 0]) rfl ?_
          refine g_ret (ins := .ireturn) (len := 1) (r := (some (.int 0))) rfl rfl rfl ?_
          refine g_n 2 (pc' := 15) (L' := [some (.ref 0), some (.int a), some (.int b)]) (st' := [.int (-1)]) rfl ?_
          refine g_ret (ins := .ireturn) (len := 1) (r := (some (.int (-1)))) rfl rfl rfl ?_
          refine ⟨⟨_, rfl⟩, ?_⟩
          refine g_in (M := x_M542) (L := [some (.ref 281), some (.int a), some (.int b)]) x_pl542 rfl ?_
          refine g_n 2 (pc' := 2) (L' := [some (.ref 281), some (.int a), some (.int b)]) (st' := [.int a, .ref 281]) rfl ?_
          refine g_call (ins := .invokevirtual 1015) (len := 3) (j := 488) (as := [.ref 281, .int a]) (rest := []) rfl rfl rfl rfl (fun _ => rfl) rfl ?_
          refine g_in (M := x_M488) (L := [some (.ref 281), some (.int a)]) x_pl488 rfl ?_
          refine g_n 1 (pc' := 1) (L' := [some (.ref 281), some (.int a)]) (st' := [.int a]) rfl ?_
          refine g_brF (c := a < (0 : Int32)) (t := 13) (f := 4) (L' := [some (.ref 281), some (.int a)]) (st' := []) rfl (x_Flt (l := 0) (u := 0) p3 (by decide) (by decide)) ?_
          refine g_n 2 (pc' := 6) (L' := [some (.ref 281), some (.int a)]) (st' := [.int 4, .int a]) rfl ?_
          refine g_brF (c := (4 : Int32) ≤ a) (t := 13) (f := 9) (L' := [some (.ref 281), some (.int a)]) (st' := []) rfl (x_Fle (l := 4) (u := 3) (by decide) p6 (by decide)) ?_
          refine g_n 2 (pc' := 14) (L' := [some (.ref 281), some (.int a)]) (st' := [.int 1]) rfl ?_
          refine g_ret (ins := .ireturn) (len := 1) (r := (some (.int 1))) rfl rfl rfl ?_
          refine g_n 3 (pc' := 10) (L' := [some (.ref 281), some (.int a), some (.int b)]) (st' := [.int b, .ref 281]) rfl ?_
          refine g_call (ins := .invokevirtual 1213) (len := 3) (j := 541) (as := [.ref 281, .int b]) (rest := []) rfl rfl rfl rfl (fun _ => rfl) rfl ?_
          refine g_in (M := x_M541) (L := [some (.ref 281), some (.int b)]) x_pl541 rfl ?_
          refine g_n 1 (pc' := 1) (L' := [some (.ref 281), some (.int b)]) (st' := [.int b]) rfl ?_
          refine g_brF (c := b < (0 : Int32)) (t := 14) (f := 4) (L' := [some (.ref 281), some (.int b)]) (st' := []) rfl (x_Flt (l := 12) (u := 0) p11 (by decide) (by decide)) ?_
          refine g_n 2 (pc' := 7) (L' := [some (.ref 281), some (.int b)]) (st' := [.int 12, .int b]) rfl ?_
          refine g_brT (c := (12 : Int32) ≤ b) (t := 14) (f := 10) (L' := [some (.ref 281), some (.int b)]) (st' := []) rfl (x_Tle (u := 12) (l := 12) (by decide) p11 (by decide)) ?_
          refine g_n 1 (pc' := 15) (L' := [some (.ref 281), some (.int b)]) (st' := [.int 0]) rfl ?_
          refine g_ret (ins := .ireturn) (len := 1) (r := (some (.int 0))) rfl rfl rfl ?_
          refine g_n 2 (pc' := 17) (L' := [some (.ref 281), some (.int a), some (.int b)]) (st' := [.int (-1)]) rfl ?_
          exact g_ret (ins := .ireturn) (len := 1) (r := (some (.int (-1)))) rfl rfl rfl ⟨_, rfl, rfl, (x_sv_rf _)⟩
        · have p12 : b.toInt ≤ 11 := x_up_lt (x_nle h10) (by decide)
          refine g_n 2 (pc' := 15) (L' := [some (.int b)]) (st' := [.int 1]) rfl ?_
          refine g_ret (ins := .ireturn) (len := 1) (r := (some (.int 1))) rfl rfl rfl ?_
          refine g_n 4 (pc' := 21) (L' := [some (.ref 0), some (.int a), some (.int b)]) (st' := [.int a, .ref 2]) rfl ?_
          by_cases h13 : a = 0
          · have e14 : a = 0 := h13
            subst e14
            refine g_aa (i := 0) (a := 2) (n := 4) (v := 27) rfl rfl (by decide) (x_at (x_f2 hF) (k := 0) rfl) ?_
            refine g_n 3 (pc' := 30) (L' := [some (.ref 0), some (.int 0), some (.int b)]) (st' := [.int (-2)]) rfl ?_
            refine g_ret (ins := .ireturn) (len := 1) (r := (some (.int (-2)))) rfl rfl rfl ?_
            refine ⟨⟨_, rfl⟩, ?_⟩
            refine g_in (M := x_M542) (L := [some (.ref 281), some (.int 0), some (.int b)]) x_pl542 rfl ?_
            refine g_n 2 (pc' := 2) (L' := [some (.ref 281), some (.int 0), some (.int b)]) (st' := [.int 0, .ref 281]) rfl ?_
            refine g_call (ins := .invokevirtual 1015) (len := 3) (j := 488) (as := [.ref 281, .int 0]) (rest := []) rfl rfl rfl rfl (fun _ => rfl) rfl ?_
            refine g_in (M := x_M488) (L := [some (.ref 281), some (.int 0)]) x_pl488 rfl ?_
            refine g_n 7 (pc' := 14) (L' := [some (.ref 281), some (.int 0)]) (st' := [.int 1]) rfl ?_
            refine g_ret (ins := .ireturn) (len := 1) (r := (some (.int 1))) rfl rfl rfl ?_
            refine g_n 3 (pc' := 10) (L' := [some (.ref 281), some (.int 0), some (.int b)]) (st' := [.int b, .ref 281]) rfl ?_
            refine g_call (ins := .invokevirtual 1213) (len := 3) (j := 541) (as := [.ref 281, .int b]) (rest := []) rfl rfl rfl rfl (fun _ => rfl) rfl ?_
            refine g_in (M := x_M541) (L := [some (.ref 281), some (.int b)]) x_pl541 rfl ?_
            refine g_n 1 (pc' := 1) (L' := [some (.ref 281), some (.int b)]) (st' := [.int b]) rfl ?_
            refine g_brF (c := b < (0 : Int32)) (t := 14) (f := 4) (L' := [some (.ref 281), some (.int b)]) (st' := []) rfl (x_Flt (l := 0) (u := 0) p9 (by decide) (by decide)) ?_
            refine g_n 2 (pc' := 7) (L' := [some (.ref 281), some (.int b)]) (st' := [.int 12, .int b]) rfl ?_
            refine g_brF (c := (12 : Int32) ≤ b) (t := 14) (f := 10) (L' := [some (.ref 281), some (.int b)]) (st' := []) rfl (x_Fle (l := 12) (u := 11) (by decide) p12 (by decide)) ?_
            refine g_n 2 (pc' := 15) (L' := [some (.ref 281), some (.int b)]) (st' := [.int 1]) rfl ?_
            refine g_ret (ins := .ireturn) (len := 1) (r := (some (.int 1))) rfl rfl rfl ?_
            refine g_n 7 (pc' := 29) (L' := [some (.ref 281), some (.int 0), some (.int b)]) (st' := [.int (-2)]) rfl ?_
            exact g_ret (ins := .ireturn) (len := 1) (r := (some (.int (-2)))) rfl rfl rfl ⟨_, rfl, rfl, (x_sv_rf _)⟩
          · have q15 : ¬ a = 0 := h13
            have p16 : 1 ≤ a.toInt := x_lo_ne q15 p3 (by decide)
            by_cases h17 : a = 1
            · have e18 : a = 1 := h17
              subst e18
              refine g_aa (i := 1) (a := 2) (n := 4) (v := 50) rfl rfl (by decide) (x_at (x_f2 hF) (k := 1) rfl) ?_
              refine g_n 3 (pc' := 30) (L' := [some (.ref 0), some (.int 1), some (.int b)]) (st' := [.int (-2)]) rfl ?_
              refine g_ret (ins := .ireturn) (len := 1) (r := (some (.int (-2)))) rfl rfl rfl ?_
              refine ⟨⟨_, rfl⟩, ?_⟩
              refine g_in (M := x_M542) (L := [some (.ref 281), some (.int 1), some (.int b)]) x_pl542 rfl ?_
              refine g_n 2 (pc' := 2) (L' := [some (.ref 281), some (.int 1), some (.int b)]) (st' := [.int 1, .ref 281]) rfl ?_
              refine g_call (ins := .invokevirtual 1015) (len := 3) (j := 488) (as := [.ref 281, .int 1]) (rest := []) rfl rfl rfl rfl (fun _ => rfl) rfl ?_
              refine g_in (M := x_M488) (L := [some (.ref 281), some (.int 1)]) x_pl488 rfl ?_
              refine g_n 7 (pc' := 14) (L' := [some (.ref 281), some (.int 1)]) (st' := [.int 1]) rfl ?_
              refine g_ret (ins := .ireturn) (len := 1) (r := (some (.int 1))) rfl rfl rfl ?_
              refine g_n 3 (pc' := 10) (L' := [some (.ref 281), some (.int 1), some (.int b)]) (st' := [.int b, .ref 281]) rfl ?_
              refine g_call (ins := .invokevirtual 1213) (len := 3) (j := 541) (as := [.ref 281, .int b]) (rest := []) rfl rfl rfl rfl (fun _ => rfl) rfl ?_
              refine g_in (M := x_M541) (L := [some (.ref 281), some (.int b)]) x_pl541 rfl ?_
              refine g_n 1 (pc' := 1) (L' := [some (.ref 281), some (.int b)]) (st' := [.int b]) rfl ?_
              refine g_brF (c := b < (0 : Int32)) (t := 14) (f := 4) (L' := [some (.ref 281), some (.int b)]) (st' := []) rfl (x_Flt (l := 0) (u := 0) p9 (by decide) (by decide)) ?_
              refine g_n 2 (pc' := 7) (L' := [some (.ref 281), some (.int b)]) (st' := [.int 12, .int b]) rfl ?_
              refine g_brF (c := (12 : Int32) ≤ b) (t := 14) (f := 10) (L' := [some (.ref 281), some (.int b)]) (st' := []) rfl (x_Fle (l := 12) (u := 11) (by decide) p12 (by decide)) ?_
              refine g_n 2 (pc' := 15) (L' := [some (.ref 281), some (.int b)]) (st' := [.int 1]) rfl ?_
              refine g_ret (ins := .ireturn) (len := 1) (r := (some (.int 1))) rfl rfl rfl ?_
              refine g_n 7 (pc' := 29) (L' := [some (.ref 281), some (.int 1), some (.int b)]) (st' := [.int (-2)]) rfl ?_
              exact g_ret (ins := .ireturn) (len := 1) (r := (some (.int (-2)))) rfl rfl rfl ⟨_, rfl, rfl, (x_sv_rf _)⟩
            · have q19 : ¬ a = 1 := h17
              have p20 : 2 ≤ a.toInt := x_lo_ne q19 p16 (by decide)
              by_cases h21 : a = 2
              · have e22 : a = 2 := h21
                subst e22
                refine g_aa (i := 2) (a := 2) (n := 4) (v := 73) rfl rfl (by decide) (x_at (x_f2 hF) (k := 2) rfl) ?_
                refine g_n 3 (pc' := 30) (L' := [some (.ref 0), some (.int 2), some (.int b)]) (st' := [.int (-2)]) rfl ?_
                refine g_ret (ins := .ireturn) (len := 1) (r := (some (.int (-2)))) rfl rfl rfl ?_
                refine ⟨⟨_, rfl⟩, ?_⟩
                refine g_in (M := x_M542) (L := [some (.ref 281), some (.int 2), some (.int b)]) x_pl542 rfl ?_
                refine g_n 2 (pc' := 2) (L' := [some (.ref 281), some (.int 2), some (.int b)]) (st' := [.int 2, .ref 281]) rfl ?_
                refine g_call (ins := .invokevirtual 1015) (len := 3) (j := 488) (as := [.ref 281, .int 2]) (rest := []) rfl rfl rfl rfl (fun _ => rfl) rfl ?_
                refine g_in (M := x_M488) (L := [some (.ref 281), some (.int 2)]) x_pl488 rfl ?_
                refine g_n 7 (pc' := 14) (L' := [some (.ref 281), some (.int 2)]) (st' := [.int 1]) rfl ?_
                refine g_ret (ins := .ireturn) (len := 1) (r := (some (.int 1))) rfl rfl rfl ?_
                refine g_n 3 (pc' := 10) (L' := [some (.ref 281), some (.int 2), some (.int b)]) (st' := [.int b, .ref 281]) rfl ?_
                refine g_call (ins := .invokevirtual 1213) (len := 3) (j := 541) (as := [.ref 281, .int b]) (rest := []) rfl rfl rfl rfl (fun _ => rfl) rfl ?_
                refine g_in (M := x_M541) (L := [some (.ref 281), some (.int b)]) x_pl541 rfl ?_
                refine g_n 1 (pc' := 1) (L' := [some (.ref 281), some (.int b)]) (st' := [.int b]) rfl ?_
                refine g_brF (c := b < (0 : Int32)) (t := 14) (f := 4) (L' := [some (.ref 281), some (.int b)]) (st' := []) rfl (x_Flt (l := 0) (u := 0) p9 (by decide) (by decide)) ?_
                refine g_n 2 (pc' := 7) (L' := [some (.ref 281), some (.int b)]) (st' := [.int 12, .int b]) rfl ?_
                refine g_brF (c := (12 : Int32) ≤ b) (t := 14) (f := 10) (L' := [some (.ref 281), some (.int b)]) (st' := []) rfl (x_Fle (l := 12) (u := 11) (by decide) p12 (by decide)) ?_
                refine g_n 2 (pc' := 15) (L' := [some (.ref 281), some (.int b)]) (st' := [.int 1]) rfl ?_
                refine g_ret (ins := .ireturn) (len := 1) (r := (some (.int 1))) rfl rfl rfl ?_
                refine g_n 7 (pc' := 29) (L' := [some (.ref 281), some (.int 2), some (.int b)]) (st' := [.int (-2)]) rfl ?_
                exact g_ret (ins := .ireturn) (len := 1) (r := (some (.int (-2)))) rfl rfl rfl ⟨_, rfl, rfl, (x_sv_rf _)⟩
              · have q23 : ¬ a = 2 := h21
                have p24 : 3 ≤ a.toInt := x_lo_ne q23 p20 (by decide)
                have e25 : a = 3 := x_sing p24 p6 (by decide)
                subst e25
                refine g_aa (i := 3) (a := 2) (n := 4) (v := 96) rfl rfl (by decide) (x_at (x_f2 hF) (k := 3) rfl) ?_
                refine g_n 3 (pc' := 30) (L' := [some (.ref 0), some (.int 3), some (.int b)]) (st' := [.int (-2)]) rfl ?_
                refine g_ret (ins := .ireturn) (len := 1) (r := (some (.int (-2)))) rfl rfl rfl ?_
                refine ⟨⟨_, rfl⟩, ?_⟩
                refine g_in (M := x_M542) (L := [some (.ref 281), some (.int 3), some (.int b)]) x_pl542 rfl ?_
                refine g_n 2 (pc' := 2) (L' := [some (.ref 281), some (.int 3), some (.int b)]) (st' := [.int 3, .ref 281]) rfl ?_
                refine g_call (ins := .invokevirtual 1015) (len := 3) (j := 488) (as := [.ref 281, .int 3]) (rest := []) rfl rfl rfl rfl (fun _ => rfl) rfl ?_
                refine g_in (M := x_M488) (L := [some (.ref 281), some (.int 3)]) x_pl488 rfl ?_
                refine g_n 7 (pc' := 14) (L' := [some (.ref 281), some (.int 3)]) (st' := [.int 1]) rfl ?_
                refine g_ret (ins := .ireturn) (len := 1) (r := (some (.int 1))) rfl rfl rfl ?_
                refine g_n 3 (pc' := 10) (L' := [some (.ref 281), some (.int 3), some (.int b)]) (st' := [.int b, .ref 281]) rfl ?_
                refine g_call (ins := .invokevirtual 1213) (len := 3) (j := 541) (as := [.ref 281, .int b]) (rest := []) rfl rfl rfl rfl (fun _ => rfl) rfl ?_
                refine g_in (M := x_M541) (L := [some (.ref 281), some (.int b)]) x_pl541 rfl ?_
                refine g_n 1 (pc' := 1) (L' := [some (.ref 281), some (.int b)]) (st' := [.int b]) rfl ?_
                refine g_brF (c := b < (0 : Int32)) (t := 14) (f := 4) (L' := [some (.ref 281), some (.int b)]) (st' := []) rfl (x_Flt (l := 0) (u := 0) p9 (by decide) (by decide)) ?_
                refine g_n 2 (pc' := 7) (L' := [some (.ref 281), some (.int b)]) (st' := [.int 12, .int b]) rfl ?_
                refine g_brF (c := (12 : Int32) ≤ b) (t := 14) (f := 10) (L' := [some (.ref 281), some (.int b)]) (st' := []) rfl (x_Fle (l := 12) (u := 11) (by decide) p12 (by decide)) ?_
                refine g_n 2 (pc' := 15) (L' := [some (.ref 281), some (.int b)]) (st' := [.int 1]) rfl ?_
                refine g_ret (ins := .ireturn) (len := 1) (r := (some (.int 1))) rfl rfl rfl ?_
                refine g_n 7 (pc' := 29) (L' := [some (.ref 281), some (.int 3), some (.int b)]) (st' := [.int (-2)]) rfl ?_
                exact g_ret (ins := .ireturn) (len := 1) (r := (some (.int (-2)))) rfl rfl rfl ⟨_, rfl, rfl, (x_sv_rf _)⟩
