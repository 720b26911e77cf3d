/-! First calls on the fresh objects. -/
set_option maxRecDepth 100000 in
set_option maxHeartbeats 4000000 in
theorem x_op33 {fi : Nat → Nat → Int32} {fl : Nat → Nat → Int64} {fr : Nat → Nat → Option Nat} (hF : x_F fl fr) : x_ev 30 392 [.ref 0] (x_W fi fl fr) fun r S1 => (∃ fs, x_obj S1 281 = some (12, fs)) ∧ x_ev 30 686 [.ref 281] S1 (x_finI (x_W fi fl fr) r) := by
  refine g_in (M := x_M392) (L := [some (.ref 0)]) x_pl392 rfl ?_
  refine g_n 2 (pc' := 4) (L' := [some (.ref 0)]) (st' := [.ref 240]) rfl ?_
  refine g_call (ins := .invokevirtual 399) (len := 3) (j := 20) (as := [.ref 240]) (rest := []) rfl rfl rfl rfl (fun _ => rfl) rfl ?_
  refine g_in (M := x_M20) (L := [some (.ref 240)]) x_pl20 rfl ?_
  refine g_n 2 (pc' := 4) (L' := [some (.ref 240)]) (st' := [.int 0]) rfl ?_
  refine g_ret (ins := .ireturn) (len := 1) (r := (some (.int 0))) rfl rfl rfl ?_
  refine g_ret (ins := .ireturn) (len := 1) (r := (some (.int 0))) rfl rfl rfl ?_
  refine ⟨⟨_, rfl⟩, ?_⟩
  refine g_in (M := x_M686) (L := [some (.ref 281)]) x_pl686 rfl ?_
  refine g_n 2 (pc' := 4) (L' := [some (.ref 281)]) (st' := [.int 0]) rfl ?_
  exact g_ret (ins := .ireturn) (len := 1) (r := (some (.int 0))) rfl rfl rfl ⟨_, rfl, rfl, (x_sv_rf _)⟩
set_option maxRecDepth 100000 in
set_option maxHeartbeats 4000000 in
theorem x_op34 {fi : Nat → Nat → Int32} {fl : Nat → Nat → Int64} {fr : Nat → Nat → Option Nat} (hF : x_F fl fr) (a b c : Int32) : x_ev 30 393 [.ref 0, .int a, .int b, .int c] (x_W fi fl fr) fun r S1 => (∃ fs, x_obj S1 281 = some (12, fs)) ∧ x_ev 30 715 [.ref 281, .int a, .int b, .int c] S1 (x_finI (x_W fi fl fr) r) := by
  refine g_in (M := x_M393) (L := [some (.ref 0), some (.int a), some (.int b), some (.int c)]) x_pl393 rfl ?_
  refine g_n 1 (pc' := 1) (L' := [some (.ref 0), some (.int a), some (.int b), some (.int c)]) (st' := [.int a]) rfl ?_
  refine g_call (ins := .invokestatic 173) (len := 3) (j := 348) (as := [.int a]) (rest := []) rfl rfl rfl rfl (fun _ => rfl) rfl ?_
  refine g_in (M := x_M348) (L := [some (.int a)]) x_pl348 rfl ?_
  refine g_n 1 (pc' := 1) (L' := [some (.int a)]) (st' := [.int a]) rfl ?_
  refine g_br (c := a < (0 : Int32)) (t := 13) (f := 4) (L' := [some (.int a)]) (st' := []) rfl (fun h1 => ?_) (fun h1 => ?_)
  · have p2 : a.toInt ≤ -1 := x_up_lt h1 (by decide)
    refine g_n 1 (pc' := 14) (L' := [some (.int a)]) (st' := [.int 0]) rfl ?_
    refine g_ret (ins := .ireturn) (len := 1) (r := (some (.int 0))) rfl rfl rfl ?_
    refine g_n 2 (pc' := 19) (L' := [some (.ref 0), some (.int a), some (.int b), some (.int c)]) (st' := [.int (-1)]) rfl ?_
    refine g_ret (ins := .ireturn) (len := 1) (r := (some (.int (-1)))) rfl rfl rfl ?_
    refine ⟨⟨_, rfl⟩, ?_⟩
    refine g_in (M := x_M715) (L := [some (.ref 281), some (.int a), some (.int b), some (.int c), none]) x_pl715 rfl ?_
    refine g_n 2 (pc' := 2) (L' := [some (.ref 281), some (.int a), some (.int b), some (.int c), none]) (st' := [.int a, .ref 281]) rfl ?_
    refine g_call (ins := .invokevirtual 1015) (len := 3) (j := 488) (as := [.ref 281, .int a]) (rest := []) rfl rfl rfl rfl (fun _ => rfl) rfl ?_
    refine g_in (M := x_M488) (L := [some (.ref 281), some (.int a)]) x_pl488 rfl ?_
    refine g_n 1 (pc' := 1) (L' := [some (.ref 281), some (.int a)]) (st' := [.int a]) rfl ?_
    refine g_brT (c := a < (0 : Int32)) (t := 13) (f := 4) (L' := [some (.ref 281), some (.int a)]) (st' := []) rfl (x_Tlt (u := -1) (l := 0) p2 (by decide) (by decide)) ?_
    refine g_n 1 (pc' := 14) (L' := [some (.ref 281), some (.int a)]) (st' := [.int 0]) rfl ?_
    refine g_ret (ins := .ireturn) (len := 1) (r := (some (.int 0))) rfl rfl rfl ?_
    refine g_n 2 (pc' := 22) (L' := [some (.ref 281), some (.int a), some (.int b), some (.int c), none]) (st' := [.int (-1)]) rfl ?_
    exact g_ret (ins := .ireturn) (len := 1) (r := (some (.int (-1)))) rfl rfl rfl ⟨_, rfl, rfl, (x_sv_rf _)⟩
  · have p3 : 0 ≤ a.toInt := x_lo_le (x_nlt h1) (by decide)
    refine g_n 2 (pc' := 6) (L' := [some (.int a)]) (st' := [.int 4, .int a]) rfl ?_
    refine g_br (c := (4 : Int32) ≤ a) (t := 13) (f := 9) (L' := [some (.int a)]) (st' := []) rfl (fun h4 => ?_) (fun h4 => ?_)
    · have p5 : 4 ≤ a.toInt := x_lo_le h4 (by decide)
      refine g_n 1 (pc' := 14) (L' := [some (.int a)]) (st' := [.int 0]) rfl ?_
      refine g_ret (ins := .ireturn) (len := 1) (r := (some (.int 0))) rfl rfl rfl ?_
      refine g_n 2 (pc' := 19) (L' := [some (.ref 0), some (.int a), some (.int b), some (.int c)]) (st' := [.int (-1)]) rfl ?_
      refine g_ret (ins := .ireturn) (len := 1) (r := (some (.int (-1)))) rfl rfl rfl ?_
      refine ⟨⟨_, rfl⟩, ?_⟩
      refine g_in (M := x_M715) (L := [some (.ref 281), some (.int a), some (.int b), some (.int c), none]) x_pl715 rfl ?_
      refine g_n 2 (pc' := 2) (L' := [some (.ref 281), some (.int a), some (.int b), some (.int c), none]) (st' := [.int a, .ref 281]) rfl ?_
      refine g_call (ins := .invokevirtual 1015) (len := 3) (j := 488) (as := [.ref 281, .int a]) (rest := []) rfl rfl rfl rfl (fun _ => rfl) rfl ?_
      refine g_in (M := x_M488) (L := [some (.ref 281), some (.int a)]) x_pl488 rfl ?_
      refine g_n 1 (pc' := 1) (L' := [some (.ref 281), some (.int a)]) (st' := [.int a]) rfl ?_
      refine g_brF (c := a < (0 : Int32)) (t := 13) (f := 4) (L' := [some (.ref 281), some (.int a)]) (st' := []) rfl (x_Flt (l := 4) (u := 0) p5 (by decide) (by decide)) ?_
      refine g_n 2 (pc' := 6) (L' := [some (.ref 281), some (.int a)]) (st' := [.int 4, .int a]) rfl ?_
      refine g_brT (c := (4 : Int32) ≤ a) (t := 13) (f := 9) (L' := [some (.ref 281), some (.int a)]) (st' := []) rfl (x_Tle (u := 4) (l := 4) (by decide) p5 (by decide)) ?_
      refine g_n 1 (pc' := 14) (L' := [some (.ref 281), some (.int a)]) (st' := [.int 0]) rfl ?_
      refine g_ret (ins := .ireturn) (len := 1) (r := (some (.int 0))) rfl rfl rfl ?_
      refine g_n 2 (pc' := 22) (L' := [some (.ref 281), some (.int a), some (.int b), some (.int c), none]) (st' := [.int (-1)]) rfl ?_
      exact g_ret (ins := .ireturn) (len := 1) (r := (some (.int (-1)))) rfl rfl rfl ⟨_, rfl, rfl, (x_sv_rf _)⟩
    · have p6 : a.toInt ≤ 3 := x_up_lt (x_nle h4) (by decide)
      refine g_n 2 (pc' := 14) (L' := [some (.int a)]) (st' := [.int 1]) rfl ?_
      refine g_ret (ins := .ireturn) (len := 1) (r := (some (.int 1))) rfl rfl rfl ?_
      refine g_n 2 (pc' := 8) (L' := [some (.ref 0), some (.int a), some (.int b), some (.int c)]) (st' := [.int b]) rfl ?_
      refine g_br (c := b < (0 : Int32)) (t := 18) (f := 11) (L' := [some (.ref 0), some (.int a), some (.int b), some (.int c)]) (st' := []) rfl (fun h7 => ?_) (fun h7 => ?_)
      · have p8 : b.toInt ≤ -1 := x_up_lt h7 (by decide)
        refine g_n 1 (pc' := 19) (L' := [some (.ref 0), some (.int a), some (.int b), some (.int c)]) (st' := [.int (-1)]) rfl ?_
        refine g_ret (ins := .ireturn) (len := 1) (r := (some (.int (-1)))) rfl rfl rfl ?_
        refine ⟨⟨_, rfl⟩, ?_⟩
        refine g_in (M := x_M715) (L := [some (.ref 281), some (.int a), some (.int b), some (.int c), none]) x_pl715 rfl ?_
        refine g_n 2 (pc' := 2) (L' := [some (.ref 281), some (.int a), some (.int b), some (.int c), none]) (st' := [.int a, .ref 281]) rfl ?_
        refine g_call (ins := .invokevirtual 1015) (len := 3) (j := 488) (as := [.ref 281, .int a]) (rest := []) rfl rfl rfl rfl (fun _ => rfl) rfl ?_
        refine g_in (M := x_M488) (L := [some (.ref 281), some (.int a)]) x_pl488 rfl ?_
        refine g_n 1 (pc' := 1) (L' := [some (.ref 281), some (.int a)]) (st' := [.int a]) rfl ?_
        refine g_brF (c := a < (0 : Int32)) (t := 13) (f := 4) (L' := [some (.ref 281), some (.int a)]) (st' := []) rfl (x_Flt (l := 0) (u := 0) p3 (by decide) (by decide)) ?_
        refine g_n 2 (pc' := 6) (L' := [some (.ref 281), some (.int a)]) (st' := [.int 4, .int a]) rfl ?_
        refine g_brF (c := (4 : Int32) ≤ a) (t := 13) (f := 9) (L' := [some (.ref 281), some (.int a)]) (st' := []) rfl (x_Fle (l := 4) (u := 3) (by decide) p6 (by decide)) ?_
        refine g_n 2 (pc' := 14) (L' := [some (.ref 281), some (.int a)]) (st' := [.int 1]) rfl ?_
        refine g_ret (ins := .ireturn) (len := 1) (r := (some (.int 1))) rfl rfl rfl ?_
        refine g_n 2 (pc' := 9) (L' := [some (.ref 281), some (.int a), some (.int b), some (.int c), none]) (st' := [.int c]) rfl ?_
        refine g_br (c := c < (0 : Int32)) (t := 21) (f := 12) (L' := [some (.ref 281), some (.int a), some (.int b), some (.int c), none]) (st' := []) rfl (fun h9 => ?_) (fun h9 => ?_)
        · have p10 : c.toInt ≤ -1 := x_up_lt h9 (by decide)
          refine g_n 1 (pc' := 22) (L' := [some (.ref 281), some (.int a), some (.int b), some (.int c), none]) (st' := [.int (-1)]) rfl ?_
          exact g_ret (ins := .ireturn) (len := 1) (r := (some (.int (-1)))) rfl rfl rfl ⟨_, rfl, rfl, (x_sv_rf _)⟩
        · have p11 : 0 ≤ c.toInt := x_lo_le (x_nlt h9) (by decide)
          refine g_n 2 (pc' := 14) (L' := [some (.ref 281), some (.int a), some (.int b), some (.int c), none]) (st' := [.int 2, .int c]) rfl ?_
          refine g_br (c := (2 : Int32) < c) (t := 21) (f := 17) (L' := [some (.ref 281), some (.int a), some (.int b), some (.int c), none]) (st' := []) rfl (fun h12 => ?_) (fun h12 => ?_)
          · have p13 : 3 ≤ c.toInt := x_lo_lt h12 (by decide)
            refine g_n 1 (pc' := 22) (L' := [some (.ref 281), some (.int a), some (.int b), some (.int c), none]) (st' := [.int (-1)]) rfl ?_
            exact g_ret (ins := .ireturn) (len := 1) (r := (some (.int (-1)))) rfl rfl rfl ⟨_, rfl, rfl, (x_sv_rf _)⟩
          · have p14 : c.toInt ≤ 2 := x_up_le (x_nlt h12) (by decide)
            refine g_n 1 (pc' := 18) (L' := [some (.ref 281), some (.int a), some (.int b), some (.int c), none]) (st' := [.int b]) rfl ?_
            refine g_brF (c := (0 : Int32) ≤ b) (t := 23) (f := 21) (L' := [some (.ref 281), some (.int a), some (.int b), some (.int c), none]) (st' := []) rfl (x_Fle (l := 0) (u := -1) (by decide) p8 (by decide)) ?_
            refine g_n 1 (pc' := 22) (L' := [some (.ref 281), some (.int a), some (.int b), some (.int c), none]) (st' := [.int (-1)]) rfl ?_
            exact g_ret (ins := .ireturn) (len := 1) (r := (some (.int (-1)))) rfl rfl rfl ⟨_, rfl, rfl, (x_sv_rf _)⟩
      · have p15 : 0 ≤ b.toInt := x_lo_le (x_nlt h7) (by decide)
        refine g_n 1 (pc' := 12) (L' := [some (.ref 0), some (.int a), some (.int b), some (.int c)]) (st' := [.int c]) rfl ?_
        refine g_call (ins := .invokestatic 354) (len := 3) (j := 351) (as := [.int c]) (rest := []) rfl rfl rfl rfl (fun _ => rfl) rfl ?_
        refine g_in (M := x_M351) (L := [some (.int c)]) x_pl351 rfl ?_
        refine g_n 1 (pc' := 1) (L' := [some (.int c)]) (st' := [.int c]) rfl ?_
        refine g_br (c := c < (0 : Int32)) (t := 13) (f := 4) (L' := [some (.int c)]) (st' := []) rfl (fun h16 => ?_) (fun h16 => ?_)
        · have p17 : c.toInt ≤ -1 := x_up_lt h16 (by decide)
          refine g_n 1 (pc' := 14) (L' := [some (.int c)]) (st' := [.int 0]) rfl ?_
          refine g_ret (ins := .ireturn) (len := 1) (r := (some (.int 0))) rfl rfl rfl ?_
          refine g_n 2 (pc' := 19) (L' := [some (.ref 0), some (.int a), some (.int b), some (.int c)]) (st' := [.int (-1)]) rfl ?_
          refine g_ret (ins := .ireturn) (len := 1) (r := (some (.int (-1)))) rfl rfl rfl ?_
          refine ⟨⟨_, rfl⟩, ?_⟩
          refine g_in (M := x_M715) (L := [some (.ref 281), some (.int a), some (.int b), some (.int c), none]) x_pl715 rfl ?_
          refine g_n 2 (pc' := 2) (L' := [some (.ref 281), some (.int a), some (.int b), some (.int c), none]) (st' := [.int a, .ref 281]) rfl ?_
          refine g_call (ins := .invokevirtual 1015) (len := 3) (j := 488) (as := [.ref 281, .int a]) (rest := []) rfl rfl rfl rfl (fun _ => rfl) rfl ?_
          refine g_in (M := x_M488) (L := [some (.ref 281), some (.int a)]) x_pl488 rfl ?_
          refine g_n 1 (pc' := 1) (L' := [some (.ref 281), some (.int a)]) (st' := [.int a]) rfl ?_
          refine g_brF (c := a < (0 : Int32)) (t := 13) (f := 4) (L' := [some (.ref 281), some (.int a)]) (st' := []) rfl (x_Flt (l := 0) (u := 0) p3 (by decide) (by decide)) ?_
          refine g_n 2 (pc' := 6) (L' := [some (.ref 281), some (.int a)]) (st' := [.int 4, .int a]) rfl ?_
          refine g_brF (c := (4 : Int32) ≤ a) (t := 13) (f := 9) (L' := [some (.ref 281), some (.int a)]) (st' := []) rfl (x_Fle (l := 4) (u := 3) (by decide) p6 (by decide)) ?_
          refine g_n 2 (pc' := 14) (L' := [some (.ref 281), some (.int a)]) (st' := [.int 1]) rfl ?_
          refine g_ret (ins := .ireturn) (len := 1) (r := (some (.int 1))) rfl rfl rfl ?_
          refine g_n 2 (pc' := 9) (L' := [some (.ref 281), some (.int a), some (.int b), some (.int c), none]) (st' := [.int c]) rfl ?_
          refine g_brT (c := c < (0 : Int32)) (t := 21) (f := 12) (L' := [some (.ref 281), some (.int a), some (.int b), some (.int c), none]) (st' := []) rfl (x_Tlt (u := -1) (l := 0) p17 (by decide) (by decide)) ?_
          refine g_n 1 (pc' := 22) (L' := [some (.ref 281), some (.int a), some (.int b), some (.int c), none]) (st' := [.int (-1)]) rfl ?_
          exact g_ret (ins := .ireturn) (len := 1) (r := (some (.int (-1)))) rfl rfl rfl ⟨_, rfl, rfl, (x_sv_rf _)⟩
        · have p18 : 0 ≤ c.toInt := x_lo_le (x_nlt h16) (by decide)
          refine g_n 2 (pc' := 6) (L' := [some (.int c)]) (st' := [.int 2, .int c]) rfl ?_
          refine g_br (c := (2 : Int32) < c) (t := 13) (f := 9) (L' := [some (.int c)]) (st' := []) rfl (fun h19 => ?_) (fun h19 => ?_)
          · have p20 : 3 ≤ c.toInt := x_lo_lt h19 (by decide)
            refine g_n 1 (pc' := 14) (L' := [some (.int c)]) (st' := [.int 0]) rfl ?_
            refine g_ret (ins := .ireturn) (len := 1) (r := (some (.int 0))) rfl rfl rfl ?_
            refine g_n 2 (pc' := 19) (L' := [some (.ref 0), some (.int a), some (.int b), some (.int c)]) (st' := [.int (-1)]) rfl ?_
            refine g_ret (ins := .ireturn) (len := 1) (r := (some (.int (-1)))) rfl rfl rfl ?_
            refine ⟨⟨_, rfl⟩, ?_⟩
            refine g_in (M := x_M715) (L := [some (.ref 281), some (.int a), some (.int b), some (.int c), none]) x_pl715 rfl ?_
            refine g_n 2 (pc' := 2) (L' := [some (.ref 281), some (.int a), some (.int b), some (.int c), none]) (st' := [.int a, .ref 281]) rfl ?_
            refine g_call (ins := .invokevirtual 1015) (len := 3) (j := 488) (as := [.ref 281, .int a]) (rest := []) rfl rfl rfl rfl (fun _ => rfl) rfl ?_
            refine g_in (M := x_M488) (L := [some (.ref 281), some (.int a)]) x_pl488 rfl ?_
            refine g_n 1 (pc' := 1) (L' := [some (.ref 281), some (.int a)]) (st' := [.int a]) rfl ?_
            refine g_brF (c := a < (0 : Int32)) (t := 13) (f := 4) (L' := [some (.ref 281), some (.int a)]) (st' := []) rfl (x_Flt (l := 0) (u := 0) p3 (by decide) (by decide)) ?_
            refine g_n 2 (pc' := 6) (L' := [some (.ref 281), some (.int a)]) (st' := [.int 4, .int a]) rfl ?_
            refine g_brF (c := (4 : Int32) ≤ a) (t := 13) (f := 9) (L' := [some (.ref 281), some (.int a)]) (st' := []) rfl (x_Fle (l := 4) (u := 3) (by decide) p6 (by decide)) ?_
            refine g_n 2 (pc' := 14) (L' := [some (.ref 281), some (.int a)]) (st' := [.int 1]) rfl ?_
            refine g_ret (ins := .ireturn) (len := 1) (r := (some (.int 1))) rfl rfl rfl ?_
            refine g_n 2 (pc' := 9) (L' := [some (.ref 281), some (.int a), some (.int b), some (.int c), none]) (st' := [.int c]) rfl ?_
            refine g_brF (c := c < (0 : Int32)) (t := 21) (f := 12) (L' := [some (.ref 281), some (.int a), some (.int b), some (.int c), none]) (st' := []) rfl (x_Flt (l := 3) (u := 0) p20 (by decide) (by decide)) ?_
            refine g_n 2 (pc' := 14) (L' := [some (.ref 281), some (.int a), some (.int b), some (.int c), none]) (st' := [.int 2, .int c]) rfl ?_
            refine g_brT (c := (2 : Int32) < c) (t := 21) (f := 17) (L' := [some (.ref 281), some (.int a), some (.int b), some (.int c), none]) (st' := []) rfl (x_Tlt (u := 2) (l := 3) (by decide) p20 (by decide)) ?_
            refine g_n 1 (pc' := 22) (L' := [some (.ref 281), some (.int a), some (.int b), some (.int c), none]) (st' := [.int (-1)]) rfl ?_
            exact g_ret (ins := .ireturn) (len := 1) (r := (some (.int (-1)))) rfl rfl rfl ⟨_, rfl, rfl, (x_sv_rf _)⟩
          · have p21 : c.toInt ≤ 2 := x_up_le (x_nlt h19) (by decide)
            refine g_n 2 (pc' := 14) (L' := [some (.int c)]) (st' := [.int 1]) rfl ?_
            refine g_ret (ins := .ireturn) (len := 1) (r := (some (.int 1))) rfl rfl rfl ?_
            refine g_n 4 (pc' := 25) (L' := [some (.ref 0), some (.int a), some (.int b), some (.int c)]) (st' := [.int a, .ref 2]) rfl ?_
            by_cases h22 : a = 0
            · have e23 : a = 0 := h22
              subst e23
              refine g_aa (i := 0) (a := 2) (n := 4) (v := 27) rfl rfl (by decide) (x_at (x_f2 hF) (k := 0) rfl) ?_
              refine g_n 3 (pc' := 34) (L' := [some (.ref 0), some (.int 0), some (.int b), some (.int c)]) (st' := [.int (-2)]) rfl ?_
              refine g_ret (ins := .ireturn) (len := 1) (r := (some (.int (-2)))) rfl rfl rfl ?_
              refine ⟨⟨_, rfl⟩, ?_⟩
              refine g_in (M := x_M715) (L := [some (.ref 281), some (.int 0), some (.int b), some (.int c), none]) x_pl715 rfl ?_
              refine g_n 2 (pc' := 2) (L' := [some (.ref 281), some (.int 0), some (.int b), some (.int c), none]) (st' := [.int 0, .ref 281]) rfl ?_
              refine g_call (ins := .invokevirtual 1015) (len := 3) (j := 488) (as := [.ref 281, .int 0]) (rest := []) rfl rfl rfl rfl (fun _ => rfl) rfl ?_
              refine g_in (M := x_M488) (L := [some (.ref 281), some (.int 0)]) x_pl488 rfl ?_
              refine g_n 7 (pc' := 14) (L' := [some (.ref 281), some (.int 0)]) (st' := [.int 1]) rfl ?_
              refine g_ret (ins := .ireturn) (len := 1) (r := (some (.int 1))) rfl rfl rfl ?_
              refine g_n 2 (pc' := 9) (L' := [some (.ref 281), some (.int 0), some (.int b), some (.int c), none]) (st' := [.int c]) rfl ?_
              refine g_brF (c := c < (0 : Int32)) (t := 21) (f := 12) (L' := [some (.ref 281), some (.int 0), some (.int b), some (.int c), none]) (st' := []) rfl (x_Flt (l := 0) (u := 0) p18 (by decide) (by decide)) ?_
              refine g_n 2 (pc' := 14) (L' := [some (.ref 281), some (.int 0), some (.int b), some (.int c), none]) (st' := [.int 2, .int c]) rfl ?_
              refine g_brF (c := (2 : Int32) < c) (t := 21) (f := 17) (L' := [some (.ref 281), some (.int 0), some (.int b), some (.int c), none]) (st' := []) rfl (x_Flt (l := 2) (u := 2) (by decide) p21 (by decide)) ?_
              refine g_n 1 (pc' := 18) (L' := [some (.ref 281), some (.int 0), some (.int b), some (.int c), none]) (st' := [.int b]) rfl ?_
              refine g_brT (c := (0 : Int32) ≤ b) (t := 23) (f := 21) (L' := [some (.ref 281), some (.int 0), some (.int b), some (.int c), none]) (st' := []) rfl (x_Tle (u := 0) (l := 0) (by decide) p15 (by decide)) ?_
              refine g_n 6 (pc' := 34) (L' := [some (.ref 281), some (.int 0), some (.int b), some (.int c), none]) (st' := [.int (-2)]) rfl ?_
              exact g_ret (ins := .ireturn) (len := 1) (r := (some (.int (-2)))) rfl rfl rfl ⟨_, rfl, rfl, (x_sv_rf _)⟩
            · have q24 : ¬ a = 0 := h22
              have p25 : 1 ≤ a.toInt := x_lo_ne q24 p3 (by decide)
              by_cases h26 : a = 1
              · have e27 : a = 1 := h26
                subst e27
                refine g_aa (i := 1) (a := 2) (n := 4) (v := 50) rfl rfl (by decide) (x_at (x_f2 hF) (k := 1) rfl) ?_
                refine g_n 3 (pc' := 34) (L' := [some (.ref 0), some (.int 1), some (.int b), some (.int c)]) (st' := [.int (-2)]) rfl ?_
                refine g_ret (ins := .ireturn) (len := 1) (r := (some (.int (-2)))) rfl rfl rfl ?_
                refine ⟨⟨_, rfl⟩, ?_⟩
                refine g_in (M := x_M715) (L := [some (.ref 281), some (.int 1), some (.int b), some (.int c), none]) x_pl715 rfl ?_
                refine g_n 2 (pc' := 2) (L' := [some (.ref 281), some (.int 1), some (.int b), some (.int c), none]) (st' := [.int 1, .ref 281]) rfl ?_
                refine g_call (ins := .invokevirtual 1015) (len := 3) (j := 488) (as := [.ref 281, .int 1]) (rest := []) rfl rfl rfl rfl (fun _ => rfl) rfl ?_
                refine g_in (M := x_M488) (L := [some (.ref 281), some (.int 1)]) x_pl488 rfl ?_
                refine g_n 7 (pc' := 14) (L' := [some (.ref 281), some (.int 1)]) (st' := [.int 1]) rfl ?_
                refine g_ret (ins := .ireturn) (len := 1) (r := (some (.int 1))) rfl rfl rfl ?_
                refine g_n 2 (pc' := 9) (L' := [some (.ref 281), some (.int 1), some (.int b), some (.int c), none]) (st' := [.int c]) rfl ?_
                refine g_brF (c := c < (0 : Int32)) (t := 21) (f := 12) (L' := [some (.ref 281), some (.int 1), some (.int b), some (.int c), none]) (st' := []) rfl (x_Flt (l := 0) (u := 0) p18 (by decide) (by decide)) ?_
                refine g_n 2 (pc' := 14) (L' := [some (.ref 281), some (.int 1), some (.int b), some (.int c), none]) (st' := [.int 2, .int c]) rfl ?_
                refine g_brF (c := (2 : Int32) < c) (t := 21) (f := 17) (L' := [some (.ref 281), some (.int 1), some (.int b), some (.int c), none]) (st' := []) rfl (x_Flt (l := 2) (u := 2) (by decide) p21 (by decide)) ?_
                refine g_n 1 (pc' := 18) (L' := [some (.ref 281), some (.int 1), some (.int b), some (.int c), none]) (st' := [.int b]) rfl ?_
                refine g_brT (c := (0 : Int32) ≤ b) (t := 23) (f := 21) (L' := [some (.ref 281), some (.int 1), some (.int b), some (.int c), none]) (st' := []) rfl (x_Tle (u := 0) (l := 0) (by decide) p15 (by decide)) ?_
                refine g_n 6 (pc' := 34) (L' := [some (.ref 281), some (.int 1), some (.int b), some (.int c), none]) (st' := [.int (-2)]) rfl ?_
                exact g_ret (ins := .ireturn) (len := 1) (r := (some (.int (-2)))) rfl rfl rfl ⟨_, rfl, rfl, (x_sv_rf _)⟩
              · have q28 : ¬ a = 1 := h26
                have p29 : 2 ≤ a.toInt := x_lo_ne q28 p25 (by decide)
                by_cases h30 : a = 2
                · have e31 : a = 2 := h30
                  subst e31
                  refine g_aa (i := 2) (a := 2) (n := 4) (v := 73) rfl rfl (by decide) (x_at (x_f2 hF) (k := 2) rfl) ?_
                  refine g_n 3 (pc' := 34) (L' := [some (.ref 0), some (.int 2), some (.int b), some (.int c)]) (st' := [.int (-2)]) rfl ?_
                  refine g_ret (ins := .ireturn) (len := 1) (r := (some (.int (-2)))) rfl rfl rfl ?_
                  refine ⟨⟨_, rfl⟩, ?_⟩
                  refine g_in (M := x_M715) (L := [some (.ref 281), some (.int 2), some (.int b), some (.int c), none]) x_pl715 rfl ?_
                  refine g_n 2 (pc' := 2) (L' := [some (.ref 281), some (.int 2), some (.int b), some (.int c), none]) (st' := [.int 2, .ref 281]) rfl ?_
                  refine g_call (ins := .invokevirtual 1015) (len := 3) (j := 488) (as := [.ref 281, .int 2]) (rest := []) rfl rfl rfl rfl (fun _ => rfl) rfl ?_
                  refine g_in (M := x_M488) (L := [some (.ref 281), some (.int 2)]) x_pl488 rfl ?_
                  refine g_n 7 (pc' := 14) (L' := [some (.ref 281), some (.int 2)]) (st' := [.int 1]) rfl ?_
                  refine g_ret (ins := .ireturn) (len := 1) (r := (some (.int 1))) rfl rfl rfl ?_
                  refine g_n 2 (pc' := 9) (L' := [some (.ref 281), some (.int 2), some (.int b), some (.int c), none]) (st' := [.int c]) rfl ?_
                  refine g_brF (c := c < (0 : Int32)) (t := 21) (f := 12) (L' := [some (.ref 281), some (.int 2), some (.int b), some (.int c), none]) (st' := []) rfl (x_Flt (l := 0) (u := 0) p18 (by decide) (by decide)) ?_
                  refine g_n 2 (pc' := 14) (L' := [some (.ref 281), some (.int 2), some (.int b), some (.int c), none]) (st' := [.int 2, .int c]) rfl ?_
                  refine g_brF (c := (2 : Int32) < c) (t := 21) (f := 17) (L' := [some (.ref 281), some (.int 2), some (.int b), some (.int c), none]) (st' := []) rfl (x_Flt (l := 2) (u := 2) (by decide) p21 (by decide)) ?_
                  refine g_n 1 (pc' := 18) (L' := [some (.ref 281), some (.int 2), some (.int b), some (.int c), none]) (st' := [.int b]) rfl ?_
                  refine g_brT (c := (0 : Int32) ≤ b) (t := 23) (f := 21) (L' := [some (.ref 281), some (.int 2), some (.int b), some (.int c), none]) (st' := []) rfl (x_Tle (u := 0) (l := 0) (by decide) p15 (by decide)) ?_
                  refine g_n 6 (pc' := 34) (L' := [some (.ref 281), some (.int 2), some (.int b), some (.int c), none]) (st' := [.int (-2)]) rfl ?_
                  exact g_ret (ins := .ireturn) (len := 1) (r := (some (.int (-2)))) rfl rfl rfl ⟨_, rfl, rfl, (x_sv_rf _)⟩
                · have q32 : ¬ a = 2 := h30
                  have p33 : 3 ≤ a.toInt := x_lo_ne q32 p29 (by decide)
                  have e34 : a = 3 := x_sing p33 p6 (by decide)
                  subst e34
                  refine g_aa (i := 3) (a := 2) (n := 4) (v := 96) rfl rfl (by decide) (x_at (x_f2 hF) (k := 3) rfl) ?_
                  refine g_n 3 (pc' := 34) (L' := [some (.ref 0), some (.int 3), some (.int b), some (.int c)]) (st' := [.int (-2)]) rfl ?_
                  refine g_ret (ins := .ireturn) (len := 1) (r := (some (.int (-2)))) rfl rfl rfl ?_
                  refine ⟨⟨_, rfl⟩, ?_⟩
                  refine g_in (M := x_M715) (L := [some (.ref 281), some (.int 3), some (.int b), some (.int c), none]) x_pl715 rfl ?_
                  refine g_n 2 (pc' := 2) (L' := [some (.ref 281), some (.int 3), some (.int b), some (.int c), none]) (st' := [.int 3, .ref 281]) rfl ?_
                  refine g_call (ins := .invokevirtual 1015) (len := 3) (j := 488) (as := [.ref 281, .int 3]) (rest := []) rfl rfl rfl rfl (fun _ => rfl) rfl ?_
                  refine g_in (M := x_M488) (L := [some (.ref 281), some (.int 3)]) x_pl488 rfl ?_
                  refine g_n 7 (pc' := 14) (L' := [some (.ref 281), some (.int 3)]) (st' := [.int 1]) rfl ?_
                  refine g_ret (ins := .ireturn) (len := 1) (r := (some (.int 1))) rfl rfl rfl ?_
                  refine g_n 2 (pc' := 9) (L' := [some (.ref 281), some (.int 3), some (.int b), some (.int c), none]) (st' := [.int c]) rfl ?_
                  refine g_brF (c := c < (0 : Int32)) (t := 21) (f := 12) (L' := [some (.ref 281), some (.int 3), some (.int b), some (.int c), none]) (st' := []) rfl (x_Flt (l := 0) (u := 0) p18 (by decide) (by decide)) ?_
                  refine g_n 2 (pc' := 14) (L' := [some (.ref 281), some (.int 3), some (.int b), some (.int c), none]) (st' := [.int 2, .int c]) rfl ?_
                  refine g_brF (c := (2 : Int32) < c) (t := 21) (f := 17) (L' := [some (.ref 281), some (.int 3), some (.int b), some (.int c), none]) (st' := []) rfl (x_Flt (l := 2) (u := 2) (by decide) p21 (by decide)) ?_
                  refine g_n 1 (pc' := 18) (L' := [some (.ref 281), some (.int 3), some (.int b), some (.int c), none]) (st' := [.int b]) rfl ?_
                  refine g_brT (c := (0 : Int32) ≤ b) (t := 23) (f := 21) (L' := [some (.ref 281), some (.int 3), some (.int b), some (.int c), none]) (st' := []) rfl (x_Tle (u := 0) (l := 0) (by decide) p15 (by decide)) ?_
                  refine g_n 6 (pc' := 34) (L' := [some (.ref 281), some (.int 3), some (.int b), some (.int c), none]) (st' := [.int (-2)]) rfl ?_
                  exact g_ret (ins := .ireturn) (len := 1) (r := (some (.int (-2)))) rfl rfl rfl ⟨_, rfl, rfl, (x_sv_rf _)⟩
set_option maxRecDepth 100000 in
set_option maxHeartbeats 4000000 in
theorem x_op35 {fi : Nat → Nat → Int32} {fl : Nat → Nat → Int64} {fr : Nat → Nat → Option Nat} (hF : x_F fl fr) (a b c : Int32) : x_ev 30 394 [.ref 0, .int a, .int b, .int c] (x_W fi fl fr) fun r S1 => (∃ fs, x_obj S1 281 = some (12, fs)) ∧ x_ev 30 716 [.ref 281, .int a, .int b, .int c] S1 (x_finI (x_W fi fl fr) r) := by
  refine g_in (M := x_M394) (L := [some (.ref 0), some (.int a), some (.int b), some (.int c)]) x_pl394 rfl ?_
  refine g_n 1 (pc' := 1) (L' := [some (.ref 0), some (.int a), some (.int b), some (.int c)]) (st' := [.int a]) rfl ?_
  refine g_call (ins := .invokestatic 407) (len := 3) (j := 350) (as := [.int a]) (rest := []) rfl rfl rfl rfl (fun _ => rfl) rfl ?_
  refine g_in (M := x_M350) (L := [some (.int a)]) x_pl350 rfl ?_
  refine g_n 1 (pc' := 1) (L' := [some (.int a)]) (st' := [.int a]) rfl ?_
  refine g_br (c := a < (0 : Int32)) (t := 13) (f := 4) (L' := [some (.int a)]) (st' := []) rfl (fun h1 => ?_) (fun h1 => ?_)
  · have p2 : a.toInt ≤ -1 := x_up_lt h1 (by decide)
    refine g_n 1 (pc' := 14) (L' := [some (.int a)]) (st' := [.int 0]) rfl ?_
    refine g_ret (ins := .ireturn) (len := 1) (r := (some (.int 0))) rfl rfl rfl ?_
    refine g_n 2 (pc' := 19) (L' := [some (.ref 0), some (.int a), some (.int b), some (.int c)]) (st' := [.int (-1)]) rfl ?_
    refine g_ret (ins := .ireturn) (len := 1) (r := (some (.int (-1)))) rfl rfl rfl ?_
    refine ⟨⟨_, rfl⟩, ?_⟩
    refine g_in (M := x_M716) (L := [some (.ref 281), some (.int a), some (.int b), some (.int c)]) x_pl716 rfl ?_
    refine g_n 1 (pc' := 1) (L' := [some (.ref 281), some (.int a), some (.int b), some (.int c)]) (st' := [.int a]) rfl ?_
    refine g_brT (c := a < (0 : Int32)) (t := 21) (f := 4) (L' := [some (.ref 281), some (.int a), some (.int b), some (.int c)]) (st' := []) rfl (x_Tlt (u := -1) (l := 0) p2 (by decide) (by decide)) ?_
    refine g_n 1 (pc' := 22) (L' := [some (.ref 281), some (.int a), some (.int b), some (.int c)]) (st' := [.int (-1)]) rfl ?_
    exact g_ret (ins := .ireturn) (len := 1) (r := (some (.int (-1)))) rfl rfl rfl ⟨_, rfl, rfl, (x_sv_rf _)⟩
  · have p3 : 0 ≤ a.toInt := x_lo_le (x_nlt h1) (by decide)
    refine g_n 2 (pc' := 6) (L' := [some (.int a)]) (st' := [.int 3, .int a]) rfl ?_
    refine g_br (c := (3 : Int32) ≤ a) (t := 13) (f := 9) (L' := [some (.int a)]) (st' := []) rfl (fun h4 => ?_) (fun h4 => ?_)
    · have p5 : 3 ≤ a.toInt := x_lo_le h4 (by decide)
      refine g_n 1 (pc' := 14) (L' := [some (.int a)]) (st' := [.int 0]) rfl ?_
      refine g_ret (ins := .ireturn) (len := 1) (r := (some (.int 0))) rfl rfl rfl ?_
      refine g_n 2 (pc' := 19) (L' := [some (.ref 0), some (.int a), some (.int b), some (.int c)]) (st' := [.int (-1)]) rfl ?_
      refine g_ret (ins := .ireturn) (len := 1) (r := (some (.int (-1)))) rfl rfl rfl ?_
      refine ⟨⟨_, rfl⟩, ?_⟩
      refine g_in (M := x_M716) (L := [some (.ref 281), some (.int a), some (.int b), some (.int c)]) x_pl716 rfl ?_
      refine g_n 1 (pc' := 1) (L' := [some (.ref 281), some (.int a), some (.int b), some (.int c)]) (st' := [.int a]) rfl ?_
      refine g_brF (c := a < (0 : Int32)) (t := 21) (f := 4) (L' := [some (.ref 281), some (.int a), some (.int b), some (.int c)]) (st' := []) rfl (x_Flt (l := 3) (u := 0) p5 (by decide) (by decide)) ?_
      refine g_n 2 (pc' := 6) (L' := [some (.ref 281), some (.int a), some (.int b), some (.int c)]) (st' := [.int 2, .int a]) rfl ?_
      refine g_brT (c := (2 : Int32) < a) (t := 21) (f := 9) (L' := [some (.ref 281), some (.int a), some (.int b), some (.int c)]) (st' := []) rfl (x_Tlt (u := 2) (l := 3) (by decide) p5 (by decide)) ?_
      refine g_n 1 (pc' := 22) (L' := [some (.ref 281), some (.int a), some (.int b), some (.int c)]) (st' := [.int (-1)]) rfl ?_
      exact g_ret (ins := .ireturn) (len := 1) (r := (some (.int (-1)))) rfl rfl rfl ⟨_, rfl, rfl, (x_sv_rf _)⟩
    · have p6 : a.toInt ≤ 2 := x_up_lt (x_nle h4) (by decide)
      refine g_n 2 (pc' := 14) (L' := [some (.int a)]) (st' := [.int 1]) rfl ?_
      refine g_ret (ins := .ireturn) (len := 1) (r := (some (.int 1))) rfl rfl rfl ?_
      refine g_n 2 (pc' := 8) (L' := [some (.ref 0), some (.int a), some (.int b), some (.int c)]) (st' := [.int b]) rfl ?_
      refine g_call (ins := .invokestatic 173) (len := 3) (j := 348) (as := [.int b]) (rest := []) rfl rfl rfl rfl (fun _ => rfl) rfl ?_
      refine g_in (M := x_M348) (L := [some (.int b)]) x_pl348 rfl ?_
      refine g_n 1 (pc' := 1) (L' := [some (.int b)]) (st' := [.int b]) rfl ?_
      refine g_br (c := b < (0 : Int32)) (t := 13) (f := 4) (L' := [some (.int b)]) (st' := []) rfl (fun h7 => ?_) (fun h7 => ?_)
      · have p8 : b.toInt ≤ -1 := x_up_lt h7 (by decide)
        refine g_n 1 (pc' := 14) (L' := [some (.int b)]) (st' := [.int 0]) rfl ?_
        refine g_ret (ins := .ireturn) (len := 1) (r := (some (.int 0))) rfl rfl rfl ?_
        refine g_n 2 (pc' := 19) (L' := [some (.ref 0), some (.int a), some (.int b), some (.int c)]) (st' := [.int (-1)]) rfl ?_
        refine g_ret (ins := .ireturn) (len := 1) (r := (some (.int (-1)))) rfl rfl rfl ?_
        refine ⟨⟨_, rfl⟩, ?_⟩
        refine g_in (M := x_M716) (L := [some (.ref 281), some (.int a), some (.int b), some (.int c)]) x_pl716 rfl ?_
        refine g_n 1 (pc' := 1) (L' := [some (.ref 281), some (.int a), some (.int b), some (.int c)]) (st' := [.int a]) rfl ?_
        refine g_brF (c := a < (0 : Int32)) (t := 21) (f := 4) (L' := [some (.ref 281), some (.int a), some (.int b), some (.int c)]) (st' := []) rfl (x_Flt (l := 0) (u := 0) p3 (by decide) (by decide)) ?_
        refine g_n 2 (pc' := 6) (L' := [some (.ref 281), some (.int a), some (.int b), some (.int c)]) (st' := [.int 2, .int a]) rfl ?_
        refine g_brF (c := (2 : Int32) < a) (t := 21) (f := 9) (L' := [some (.ref 281), some (.int a), some (.int b), some (.int c)]) (st' := []) rfl (x_Flt (l := 2) (u := 2) (by decide) p6 (by decide)) ?_
        refine g_n 2 (pc' := 11) (L' := [some (.ref 281), some (.int a), some (.int b), some (.int c)]) (st' := [.int b, .ref 281]) rfl ?_
        refine g_call (ins := .invokevirtual 1015) (len := 3) (j := 488) (as := [.ref 281, .int b]) (rest := []) rfl rfl rfl rfl (fun _ => rfl) rfl ?_
        refine g_in (M := x_M488) (L := [some (.ref 281), some (.int b)]) x_pl488 rfl ?_
        refine g_n 1 (pc' := 1) (L' := [some (.ref 281), some (.int b)]) (st' := [.int b]) rfl ?_
        refine g_brT (c := b < (0 : Int32)) (t := 13) (f := 4) (L' := [some (.ref 281), some (.int b)]) (st' := []) rfl (x_Tlt (u := -1) (l := 0) p8 (by decide) (by decide)) ?_
        refine g_n 1 (pc' := 14) (L' := [some (.ref 281), some (.int b)]) (st' := [.int 0]) rfl ?_
        refine g_ret (ins := .ireturn) (len := 1) (r := (some (.int 0))) rfl rfl rfl ?_
        refine g_n 2 (pc' := 22) (L' := [some (.ref 281), some (.int a), some (.int b), some (.int c)]) (st' := [.int (-1)]) rfl ?_
        exact g_ret (ins := .ireturn) (len := 1) (r := (some (.int (-1)))) rfl rfl rfl ⟨_, rfl, rfl, (x_sv_rf _)⟩
      · have p9 : 0 ≤ b.toInt := x_lo_le (x_nlt h7) (by decide)
        refine g_n 2 (pc' := 6) (L' := [some (.int b)]) (st' := [.int 4, .int b]) rfl ?_
        refine g_br (c := (4 : Int32) ≤ b) (t := 13) (f := 9) (L' := [some (.int b)]) (st' := []) rfl (fun h10 => ?_) (fun h10 => ?_)
        · have p11 : 4 ≤ b.toInt := x_lo_le h10 (by decide)
          refine g_n 1 (pc' := 14) (L' := [some (.int b)]) (st' := [.int 0]) rfl ?_
          refine g_ret (ins := .ireturn) (len := 1) (r := (some (.int 0))) rfl rfl rfl ?_
          refine g_n 2 (pc' := 19) (L' := [some (.ref 0), some (.int a), some (.int b), some (.int c)]) (st' := [.int (-1)]) rfl ?_
          refine g_ret (ins := .ireturn) (len := 1) (r := (some (.int (-1)))) rfl rfl rfl ?_
          refine ⟨⟨_, rfl⟩, ?_⟩
          refine g_in (M := x_M716) (L := [some (.ref 281), some (.int a), some (.int b), some (.int c)]) x_pl716 rfl ?_
          refine g_n 1 (pc' := 1) (L' := [some (.ref 281), some (.int a), some (.int b), some (.int c)]) (st' := [.int a]) rfl ?_
          refine g_brF (c := a < (0 : Int32)) (t := 21) (f := 4) (L' := [some (.ref 281), some (.int a), some (.int b), some (.int c)]) (st' := []) rfl (x_Flt (l := 0) (u := 0) p3 (by decide) (by decide)) ?_
          refine g_n 2 (pc' := 6) (L' := [some (.ref 281), some (.int a), some (.int b), some (.int c)]) (st' := [.int 2, .int a]) rfl ?_
          refine g_brF (c := (2 : Int32) < a) (t := 21) (f := 9) (L' := [some (.ref 281), some (.int a), some (.int b), some (.int c)]) (st' := []) rfl (x_Flt (l := 2) (u := 2) (by decide) p6 (by decide)) ?_
          refine g_n 2 (pc' := 11) (L' := [some (.ref 281), some (.int a), some (.int b), some (.int c)]) (st' := [.int b, .ref 281]) rfl ?_
          refine g_call (ins := .invokevirtual 1015) (len := 3) (j := 488) (as := [.ref 281, .int b]) (rest := []) rfl rfl rfl rfl (fun _ => rfl) rfl ?_
          refine g_in (M := x_M488) (L := [some (.ref 281), some (.int b)]) x_pl488 rfl ?_
          refine g_n 1 (pc' := 1) (L' := [some (.ref 281), some (.int b)]) (st' := [.int b]) rfl ?_
          refine g_brF (c := b < (0 : Int32)) (t := 13) (f := 4) (L' := [some (.ref 281), some (.int b)]) (st' := []) rfl (x_Flt (l := 4) (u := 0) p11 (by decide) (by decide)) ?_
          refine g_n 2 (pc' := 6) (L' := [some (.ref 281), some (.int b)]) (st' := [.int 4, .int b]) rfl ?_
          refine g_brT (c := (4 : Int32) ≤ b) (t := 13) (f := 9) (L' := [some (.ref 281), some (.int b)]) (st' := []) rfl (x_Tle (u := 4) (l := 4) (by decide) p11 (by decide)) ?_
          refine g_n 1 (pc' := 14) (L' := [some (.ref 281), some (.int b)]) (st' := [.int 0]) rfl ?_
          refine g_ret (ins := .ireturn) (len := 1) (r := (some (.int 0))) rfl rfl rfl ?_
          refine g_n 2 (pc' := 22) (L' := [some (.ref 281), some (.int a), some (.int b), some (.int c)]) (st' := [.int (-1)]) rfl ?_
          exact g_ret (ins := .ireturn) (len := 1) (r := (some (.int (-1)))) rfl rfl rfl ⟨_, rfl, rfl, (x_sv_rf _)⟩
        · have p12 : b.toInt ≤ 3 := x_up_lt (x_nle h10) (by decide)
          refine g_n 2 (pc' := 14) (L' := [some (.int b)]) (st' := [.int 1]) rfl ?_
          refine g_ret (ins := .ireturn) (len := 1) (r := (some (.int 1))) rfl rfl rfl ?_
          refine g_n 2 (pc' := 15) (L' := [some (.ref 0), some (.int a), some (.int b), some (.int c)]) (st' := [.int c]) rfl ?_
          refine g_br (c := (0 : Int32) ≤ c) (t := 20) (f := 18) (L' := [some (.ref 0), some (.int a), some (.int b), some (.int c)]) (st' := []) rfl (fun h13 => ?_) (fun h13 => ?_)
          · have p14 : 0 ≤ c.toInt := x_lo_le h13 (by decide)
            refine g_n 3 (pc' := 25) (L' := [some (.ref 0), some (.int a), some (.int b), some (.int c)]) (st' := [.int b, .ref 2]) rfl ?_
            by_cases h15 : b = 0
            · have e16 : b = 0 := h15
              subst e16
              refine g_aa (i := 0) (a := 2) (n := 4) (v := 27) rfl rfl (by decide) (x_at (x_f2 hF) (k := 0) rfl) ?_
              refine g_n 5 (pc' := 52) (L' := [some (.ref 0), some (.int a), some (.int 0), some (.int c)]) (st' := [.int 0, .ref 2]) rfl ?_
              refine g_aa (i := 0) (a := 2) (n := 4) (v := 27) rfl rfl (by decide) (x_at (x_f2 hF) (k := 0) rfl) ?_
              refine g_n 3 (pc' := 71) (L' := [some (.ref 0), some (.int a), some (.int 0), some (.int c)]) (st' := [.int (-2)]) rfl ?_
              refine g_ret (ins := .ireturn) (len := 1) (r := (some (.int (-2)))) rfl rfl rfl ?_
              refine ⟨⟨_, rfl⟩, ?_⟩
              refine g_in (M := x_M716) (L := [some (.ref 281), some (.int a), some (.int 0), some (.int c)]) x_pl716 rfl ?_
              refine g_n 1 (pc' := 1) (L' := [some (.ref 281), some (.int a), some (.int 0), some (.int c)]) (st' := [.int a]) rfl ?_
              refine g_brF (c := a < (0 : Int32)) (t := 21) (f := 4) (L' := [some (.ref 281), some (.int a), some (.int 0), some (.int c)]) (st' := []) rfl (x_Flt (l := 0) (u := 0) p3 (by decide) (by decide)) ?_
              refine g_n 2 (pc' := 6) (L' := [some (.ref 281), some (.int a), some (.int 0), some (.int c)]) (st' := [.int 2, .int a]) rfl ?_
              refine g_brF (c := (2 : Int32) < a) (t := 21) (f := 9) (L' := [some (.ref 281), some (.int a), some (.int 0), some (.int c)]) (st' := []) rfl (x_Flt (l := 2) (u := 2) (by decide) p6 (by decide)) ?_
              refine g_n 2 (pc' := 11) (L' := [some (.ref 281), some (.int a), some (.int 0), some (.int c)]) (st' := [.int 0, .ref 281]) rfl ?_
              refine g_call (ins := .invokevirtual 1015) (len := 3) (j := 488) (as := [.ref 281, .int 0]) (rest := []) rfl rfl rfl rfl (fun _ => rfl) rfl ?_
              refine g_in (M := x_M488) (L := [some (.ref 281), some (.int 0)]) x_pl488 rfl ?_
              refine g_n 7 (pc' := 14) (L' := [some (.ref 281), some (.int 0)]) (st' := [.int 1]) rfl ?_
              refine g_ret (ins := .ireturn) (len := 1) (r := (some (.int 1))) rfl rfl rfl ?_
              refine g_n 2 (pc' := 18) (L' := [some (.ref 281), some (.int a), some (.int 0), some (.int c)]) (st' := [.int c]) rfl ?_
              refine g_brT (c := (0 : Int32) ≤ c) (t := 23) (f := 21) (L' := [some (.ref 281), some (.int a), some (.int 0), some (.int c)]) (st' := []) rfl (x_Tle (u := 0) (l := 0) (by decide) p14 (by decide)) ?_
              refine g_n 6 (pc' := 34) (L' := [some (.ref 281), some (.int a), some (.int 0), some (.int c)]) (st' := [.int (-2)]) rfl ?_
              exact g_ret (ins := .ireturn) (len := 1) (r := (some (.int (-2)))) rfl rfl rfl ⟨_, rfl, rfl, (x_sv_rf _)⟩
            · have q17 : ¬ b = 0 := h15
              have p18 : 1 ≤ b.toInt := x_lo_ne q17 p9 (by decide)
              by_cases h19 : b = 1
              · have e20 : b = 1 := h19
                subst e20
                refine g_aa (i := 1) (a := 2) (n := 4) (v := 50) rfl rfl (by decide) (x_at (x_f2 hF) (k := 1) rfl) ?_
                refine g_n 5 (pc' := 52) (L' := [some (.ref 0), some (.int a), some (.int 1), some (.int c)]) (st' := [.int 1, .ref 2]) rfl ?_
                refine g_aa (i := 1) (a := 2) (n := 4) (v := 50) rfl rfl (by decide) (x_at (x_f2 hF) (k := 1) rfl) ?_
                refine g_n 3 (pc' := 71) (L' := [some (.ref 0), some (.int a), some (.int 1), some (.int c)]) (st' := [.int (-2)]) rfl ?_
                refine g_ret (ins := .ireturn) (len := 1) (r := (some (.int (-2)))) rfl rfl rfl ?_
                refine ⟨⟨_, rfl⟩, ?_⟩
                refine g_in (M := x_M716) (L := [some (.ref 281), some (.int a), some (.int 1), some (.int c)]) x_pl716 rfl ?_
                refine g_n 1 (pc' := 1) (L' := [some (.ref 281), some (.int a), some (.int 1), some (.int c)]) (st' := [.int a]) rfl ?_
                refine g_brF (c := a < (0 : Int32)) (t := 21) (f := 4) (L' := [some (.ref 281), some (.int a), some (.int 1), some (.int c)]) (st' := []) rfl (x_Flt (l := 0) (u := 0) p3 (by decide) (by decide)) ?_
                refine g_n 2 (pc' := 6) (L' := [some (.ref 281), some (.int a), some (.int 1), some (.int c)]) (st' := [.int 2, .int a]) rfl ?_
                refine g_brF (c := (2 : Int32) < a) (t := 21) (f := 9) (L' := [some (.ref 281), some (.int a), some (.int 1), some (.int c)]) (st' := []) rfl (x_Flt (l := 2) (u := 2) (by decide) p6 (by decide)) ?_
                refine g_n 2 (pc' := 11) (L' := [some (.ref 281), some (.int a), some (.int 1), some (.int c)]) (st' := [.int 1, .ref 281]) rfl ?_
                refine g_call (ins := .invokevirtual 1015) (len := 3) (j := 488) (as := [.ref 281, .int 1]) (rest := []) rfl rfl rfl rfl (fun _ => rfl) rfl ?_
                refine g_in (M := x_M488) (L := [some (.ref 281), some (.int 1)]) x_pl488 rfl ?_
                refine g_n 7 (pc' := 14) (L' := [some (.ref 281), some (.int 1)]) (st' := [.int 1]) rfl ?_
                refine g_ret (ins := .ireturn) (len := 1) (r := (some (.int 1))) rfl rfl rfl ?_
                refine g_n 2 (pc' := 18) (L' := [some (.ref 281), some (.int a), some (.int 1), some (.int c)]) (st' := [.int c]) rfl ?_
                refine g_brT (c := (0 : Int32) ≤ c) (t := 23) (f := 21) (L' := [some (.ref 281), some (.int a), some (.int 1), some (.int c)]) (st' := []) rfl (x_Tle (u := 0) (l := 0) (by decide) p14 (by decide)) ?_
                refine g_n 6 (pc' := 34) (L' := [some (.ref 281), some (.int a), some (.int 1), some (.int c)]) (st' := [.int (-2)]) rfl ?_
                exact g_ret (ins := .ireturn) (len := 1) (r := (some (.int (-2)))) rfl rfl rfl ⟨_, rfl, rfl, (x_sv_rf _)⟩
              · have q21 : ¬ b = 1 := h19
                have p22 : 2 ≤ b.toInt := x_lo_ne q21 p18 (by decide)
                by_cases h23 : b = 2
                · have e24 : b = 2 := h23
                  subst e24
                  refine g_aa (i := 2) (a := 2) (n := 4) (v := 73) rfl rfl (by decide) (x_at (x_f2 hF) (k := 2) rfl) ?_
                  refine g_n 5 (pc' := 52) (L' := [some (.ref 0), some (.int a), some (.int 2), some (.int c)]) (st' := [.int 2, .ref 2]) rfl ?_
                  refine g_aa (i := 2) (a := 2) (n := 4) (v := 73) rfl rfl (by decide) (x_at (x_f2 hF) (k := 2) rfl) ?_
                  refine g_n 3 (pc' := 71) (L' := [some (.ref 0), some (.int a), some (.int 2), some (.int c)]) (st' := [.int (-2)]) rfl ?_
                  refine g_ret (ins := .ireturn) (len := 1) (r := (some (.int (-2)))) rfl rfl rfl ?_
                  refine ⟨⟨_, rfl⟩, ?_⟩
                  refine g_in (M := x_M716) (L := [some (.ref 281), some (.int a), some (.int 2), some (.int c)]) x_pl716 rfl ?_
                  refine g_n 1 (pc' := 1) (L' := [some (.ref 281), some (.int a), some (.int 2), some (.int c)]) (st' := [.int a]) rfl ?_
                  refine g_brF (c := a < (0 : Int32)) (t := 21) (f := 4) (L' := [some (.ref 281), some (.int a), some (.int 2), some (.int c)]) (st' := []) rfl (x_Flt (l := 0) (u := 0) p3 (by decide) (by decide)) ?_
                  refine g_n 2 (pc' := 6) (L' := [some (.ref 281), some (.int a), some (.int 2), some (.int c)]) (st' := [.int 2, .int a]) rfl ?_
                  refine g_brF (c := (2 : Int32) < a) (t := 21) (f := 9) (L' := [some (.ref 281), some (.int a), some (.int 2), some (.int c)]) (st' := []) rfl (x_Flt (l := 2) (u := 2) (by decide) p6 (by decide)) ?_
                  refine g_n 2 (pc' := 11) (L' := [some (.ref 281), some (.int a), some (.int 2), some (.int c)]) (st' := [.int 2, .ref 281]) rfl ?_
                  refine g_call (ins := .invokevirtual 1015) (len := 3) (j := 488) (as := [.ref 281, .int 2]) (rest := []) rfl rfl rfl rfl (fun _ => rfl) rfl ?_
                  refine g_in (M := x_M488) (L := [some (.ref 281), some (.int 2)]) x_pl488 rfl ?_
                  refine g_n 7 (pc' := 14) (L' := [some (.ref 281), some (.int 2)]) (st' := [.int 1]) rfl ?_
                  refine g_ret (ins := .ireturn) (len := 1) (r := (some (.int 1))) rfl rfl rfl ?_
                  refine g_n 2 (pc' := 18) (L' := [some (.ref 281), some (.int a), some (.int 2), some (.int c)]) (st' := [.int c]) rfl ?_
                  refine g_brT (c := (0 : Int32) ≤ c) (t := 23) (f := 21) (L' := [some (.ref 281), some (.int a), some (.int 2), some (.int c)]) (st' := []) rfl (x_Tle (u := 0) (l := 0) (by decide) p14 (by decide)) ?_
                  refine g_n 6 (pc' := 34) (L' := [some (.ref 281), some (.int a), some (.int 2), some (.int c)]) (st' := [.int (-2)]) rfl ?_
                  exact g_ret (ins := .ireturn) (len := 1) (r := (some (.int (-2)))) rfl rfl rfl ⟨_, rfl, rfl, (x_sv_rf _)⟩
                · have q25 : ¬ b = 2 := h23
                  have p26 : 3 ≤ b.toInt := x_lo_ne q25 p22 (by decide)
                  have e27 : b = 3 := x_sing p26 p12 (by decide)
                  subst e27
                  refine g_aa (i := 3) (a := 2) (n := 4) (v := 96) rfl rfl (by decide) (x_at (x_f2 hF) (k := 3) rfl) ?_
                  refine g_n 5 (pc' := 52) (L' := [some (.ref 0), some (.int a), some (.int 3), some (.int c)]) (st' := [.int 3, .ref 2]) rfl ?_
                  refine g_aa (i := 3) (a := 2) (n := 4) (v := 96) rfl rfl (by decide) (x_at (x_f2 hF) (k := 3) rfl) ?_
                  refine g_n 3 (pc' := 71) (L' := [some (.ref 0), some (.int a), some (.int 3), some (.int c)]) (st' := [.int (-2)]) rfl ?_
                  refine g_ret (ins := .ireturn) (len := 1) (r := (some (.int (-2)))) rfl rfl rfl ?_
                  refine ⟨⟨_, rfl⟩, ?_⟩
                  refine g_in (M := x_M716) (L := [some (.ref 281), some (.int a), some (.int 3), some (.int c)]) x_pl716 rfl ?_
                  refine g_n 1 (pc' := 1) (L' := [some (.ref 281), some (.int a), some (.int 3), some (.int c)]) (st' := [.int a]) rfl ?_
                  refine g_brF (c := a < (0 : Int32)) (t := 21) (f := 4) (L' := [some (.ref 281), some (.int a), some (.int 3), some (.int c)]) (st' := []) rfl (x_Flt (l := 0) (u := 0) p3 (by decide) (by decide)) ?_
                  refine g_n 2 (pc' := 6) (L' := [some (.ref 281), some (.int a), some (.int 3), some (.int c)]) (st' := [.int 2, .int a]) rfl ?_
                  refine g_brF (c := (2 : Int32) < a) (t := 21) (f := 9) (L' := [some (.ref 281), some (.int a), some (.int 3), some (.int c)]) (st' := []) rfl (x_Flt (l := 2) (u := 2) (by decide) p6 (by decide)) ?_
                  refine g_n 2 (pc' := 11) (L' := [some (.ref 281), some (.int a), some (.int 3), some (.int c)]) (st' := [.int 3, .ref 281]) rfl ?_
                  refine g_call (ins := .invokevirtual 1015) (len := 3) (j := 488) (as := [.ref 281, .int 3]) (rest := []) rfl rfl rfl rfl (fun _ => rfl) rfl ?_
                  refine g_in (M := x_M488) (L := [some (.ref 281), some (.int 3)]) x_pl488 rfl ?_
                  refine g_n 7 (pc' := 14) (L' := [some (.ref 281), some (.int 3)]) (st' := [.int 1]) rfl ?_
                  refine g_ret (ins := .ireturn) (len := 1) (r := (some (.int 1))) rfl rfl rfl ?_
                  refine g_n 2 (pc' := 18) (L' := [some (.ref 281), some (.int a), some (.int 3), some (.int c)]) (st' := [.int c]) rfl ?_
                  refine g_brT (c := (0 : Int32) ≤ c) (t := 23) (f := 21) (L' := [some (.ref 281), some (.int a), some (.int 3), some (.int c)]) (st' := []) rfl (x_Tle (u := 0) (l := 0) (by decide) p14 (by decide)) ?_
                  refine g_n 6 (pc' := 34) (L' := [some (.ref 281), some (.int a), some (.int 3), some (.int c)]) (st' := [.int (-2)]) rfl ?_
                  exact g_ret (ins := .ireturn) (len := 1) (r := (some (.int (-2)))) rfl rfl rfl ⟨_, rfl, rfl, (x_sv_rf _)⟩
          · have p28 : c.toInt ≤ -1 := x_up_lt (x_nle h13) (by decide)
            refine g_n 1 (pc' := 19) (L' := [some (.ref 0), some (.int a), some (.int b), some (.int c)]) (st' := [.int (-1)]) rfl ?_
            refine g_ret (ins := .ireturn) (len := 1) (r := (some (.int (-1)))) rfl rfl rfl ?_
            refine ⟨⟨_, rfl⟩, ?_⟩
            refine g_in (M := x_M716) (L := [some (.ref 281), some (.int a), some (.int b), some (.int c)]) x_pl716 rfl ?_
            refine g_n 1 (pc' := 1) (L' := [some (.ref 281), some (.int a), some (.int b), some (.int c)]) (st' := [.int a]) rfl ?_
            refine g_brF (c := a < (0 : Int32)) (t := 21) (f := 4) (L' := [some (.ref 281), some (.int a), some (.int b), some (.int c)]) (st' := []) rfl (x_Flt (l := 0) (u := 0) p3 (by decide) (by decide)) ?_
            refine g_n 2 (pc' := 6) (L' := [some (.ref 281), some (.int a), some (.int b), some (.int c)]) (st' := [.int 2, .int a]) rfl ?_
            refine g_brF (c := (2 : Int32) < a) (t := 21) (f := 9) (L' := [some (.ref 281), some (.int a), some (.int b), some (.int c)]) (st' := []) rfl (x_Flt (l := 2) (u := 2) (by decide) p6 (by decide)) ?_
            refine g_n 2 (pc' := 11) (L' := [some (.ref 281), some (.int a), some (.int b), some (.int c)]) (st' := [.int b, .ref 281]) rfl ?_
            refine g_call (ins := .invokevirtual 1015) (len := 3) (j := 488) (as := [.ref 281, .int b]) (rest := []) rfl rfl rfl rfl (fun _ => rfl) rfl ?_
            refine g_in (M := x_M488) (L := [some (.ref 281), some (.int b)]) x_pl488 rfl ?_
            refine g_n 1 (pc' := 1) (L' := [some (.ref 281), some (.int b)]) (st' := [.int b]) rfl ?_
            refine g_brF (c := b < (0 : Int32)) (t := 13) (f := 4) (L' := [some (.ref 281), some (.int b)]) (st' := []) rfl (x_Flt (l := 0) (u := 0) p9 (by decide) (by decide)) ?_
            refine g_n 2 (pc' := 6) (L' := [some (.ref 281), some (.int b)]) (st' := [.int 4, .int b]) rfl ?_
            refine g_brF (c := (4 : Int32) ≤ b) (t := 13) (f := 9) (L' := [some (.ref 281), some (.int b)]) (st' := []) rfl (x_Fle (l := 4) (u := 3) (by decide) p12 (by decide)) ?_
            refine g_n 2 (pc' := 14) (L' := [some (.ref 281), some (.int b)]) (st' := [.int 1]) rfl ?_
            refine g_ret (ins := .ireturn) (len := 1) (r := (some (.int 1))) rfl rfl rfl ?_
            refine g_n 2 (pc' := 18) (L' := [some (.ref 281), some (.int a), some (.int b), some (.int c)]) (st' := [.int c]) rfl ?_
            refine g_brF (c := (0 : Int32) ≤ c) (t := 23) (f := 21) (L' := [some (.ref 281), some (.int a), some (.int b), some (.int c)]) (st' := []) rfl (x_Fle (l := 0) (u := -1) (by decide) p28 (by decide)) ?_
            refine g_n 1 (pc' := 22) (L' := [some (.ref 281), some (.int a), some (.int b), some (.int c)]) (st' := [.int (-1)]) rfl ?_
            exact g_ret (ins := .ireturn) (len := 1) (r := (some (.int (-1)))) rfl rfl rfl ⟨_, rfl, rfl, (x_sv_rf _)⟩
set_option maxRecDepth 100000 in
set_option maxHeartbeats 4000000 in
theorem x_op36 {fi : Nat → Nat → Int32} {fl : Nat → Nat → Int64} {fr : Nat → Nat → Option Nat} (hF : x_F fl fr) (a b c : Int32) : x_ev 30 396 [.ref 0, .int a, .int b, .int c] (x_W fi fl fr) fun r S1 => (∃ fs, x_obj S1 281 = some (12, fs)) ∧ x_ev 30 719 [.ref 281, .int a, .int b, .int c] S1 (x_finI (x_W fi fl fr) r) := by
  refine g_in (M := x_M396) (L := [some (.ref 0), some (.int a), some (.int b), some (.int c), none, none, none]) x_pl396 rfl ?_
  refine g_n 1 (pc' := 1) (L' := [some (.ref 0), some (.int a), some (.int b), some (.int c), none, none, none]) (st' := [.int a]) rfl ?_
  refine g_call (ins := .invokestatic 407) (len := 3) (j := 350) (as := [.int a]) (rest := []) rfl rfl rfl rfl (fun _ => rfl) rfl ?_
  refine g_in (M := x_M350) (L := [some (.int a)]) x_pl350 rfl ?_
  refine g_n 1 (pc' := 1) (L' := [some (.int a)]) (st' := [.int a]) rfl ?_
  refine g_br (c := a < (0 : Int32)) (t := 13) (f := 4) (L' := [some (.int a)]) (st' := []) rfl (fun h1 => ?_) (fun h1 => ?_)
  · have p2 : a.toInt ≤ -1 := x_up_lt h1 (by decide)
    refine g_n 1 (pc' := 14) (L' := [some (.int a)]) (st' := [.int 0]) rfl ?_
    refine g_ret (ins := .ireturn) (len := 1) (r := (some (.int 0))) rfl rfl rfl ?_
    refine g_n 2 (pc' := 19) (L' := [some (.ref 0), some (.int a), some (.int b), some (.int c), none, none, none]) (st' := [.int (-1)]) rfl ?_
    refine g_ret (ins := .ireturn) (len := 1) (r := (some (.int (-1)))) rfl rfl rfl ?_
    refine ⟨⟨_, rfl⟩, ?_⟩
    refine g_in (M := x_M719) (L := [some (.ref 281), some (.int a), some (.int b), some (.int c), none, none, none, none, none]) x_pl719 rfl ?_
    refine g_n 1 (pc' := 1) (L' := [some (.ref 281), some (.int a), some (.int b), some (.int c), none, none, none, none, none]) (st' := [.int a]) rfl ?_
    refine g_brT (c := a < (0 : Int32)) (t := 21) (f := 4) (L' := [some (.ref 281), some (.int a), some (.int b), some (.int c), none, none, none, none, none]) (st' := []) rfl (x_Tlt (u := -1) (l := 0) p2 (by decide) (by decide)) ?_
    refine g_n 1 (pc' := 22) (L' := [some (.ref 281), some (.int a), some (.int b), some (.int c), none, none, none, none, none]) (st' := [.int (-1)]) rfl ?_
    exact g_ret (ins := .ireturn) (len := 1) (r := (some (.int (-1)))) rfl rfl rfl ⟨_, rfl, rfl, (x_sv_rf _)⟩
  · have p3 : 0 ≤ a.toInt := x_lo_le (x_nlt h1) (by decide)
    refine g_n 2 (pc' := 6) (L' := [some (.int a)]) (st' := [.int 3, .int a]) rfl ?_
    refine g_br (c := (3 : Int32) ≤ a) (t := 13) (f := 9) (L' := [some (.int a)]) (st' := []) rfl (fun h4 => ?_) (fun h4 => ?_)
    · have p5 : 3 ≤ a.toInt := x_lo_le h4 (by decide)
      refine g_n 1 (pc' := 14) (L' := [some (.int a)]) (st' := [.int 0]) rfl ?_
      refine g_ret (ins := .ireturn) (len := 1) (r := (some (.int 0))) rfl rfl rfl ?_
      refine g_n 2 (pc' := 19) (L' := [some (.ref 0), some (.int a), some (.int b), some (.int c), none, none, none]) (st' := [.int (-1)]) rfl ?_
      refine g_ret (ins := .ireturn) (len := 1) (r := (some (.int (-1)))) rfl rfl rfl ?_
      refine ⟨⟨_, rfl⟩, ?_⟩
      refine g_in (M := x_M719) (L := [some (.ref 281), some (.int a), some (.int b), some (.int c), none, none, none, none, none]) x_pl719 rfl ?_
      refine g_n 1 (pc' := 1) (L' := [some (.ref 281), some (.int a), some (.int b), some (.int c), none, none, none, none, none]) (st' := [.int a]) rfl ?_
      refine g_brF (c := a < (0 : Int32)) (t := 21) (f := 4) (L' := [some (.ref 281), some (.int a), some (.int b), some (.int c), none, none, none, none, none]) (st' := []) rfl (x_Flt (l := 3) (u := 0) p5 (by decide) (by decide)) ?_
      refine g_n 2 (pc' := 6) (L' := [some (.ref 281), some (.int a), some (.int b), some (.int c), none, none, none, none, none]) (st' := [.int 2, .int a]) rfl ?_
      refine g_brT (c := (2 : Int32) < a) (t := 21) (f := 9) (L' := [some (.ref 281), some (.int a), some (.int b), some (.int c), none, none, none, none, none]) (st' := []) rfl (x_Tlt (u := 2) (l := 3) (by decide) p5 (by decide)) ?_
      refine g_n 1 (pc' := 22) (L' := [some (.ref 281), some (.int a), some (.int b), some (.int c), none, none, none, none, none]) (st' := [.int (-1)]) rfl ?_
      exact g_ret (ins := .ireturn) (len := 1) (r := (some (.int (-1)))) rfl rfl rfl ⟨_, rfl, rfl, (x_sv_rf _)⟩
    · have p6 : a.toInt ≤ 2 := x_up_lt (x_nle h4) (by decide)
      refine g_n 2 (pc' := 14) (L' := [some (.int a)]) (st' := [.int 1]) rfl ?_
      refine g_ret (ins := .ireturn) (len := 1) (r := (some (.int 1))) rfl rfl rfl ?_
      refine g_n 2 (pc' := 8) (L' := [some (.ref 0), some (.int a), some (.int b), some (.int c), none, none, none]) (st' := [.int b]) rfl ?_
      refine g_br (c := b < (0 : Int32)) (t := 18) (f := 11) (L' := [some (.ref 0), some (.int a), some (.int b), some (.int c), none, none, none]) (st' := []) rfl (fun h7 => ?_) (fun h7 => ?_)
      · have p8 : b.toInt ≤ -1 := x_up_lt h7 (by decide)
        refine g_n 1 (pc' := 19) (L' := [some (.ref 0), some (.int a), some (.int b), some (.int c), none, none, none]) (st' := [.int (-1)]) rfl ?_
        refine g_ret (ins := .ireturn) (len := 1) (r := (some (.int (-1)))) rfl rfl rfl ?_
        refine ⟨⟨_, rfl⟩, ?_⟩
        refine g_in (M := x_M719) (L := [some (.ref 281), some (.int a), some (.int b), some (.int c), none, none, none, none, none]) x_pl719 rfl ?_
        refine g_n 1 (pc' := 1) (L' := [some (.ref 281), some (.int a), some (.int b), some (.int c), none, none, none, none, none]) (st' := [.int a]) rfl ?_
        refine g_brF (c := a < (0 : Int32)) (t := 21) (f := 4) (L' := [some (.ref 281), some (.int a), some (.int b), some (.int c), none, none, none, none, none]) (st' := []) rfl (x_Flt (l := 0) (u := 0) p3 (by decide) (by decide)) ?_
        refine g_n 2 (pc' := 6) (L' := [some (.ref 281), some (.int a), some (.int b), some (.int c), none, none, none, none, none]) (st' := [.int 2, .int a]) rfl ?_
        refine g_brF (c := (2 : Int32) < a) (t := 21) (f := 9) (L' := [some (.ref 281), some (.int a), some (.int b), some (.int c), none, none, none, none, none]) (st' := []) rfl (x_Flt (l := 2) (u := 2) (by decide) p6 (by decide)) ?_
        refine g_n 2 (pc' := 11) (L' := [some (.ref 281), some (.int a), some (.int b), some (.int c), none, none, none, none, none]) (st' := [.int c, .ref 281]) rfl ?_
        refine g_call (ins := .invokevirtual 1213) (len := 3) (j := 541) (as := [.ref 281, .int c]) (rest := []) rfl rfl rfl rfl (fun _ => rfl) rfl ?_
        refine g_in (M := x_M541) (L := [some (.ref 281), some (.int c)]) x_pl541 rfl ?_
        refine g_n 1 (pc' := 1) (L' := [some (.ref 281), some (.int c)]) (st' := [.int c]) rfl ?_
        refine g_br (c := c < (0 : Int32)) (t := 14) (f := 4) (L' := [some (.ref 281), some (.int c)]) (st' := []) rfl (fun h9 => ?_) (fun h9 => ?_)
        · have p10 : c.toInt ≤ -1 := x_up_lt h9 (by decide)
          refine g_n 1 (pc' := 15) (L' := [some (.ref 281), some (.int c)]) (st' := [.int 0]) rfl ?_
          refine g_ret (ins := .ireturn) (len := 1) (r := (some (.int 0))) rfl rfl rfl ?_
          refine g_n 2 (pc' := 22) (L' := [some (.ref 281), some (.int a), some (.int b), some (.int c), none, none, none, none, none]) (st' := [.int (-1)]) rfl ?_
          exact g_ret (ins := .ireturn) (len := 1) (r := (some (.int (-1)))) rfl rfl rfl ⟨_, rfl, rfl, (x_sv_rf _)⟩
        · have p11 : 0 ≤ c.toInt := x_lo_le (x_nlt h9) (by decide)
          refine g_n 2 (pc' := 7) (L' := [some (.ref 281), some (.int c)]) (st' := [.int 12, .int c]) rfl ?_
          refine g_br (c := (12 : Int32) ≤ c) (t := 14) (f := 10) (L' := [some (.ref 281), some (.int c)]) (st' := []) rfl (fun h12 => ?_) (fun h12 => ?_)
          · have p13 : 12 ≤ c.toInt := x_lo_le h12 (by decide)
            refine g_n 1 (pc' := 15) (L' := [some (.ref 281), some (.int c)]) (st' := [.int 0]) rfl ?_
            refine g_ret (ins := .ireturn) (len := 1) (r := (some (.int 0))) rfl rfl rfl ?_
            refine g_n 2 (pc' := 22) (L' := [some (.ref 281), some (.int a), some (.int b), some (.int c), none, none, none, none, none]) (st' := [.int (-1)]) rfl ?_
            exact g_ret (ins := .ireturn) (len := 1) (r := (some (.int (-1)))) rfl rfl rfl ⟨_, rfl, rfl, (x_sv_rf _)⟩
          · have p14 : c.toInt ≤ 11 := x_up_lt (x_nle h12) (by decide)
            refine g_n 2 (pc' := 15) (L' := [some (.ref 281), some (.int c)]) (st' := [.int 1]) rfl ?_
            refine g_ret (ins := .ireturn) (len := 1) (r := (some (.int 1))) rfl rfl rfl ?_
            refine g_n 2 (pc' := 18) (L' := [some (.ref 281), some (.int a), some (.int b), some (.int c), none, none, none, none, none]) (st' := [.int b]) rfl ?_
            refine g_brF (c := (0 : Int32) ≤ b) (t := 23) (f := 21) (L' := [some (.ref 281), some (.int a), some (.int b), some (.int c), none, none, none, none, none]) (st' := []) rfl (x_Fle (l := 0) (u := -1) (by decide) p8 (by decide)) ?_
            refine g_n 1 (pc' := 22) (L' := [some (.ref 281), some (.int a), some (.int b), some (.int c), none, none, none, none, none]) (st' := [.int (-1)]) rfl ?_
            exact g_ret (ins := .ireturn) (len := 1) (r := (some (.int (-1)))) rfl rfl rfl ⟨_, rfl, rfl, (x_sv_rf _)⟩
      · have p15 : 0 ≤ b.toInt := x_lo_le (x_nlt h7) (by decide)
        refine g_n 1 (pc' := 12) (L' := [some (.ref 0), some (.int a), some (.int b), some (.int c), none, none, none]) (st' := [.int c]) rfl ?_
        refine g_call (ins := .invokestatic 280) (len := 3) (j := 349) (as := [.int c]) (rest := []) rfl rfl rfl rfl (fun _ => rfl) rfl ?_
        refine g_in (M := x_M349) (L := [some (.int c)]) x_pl349 rfl ?_
        refine g_n 1 (pc' := 1) (L' := [some (.int c)]) (st' := [.int c]) rfl ?_
        refine g_br (c := c < (0 : Int32)) (t := 14) (f := 4) (L' := [some (.int c)]) (st' := []) rfl (fun h16 => ?_) (fun h16 => ?_)
        · have p17 : c.toInt ≤ -1 := x_up_lt h16 (by decide)
          refine g_n 1 (pc' := 15) (L' := [some (.int c)]) (st' := [.int 0]) rfl ?_
          refine g_ret (ins := .ireturn) (len := 1) (r := (some (.int 0))) rfl rfl rfl ?_
          refine g_n 2 (pc' := 19) (L' := [some (.ref 0), some (.int a), some (.int b), some (.int c), none, none, none]) (st' := [.int (-1)]) rfl ?_
          refine g_ret (ins := .ireturn) (len := 1) (r := (some (.int (-1)))) rfl rfl rfl ?_
          refine ⟨⟨_, rfl⟩, ?_⟩
          refine g_in (M := x_M719) (L := [some (.ref 281), some (.int a), some (.int b), some (.int c), none, none, none, none, none]) x_pl719 rfl ?_
          refine g_n 1 (pc' := 1) (L' := [some (.ref 281), some (.int a), some (.int b), some (.int c), none, none, none, none, none]) (st' := [.int a]) rfl ?_
          refine g_brF (c := a < (0 : Int32)) (t := 21) (f := 4) (L' := [some (.ref 281), some (.int a), some (.int b), some (.int c), none, none, none, none, none]) (st' := []) rfl (x_Flt (l := 0) (u := 0) p3 (by decide) (by decide)) ?_
          refine g_n 2 (pc' := 6) (L' := [some (.ref 281), some (.int a), some (.int b), some (.int c), none, none, none, none, none]) (st' := [.int 2, .int a]) rfl ?_
          refine g_brF (c := (2 : Int32) < a) (t := 21) (f := 9) (L' := [some (.ref 281), some (.int a), some (.int b), some (.int c), none, none, none, none, none]) (st' := []) rfl (x_Flt (l := 2) (u := 2) (by decide) p6 (by decide)) ?_
          refine g_n 2 (pc' := 11) (L' := [some (.ref 281), some (.int a), some (.int b), some (.int c), none, none, none, none, none]) (st' := [.int c, .ref 281]) rfl ?_
          refine g_call (ins := .invokevirtual 1213) (len := 3) (j := 541) (as := [.ref 281, .int c]) (rest := []) rfl rfl rfl rfl (fun _ => rfl) rfl ?_
          refine g_in (M := x_M541) (L := [some (.ref 281), some (.int c)]) x_pl541 rfl ?_
          refine g_n 1 (pc' := 1) (L' := [some (.ref 281), some (.int c)]) (st' := [.int c]) rfl ?_
          refine g_brT (c := c < (0 : Int32)) (t := 14) (f := 4) (L' := [some (.ref 281), some (.int c)]) (st' := []) rfl (x_Tlt (u := -1) (l := 0) p17 (by decide) (by decide)) ?_
          refine g_n 1 (pc' := 15) (L' := [some (.ref 281), some (.int c)]) (st' := [.int 0]) rfl ?_
          refine g_ret (ins := .ireturn) (len := 1) (r := (some (.int 0))) rfl rfl rfl ?_
          refine g_n 2 (pc' := 22) (L' := [some (.ref 281), some (.int a), some (.int b), some (.int c), none, none, none, none, none]) (st' := [.int (-1)]) rfl ?_
          exact g_ret (ins := .ireturn) (len := 1) (r := (some (.int (-1)))) rfl rfl rfl ⟨_, rfl, rfl, (x_sv_rf _)⟩
        · have p18 : 0 ≤ c.toInt := x_lo_le (x_nlt h16) (by decide)
          refine g_n 2 (pc' := 7) (L' := [some (.int c)]) (st' := [.int 12, .int c]) rfl ?_
          refine g_br (c := (12 : Int32) ≤ c) (t := 14) (f := 10) (L' := [some (.int c)]) (st' := []) rfl (fun h19 => ?_) (fun h19 => ?_)
          · have p20 : 12 ≤ c.toInt := x_lo_le h19 (by decide)
            refine g_n 1 (pc' := 15) (L' := [some (.int c)]) (st' := [.int 0]) rfl ?_
            refine g_ret (ins := .ireturn) (len := 1) (r := (some (.int 0))) rfl rfl rfl ?_
            refine g_n 2 (pc' := 19) (L' := [some (.ref 0), some (.int a), some (.int b), some (.int c), none, none, none]) (st' := [.int (-1)]) rfl ?_
            refine g_ret (ins := .ireturn) (len := 1) (r := (some (.int (-1)))) rfl rfl rfl ?_
            refine ⟨⟨_, rfl⟩, ?_⟩
            refine g_in (M := x_M719) (L := [some (.ref 281), some (.int a), some (.int b), some (.int c), none, none, none, none, none]) x_pl719 rfl ?_
            refine g_n 1 (pc' := 1) (L' := [some (.ref 281), some (.int a), some (.int b), some (.int c), none, none, none, none, none]) (st' := [.int a]) rfl ?_
            refine g_brF (c := a < (0 : Int32)) (t := 21) (f := 4) (L' := [some (.ref 281), some (.int a), some (.int b), some (.int c), none, none, none, none, none]) (st' := []) rfl (x_Flt (l := 0) (u := 0) p3 (by decide) (by decide)) ?_
            refine g_n 2 (pc' := 6) (L' := [some (.ref 281), some (.int a), some (.int b), some (.int c), none, none, none, none, none]) (st' := [.int 2, .int a]) rfl ?_
            refine g_brF (c := (2 : Int32) < a) (t := 21) (f := 9) (L' := [some (.ref 281), some (.int a), some (.int b), some (.int c), none, none, none, none, none]) (st' := []) rfl (x_Flt (l := 2) (u := 2) (by decide) p6 (by decide)) ?_
            refine g_n 2 (pc' := 11) (L' := [some (.ref 281), some (.int a), some (.int b), some (.int c), none, none, none, none, none]) (st' := [.int c, .ref 281]) rfl ?_
            refine g_call (ins := .invokevirtual 1213) (len := 3) (j := 541) (as := [.ref 281, .int c]) (rest := []) rfl rfl rfl rfl (fun _ => rfl) rfl ?_
            refine g_in (M := x_M541) (L := [some (.ref 281), some (.int c)]) x_pl541 rfl ?_
            refine g_n 1 (pc' := 1) (L' := [some (.ref 281), some (.int c)]) (st' := [.int c]) rfl ?_
            refine g_brF (c := c < (0 : Int32)) (t := 14) (f := 4) (L' := [some (.ref 281), some (.int c)]) (st' := []) rfl (x_Flt (l := 12) (u := 0) p20 (by decide) (by decide)) ?_
            refine g_n 2 (pc' := 7) (L' := [some (.ref 281), some (.int c)]) (st' := [.int 12, .int c]) rfl ?_
            refine g_brT (c := (12 : Int32) ≤ c) (t := 14) (f := 10) (L' := [some (.ref 281), some (.int c)]) (st' := []) rfl (x_Tle (u := 12) (l := 12) (by decide) p20 (by decide)) ?_
            refine g_n 1 (pc' := 15) (L' := [some (.ref 281), some (.int c)]) (st' := [.int 0]) rfl ?_
            refine g_ret (ins := .ireturn) (len := 1) (r := (some (.int 0))) rfl rfl rfl ?_
            refine g_n 2 (pc' := 22) (L' := [some (.ref 281), some (.int a), some (.int b), some (.int c), none, none, none, none, none]) (st' := [.int (-1)]) rfl ?_
            exact g_ret (ins := .ireturn) (len := 1) (r := (some (.int (-1)))) rfl rfl rfl ⟨_, rfl, rfl, (x_sv_rf _)⟩
          · have p21 : c.toInt ≤ 11 := x_up_lt (x_nle h19) (by decide)
            refine g_n 2 (pc' := 15) (L' := [some (.int c)]) (st' := [.int 1]) rfl ?_
            refine g_ret (ins := .ireturn) (len := 1) (r := (some (.int 1))) rfl rfl rfl ?_
            refine g_n 3 (pc' := 22) (L' := [some (.ref 0), some (.int a), some (.int b), some (.int c), none, none, none]) (st' := [.int a, .ref 0]) rfl ?_
            refine g_call (ins := .invokevirtual 419) (len := 3) (j := 395) (as := [.ref 0, .int a]) (rest := []) rfl rfl rfl rfl (fun _ => rfl) rfl ?_
            refine g_in (M := x_M395) (L := [some (.ref 0), some (.int a), none]) x_pl395 rfl ?_
            refine g_n 5 (pc' := 9) (L' := [some (.ref 0), some (.int a), none]) (st' := [.int 0, .int a, .ref 255]) rfl ?_
            refine g_call (ins := .invokevirtual 210) (len := 3) (j := 263) (as := [.ref 255, .int a, .int 0]) (rest := []) rfl rfl rfl rfl (fun _ => rfl) rfl ?_
            refine g_in (M := x_M263) (L := [some (.ref 255), some (.int a), some (.int 0), none]) x_pl263 rfl ?_
            refine g_n 1 (pc' := 1) (L' := [some (.ref 255), some (.int a), some (.int 0), none]) (st' := [.int a]) rfl ?_
            refine g_brF (c := a < (0 : Int32)) (t := 35) (f := 4) (L' := [some (.ref 255), some (.int a), some (.int 0), none]) (st' := []) rfl (x_Flt (l := 0) (u := 0) p3 (by decide) (by decide)) ?_
            refine g_n 3 (pc' := 9) (L' := [some (.ref 255), some (.int a), some (.int 0), none]) (st' := [.int 3, .int a]) rfl ?_
            refine g_brF (c := (3 : Int32) ≤ a) (t := 35) (f := 12) (L' := [some (.ref 255), some (.int a), some (.int 0), none]) (st' := []) rfl (x_Fle (l := 3) (u := 2) (by decide) p6 (by decide)) ?_
            refine g_n 9 (pc' := 29) (L' := [some (.ref 255), some (.int a), some (.int 0), none]) (st' := [.int 6, .int a]) rfl ?_
            by_cases h22 : a = 0
            · have e23 : a = 0 := h22
              subst e23
              refine g_n 15 (pc' := 55) (L' := [some (.ref 255), some (.int 0), some (.int 0), some (.int 0)]) (st' := [.int 0, .ref 256]) rfl ?_
              refine g_la (i := 0) (a := 256) (n := 18) (v := 0) rfl rfl (by decide) (x_at (x_f256 hF) (k := 0) rfl) ?_
              refine g_n 2 (pc' := 61) (L' := [some (.ref 255), some (.int 0), some (.int 0), some (.int 0)]) (st' := [.int 0]) rfl ?_
              refine g_ret (ins := .ireturn) (len := 1) (r := (some (.int 0))) rfl rfl rfl ?_
              refine g_n 2 (pc' := 14) (L' := [some (.ref 0), some (.int 0), some (.int 0)]) (st' := [.int 0]) rfl ?_
              refine g_call (ins := .invokestatic 173) (len := 3) (j := 348) (as := [.int 0]) (rest := []) rfl rfl rfl rfl (fun _ => rfl) rfl ?_
              refine g_in (M := x_M348) (L := [some (.int 0)]) x_pl348 rfl ?_
              refine g_n 7 (pc' := 14) (L' := [some (.int 0)]) (st' := [.int 1]) rfl ?_
              refine g_ret (ins := .ireturn) (len := 1) (r := (some (.int 1))) rfl rfl rfl ?_
              refine g_n 3 (pc' := 25) (L' := [some (.ref 0), some (.int 0), some (.int 0)]) (st' := [.int 0]) rfl ?_
              refine g_ret (ins := .ireturn) (len := 1) (r := (some (.int 0))) rfl rfl rfl ?_
              refine g_n 6 (pc' := 36) (L' := [some (.ref 0), some (.int 0), some (.int b), some (.int c), some (.int 0), none, none]) (st' := [.int 1, .int 0, .ref 255]) rfl ?_
              refine g_call (ins := .invokevirtual 210) (len := 3) (j := 263) (as := [.ref 255, .int 0, .int 1]) (rest := []) rfl rfl rfl rfl (fun _ => rfl) rfl ?_
              refine g_in (M := x_M263) (L := [some (.ref 255), some (.int 0), some (.int 1), none]) x_pl263 rfl ?_
              refine g_n 30 (pc' := 55) (L' := [some (.ref 255), some (.int 0), some (.int 1), some (.int 1)]) (st' := [.int 1, .ref 256]) rfl ?_
              refine g_la (i := 1) (a := 256) (n := 18) (v := 0) rfl rfl (by decide) (x_at (x_f256 hF) (k := 1) rfl) ?_
              refine g_n 2 (pc' := 61) (L' := [some (.ref 255), some (.int 0), some (.int 1), some (.int 1)]) (st' := [.int 0]) rfl ?_
              refine g_ret (ins := .ireturn) (len := 1) (r := (some (.int 0))) rfl rfl rfl ?_
              refine g_n 4 (pc' := 47) (L' := [some (.ref 0), some (.int 0), some (.int b), some (.int c), some (.int 0), some (.int 0), none]) (st' := [.int 0, .ref 2]) rfl ?_
              refine g_aa (i := 0) (a := 2) (n := 4) (v := 27) rfl rfl (by decide) (x_at (x_f2 hF) (k := 0) rfl) ?_
              refine g_n 4 (pc' := 55) (L' := [some (.ref 0), some (.int 0), some (.int b), some (.int c), some (.int 0), some (.int 0), some (.ref 27)]) (st' := [.int 0, .ref 248]) rfl ?_
              refine g_call (ins := .invokevirtual 422) (len := 3) (j := 76) (as := [.ref 248, .int 0]) (rest := []) rfl rfl rfl rfl (fun _ => rfl) rfl ?_
              refine g_in (M := x_M76) (L := [some (.ref 248), some (.int 0)]) x_pl76 rfl ?_
              refine g_n 4 (pc' := 6) (L' := [some (.ref 248), some (.int 0)]) (st' := [.int 4, .int 0, .ref 255]) rfl ?_
              refine g_call (ins := .invokevirtual 95) (len := 3) (j := 263) (as := [.ref 255, .int 0, .int 4]) (rest := []) rfl rfl rfl rfl (fun _ => rfl) rfl ?_
              refine g_in (M := x_M263) (L := [some (.ref 255), some (.int 0), some (.int 4), none]) x_pl263 rfl ?_
              refine g_n 30 (pc' := 55) (L' := [some (.ref 255), some (.int 0), some (.int 4), some (.int 4)]) (st' := [.int 4, .ref 256]) rfl ?_
              refine g_la (i := 4) (a := 256) (n := 18) (v := 0) rfl rfl (by decide) (x_at (x_f256 hF) (k := 4) rfl) ?_
              refine g_n 2 (pc' := 61) (L' := [some (.ref 255), some (.int 0), some (.int 4), some (.int 4)]) (st' := [.int 0]) rfl ?_
              refine g_ret (ins := .ireturn) (len := 1) (r := (some (.int 0))) rfl rfl rfl ?_
              refine g_n 3 (pc' := 18) (L' := [some (.ref 248), some (.int 0)]) (st' := [.int 0]) rfl ?_
              refine g_ret (ins := .ireturn) (len := 1) (r := (some (.int 0))) rfl rfl rfl ?_
              refine g_n 4 (pc' := 79) (L' := [some (.ref 0), some (.int 0), some (.int b), some (.int c), some (.int 0), some (.int 0), some (.ref 27)]) (st' := [.int 0, .ref 248]) rfl ?_
              refine g_call (ins := .invokevirtual 422) (len := 3) (j := 76) (as := [.ref 248, .int 0]) (rest := []) rfl rfl rfl rfl (fun _ => rfl) rfl ?_
              refine g_in (M := x_M76) (L := [some (.ref 248), some (.int 0)]) x_pl76 rfl ?_
              refine g_n 4 (pc' := 6) (L' := [some (.ref 248), some (.int 0)]) (st' := [.int 4, .int 0, .ref 255]) rfl ?_
              refine g_call (ins := .invokevirtual 95) (len := 3) (j := 263) (as := [.ref 255, .int 0, .int 4]) (rest := []) rfl rfl rfl rfl (fun _ => rfl) rfl ?_
              refine g_in (M := x_M263) (L := [some (.ref 255), some (.int 0), some (.int 4), none]) x_pl263 rfl ?_
              refine g_n 30 (pc' := 55) (L' := [some (.ref 255), some (.int 0), some (.int 4), some (.int 4)]) (st' := [.int 4, .ref 256]) rfl ?_
              refine g_la (i := 4) (a := 256) (n := 18) (v := 0) rfl rfl (by decide) (x_at (x_f256 hF) (k := 4) rfl) ?_
              refine g_n 2 (pc' := 61) (L' := [some (.ref 255), some (.int 0), some (.int 4), some (.int 4)]) (st' := [.int 0]) rfl ?_
              refine g_ret (ins := .ireturn) (len := 1) (r := (some (.int 0))) rfl rfl rfl ?_
              refine g_n 3 (pc' := 18) (L' := [some (.ref 248), some (.int 0)]) (st' := [.int 0]) rfl ?_
              refine g_ret (ins := .ireturn) (len := 1) (r := (some (.int 0))) rfl rfl rfl ?_
              refine g_n 2 (pc' := 159) (L' := [some (.ref 0), some (.int 0), some (.int b), some (.int c), some (.int 0), some (.int 0), some (.ref 27)]) (st' := [.int (-2)]) rfl ?_
              refine g_ret (ins := .ireturn) (len := 1) (r := (some (.int (-2)))) rfl rfl rfl ?_
              refine ⟨⟨_, rfl⟩, ?_⟩
              refine g_in (M := x_M719) (L := [some (.ref 281), some (.int 0), some (.int b), some (.int c), none, none, none, none, none]) x_pl719 rfl ?_
              refine g_n 7 (pc' := 11) (L' := [some (.ref 281), some (.int 0), some (.int b), some (.int c), none, none, none, none, none]) (st' := [.int c, .ref 281]) rfl ?_
              refine g_call (ins := .invokevirtual 1213) (len := 3) (j := 541) (as := [.ref 281, .int c]) (rest := []) rfl rfl rfl rfl (fun _ => rfl) rfl ?_
              refine g_in (M := x_M541) (L := [some (.ref 281), some (.int c)]) x_pl541 rfl ?_
              refine g_n 1 (pc' := 1) (L' := [some (.ref 281), some (.int c)]) (st' := [.int c]) rfl ?_
              refine g_brF (c := c < (0 : Int32)) (t := 14) (f := 4) (L' := [some (.ref 281), some (.int c)]) (st' := []) rfl (x_Flt (l := 0) (u := 0) p18 (by decide) (by decide)) ?_
              refine g_n 2 (pc' := 7) (L' := [some (.ref 281), some (.int c)]) (st' := [.int 12, .int c]) rfl ?_
              refine g_brF (c := (12 : Int32) ≤ c) (t := 14) (f := 10) (L' := [some (.ref 281), some (.int c)]) (st' := []) rfl (x_Fle (l := 12) (u := 11) (by decide) p21 (by decide)) ?_
              refine g_n 2 (pc' := 15) (L' := [some (.ref 281), some (.int c)]) (st' := [.int 1]) rfl ?_
              refine g_ret (ins := .ireturn) (len := 1) (r := (some (.int 1))) rfl rfl rfl ?_
              refine g_n 2 (pc' := 18) (L' := [some (.ref 281), some (.int 0), some (.int b), some (.int c), none, none, none, none, none]) (st' := [.int b]) rfl ?_
              refine g_brT (c := (0 : Int32) ≤ b) (t := 23) (f := 21) (L' := [some (.ref 281), some (.int 0), some (.int b), some (.int c), none, none, none, none, none]) (st' := []) rfl (x_Tle (u := 0) (l := 0) (by decide) p15 (by decide)) ?_
              refine g_n 6 (pc' := 34) (L' := [some (.ref 281), some (.int 0), some (.int b), some (.int c), none, none, none, none, none]) (st' := [.int (-2)]) rfl ?_
              exact g_ret (ins := .ireturn) (len := 1) (r := (some (.int (-2)))) rfl rfl rfl ⟨_, rfl, rfl, (x_sv_rf _)⟩
            · have q24 : ¬ a = 0 := h22
              have p25 : 1 ≤ a.toInt := x_lo_ne q24 p3 (by decide)
              by_cases h26 : a = 1
              · have e27 : a = 1 := h26
                subst e27
                refine g_n 15 (pc' := 55) (L' := [some (.ref 255), some (.int 1), some (.int 0), some (.int 6)]) (st' := [.int 6, .ref 256]) rfl ?_
                refine g_la (i := 6) (a := 256) (n := 18) (v := 0) rfl rfl (by decide) (x_at (x_f256 hF) (k := 6) rfl) ?_
                refine g_n 2 (pc' := 61) (L' := [some (.ref 255), some (.int 1), some (.int 0), some (.int 6)]) (st' := [.int 0]) rfl ?_
                refine g_ret (ins := .ireturn) (len := 1) (r := (some (.int 0))) rfl rfl rfl ?_
                refine g_n 2 (pc' := 14) (L' := [some (.ref 0), some (.int 1), some (.int 0)]) (st' := [.int 0]) rfl ?_
                refine g_call (ins := .invokestatic 173) (len := 3) (j := 348) (as := [.int 0]) (rest := []) rfl rfl rfl rfl (fun _ => rfl) rfl ?_
                refine g_in (M := x_M348) (L := [some (.int 0)]) x_pl348 rfl ?_
                refine g_n 7 (pc' := 14) (L' := [some (.int 0)]) (st' := [.int 1]) rfl ?_
                refine g_ret (ins := .ireturn) (len := 1) (r := (some (.int 1))) rfl rfl rfl ?_
                refine g_n 3 (pc' := 25) (L' := [some (.ref 0), some (.int 1), some (.int 0)]) (st' := [.int 0]) rfl ?_
                refine g_ret (ins := .ireturn) (len := 1) (r := (some (.int 0))) rfl rfl rfl ?_
                refine g_n 6 (pc' := 36) (L' := [some (.ref 0), some (.int 1), some (.int b), some (.int c), some (.int 0), none, none]) (st' := [.int 1, .int 1, .ref 255]) rfl ?_
                refine g_call (ins := .invokevirtual 210) (len := 3) (j := 263) (as := [.ref 255, .int 1, .int 1]) (rest := []) rfl rfl rfl rfl (fun _ => rfl) rfl ?_
                refine g_in (M := x_M263) (L := [some (.ref 255), some (.int 1), some (.int 1), none]) x_pl263 rfl ?_
                refine g_n 30 (pc' := 55) (L' := [some (.ref 255), some (.int 1), some (.int 1), some (.int 7)]) (st' := [.int 7, .ref 256]) rfl ?_
                refine g_la (i := 7) (a := 256) (n := 18) (v := 0) rfl rfl (by decide) (x_at (x_f256 hF) (k := 7) rfl) ?_
                refine g_n 2 (pc' := 61) (L' := [some (.ref 255), some (.int 1), some (.int 1), some (.int 7)]) (st' := [.int 0]) rfl ?_
                refine g_ret (ins := .ireturn) (len := 1) (r := (some (.int 0))) rfl rfl rfl ?_
                refine g_n 4 (pc' := 47) (L' := [some (.ref 0), some (.int 1), some (.int b), some (.int c), some (.int 0), some (.int 0), none]) (st' := [.int 0, .ref 2]) rfl ?_
                refine g_aa (i := 0) (a := 2) (n := 4) (v := 27) rfl rfl (by decide) (x_at (x_f2 hF) (k := 0) rfl) ?_
                refine g_n 4 (pc' := 55) (L' := [some (.ref 0), some (.int 1), some (.int b), some (.int c), some (.int 0), some (.int 0), some (.ref 27)]) (st' := [.int 1, .ref 248]) rfl ?_
                refine g_call (ins := .invokevirtual 422) (len := 3) (j := 76) (as := [.ref 248, .int 1]) (rest := []) rfl rfl rfl rfl (fun _ => rfl) rfl ?_
                refine g_in (M := x_M76) (L := [some (.ref 248), some (.int 1)]) x_pl76 rfl ?_
                refine g_n 4 (pc' := 6) (L' := [some (.ref 248), some (.int 1)]) (st' := [.int 4, .int 1, .ref 255]) rfl ?_
                refine g_call (ins := .invokevirtual 95) (len := 3) (j := 263) (as := [.ref 255, .int 1, .int 4]) (rest := []) rfl rfl rfl rfl (fun _ => rfl) rfl ?_
                refine g_in (M := x_M263) (L := [some (.ref 255), some (.int 1), some (.int 4), none]) x_pl263 rfl ?_
                refine g_n 30 (pc' := 55) (L' := [some (.ref 255), some (.int 1), some (.int 4), some (.int 10)]) (st' := [.int 10, .ref 256]) rfl ?_
                refine g_la (i := 10) (a := 256) (n := 18) (v := 0) rfl rfl (by decide) (x_at (x_f256 hF) (k := 10) rfl) ?_
                refine g_n 2 (pc' := 61) (L' := [some (.ref 255), some (.int 1), some (.int 4), some (.int 10)]) (st' := [.int 0]) rfl ?_
                refine g_ret (ins := .ireturn) (len := 1) (r := (some (.int 0))) rfl rfl rfl ?_
                refine g_n 3 (pc' := 18) (L' := [some (.ref 248), some (.int 1)]) (st' := [.int 0]) rfl ?_
                refine g_ret (ins := .ireturn) (len := 1) (r := (some (.int 0))) rfl rfl rfl ?_
                refine g_n 4 (pc' := 79) (L' := [some (.ref 0), some (.int 1), some (.int b), some (.int c), some (.int 0), some (.int 0), some (.ref 27)]) (st' := [.int 1, .ref 248]) rfl ?_
                refine g_call (ins := .invokevirtual 422) (len := 3) (j := 76) (as := [.ref 248, .int 1]) (rest := []) rfl rfl rfl rfl (fun _ => rfl) rfl ?_
                refine g_in (M := x_M76) (L := [some (.ref 248), some (.int 1)]) x_pl76 rfl ?_
                refine g_n 4 (pc' := 6) (L' := [some (.ref 248), some (.int 1)]) (st' := [.int 4, .int 1, .ref 255]) rfl ?_
                refine g_call (ins := .invokevirtual 95) (len := 3) (j := 263) (as := [.ref 255, .int 1, .int 4]) (rest := []) rfl rfl rfl rfl (fun _ => rfl) rfl ?_
                refine g_in (M := x_M263) (L := [some (.ref 255), some (.int 1), some (.int 4), none]) x_pl263 rfl ?_
                refine g_n 30 (pc' := 55) (L' := [some (.ref 255), some (.int 1), some (.int 4), some (.int 10)]) (st' := [.int 10, .ref 256]) rfl ?_
                refine g_la (i := 10) (a := 256) (n := 18) (v := 0) rfl rfl (by decide) (x_at (x_f256 hF) (k := 10) rfl) ?_
                refine g_n 2 (pc' := 61) (L' := [some (.ref 255), some (.int 1), some (.int 4), some (.int 10)]) (st' := [.int 0]) rfl ?_
                refine g_ret (ins := .ireturn) (len := 1) (r := (some (.int 0))) rfl rfl rfl ?_
                refine g_n 3 (pc' := 18) (L' := [some (.ref 248), some (.int 1)]) (st' := [.int 0]) rfl ?_
                refine g_ret (ins := .ireturn) (len := 1) (r := (some (.int 0))) rfl rfl rfl ?_
                refine g_n 2 (pc' := 159) (L' := [some (.ref 0), some (.int 1), some (.int b), some (.int c), some (.int 0), some (.int 0), some (.ref 27)]) (st' := [.int (-2)]) rfl ?_
                refine g_ret (ins := .ireturn) (len := 1) (r := (some (.int (-2)))) rfl rfl rfl ?_
                refine ⟨⟨_, rfl⟩, ?_⟩
                refine g_in (M := x_M719) (L := [some (.ref 281), some (.int 1), some (.int b), some (.int c), none, none, none, none, none]) x_pl719 rfl ?_
                refine g_n 7 (pc' := 11) (L' := [some (.ref 281), some (.int 1), some (.int b), some (.int c), none, none, none, none, none]) (st' := [.int c, .ref 281]) rfl ?_
                refine g_call (ins := .invokevirtual 1213) (len := 3) (j := 541) (as := [.ref 281, .int c]) (rest := []) rfl rfl rfl rfl (fun _ => rfl) rfl ?_
                refine g_in (M := x_M541) (L := [some (.ref 281), some (.int c)]) x_pl541 rfl ?_
                refine g_n 1 (pc' := 1) (L' := [some (.ref 281), some (.int c)]) (st' := [.int c]) rfl ?_
                refine g_brF (c := c < (0 : Int32)) (t := 14) (f := 4) (L' := [some (.ref 281), some (.int c)]) (st' := []) rfl (x_Flt (l := 0) (u := 0) p18 (by decide) (by decide)) ?_
                refine g_n 2 (pc' := 7) (L' := [some (.ref 281), some (.int c)]) (st' := [.int 12, .int c]) rfl ?_
                refine g_brF (c := (12 : Int32) ≤ c) (t := 14) (f := 10) (L' := [some (.ref 281), some (.int c)]) (st' := []) rfl (x_Fle (l := 12) (u := 11) (by decide) p21 (by decide)) ?_
                refine g_n 2 (pc' := 15) (L' := [some (.ref 281), some (.int c)]) (st' := [.int 1]) rfl ?_
                refine g_ret (ins := .ireturn) (len := 1) (r := (some (.int 1))) rfl rfl rfl ?_
                refine g_n 2 (pc' := 18) (L' := [some (.ref 281), some (.int 1), some (.int b), some (.int c), none, none, none, none, none]) (st' := [.int b]) rfl ?_
                refine g_brT (c := (0 : Int32) ≤ b) (t := 23) (f := 21) (L' := [some (.ref 281), some (.int 1), some (.int b), some (.int c), none, none, none, none, none]) (st' := []) rfl (x_Tle (u := 0) (l := 0) (by decide) p15 (by decide)) ?_
                refine g_n 6 (pc' := 34) (L' := [some (.ref 281), some (.int 1), some (.int b), some (.int c), none, none, none, none, none]) (st' := [.int (-2)]) rfl ?_
                exact g_ret (ins := .ireturn) (len := 1) (r := (some (.int (-2)))) rfl rfl rfl ⟨_, rfl, rfl, (x_sv_rf _)⟩
              · have q28 : ¬ a = 1 := h26
                have p29 : 2 ≤ a.toInt := x_lo_ne q28 p25 (by decide)
                have e30 : a = 2 := x_sing p29 p6 (by decide)
                subst e30
                refine g_n 15 (pc' := 55) (L' := [some (.ref 255), some (.int 2), some (.int 0), some (.int 12)]) (st' := [.int 12, .ref 256]) rfl ?_
                refine g_la (i := 12) (a := 256) (n := 18) (v := 0) rfl rfl (by decide) (x_at (x_f256 hF) (k := 12) rfl) ?_
                refine g_n 2 (pc' := 61) (L' := [some (.ref 255), some (.int 2), some (.int 0), some (.int 12)]) (st' := [.int 0]) rfl ?_
                refine g_ret (ins := .ireturn) (len := 1) (r := (some (.int 0))) rfl rfl rfl ?_
                refine g_n 2 (pc' := 14) (L' := [some (.ref 0), some (.int 2), some (.int 0)]) (st' := [.int 0]) rfl ?_
                refine g_call (ins := .invokestatic 173) (len := 3) (j := 348) (as := [.int 0]) (rest := []) rfl rfl rfl rfl (fun _ => rfl) rfl ?_
                refine g_in (M := x_M348) (L := [some (.int 0)]) x_pl348 rfl ?_
                refine g_n 7 (pc' := 14) (L' := [some (.int 0)]) (st' := [.int 1]) rfl ?_
                refine g_ret (ins := .ireturn) (len := 1) (r := (some (.int 1))) rfl rfl rfl ?_
                refine g_n 3 (pc' := 25) (L' := [some (.ref 0), some (.int 2), some (.int 0)]) (st' := [.int 0]) rfl ?_
                refine g_ret (ins := .ireturn) (len := 1) (r := (some (.int 0))) rfl rfl rfl ?_
                refine g_n 6 (pc' := 36) (L' := [some (.ref 0), some (.int 2), some (.int b), some (.int c), some (.int 0), none, none]) (st' := [.int 1, .int 2, .ref 255]) rfl ?_
                refine g_call (ins := .invokevirtual 210) (len := 3) (j := 263) (as := [.ref 255, .int 2, .int 1]) (rest := []) rfl rfl rfl rfl (fun _ => rfl) rfl ?_
                refine g_in (M := x_M263) (L := [some (.ref 255), some (.int 2), some (.int 1), none]) x_pl263 rfl ?_
                refine g_n 30 (pc' := 55) (L' := [some (.ref 255), some (.int 2), some (.int 1), some (.int 13)]) (st' := [.int 13, .ref 256]) rfl ?_
                refine g_la (i := 13) (a := 256) (n := 18) (v := 0) rfl rfl (by decide) (x_at (x_f256 hF) (k := 13) rfl) ?_
                refine g_n 2 (pc' := 61) (L' := [some (.ref 255), some (.int 2), some (.int 1), some (.int 13)]) (st' := [.int 0]) rfl ?_
                refine g_ret (ins := .ireturn) (len := 1) (r := (some (.int 0))) rfl rfl rfl ?_
                refine g_n 4 (pc' := 47) (L' := [some (.ref 0), some (.int 2), some (.int b), some (.int c), some (.int 0), some (.int 0), none]) (st' := [.int 0, .ref 2]) rfl ?_
                refine g_aa (i := 0) (a := 2) (n := 4) (v := 27) rfl rfl (by decide) (x_at (x_f2 hF) (k := 0) rfl) ?_
                refine g_n 4 (pc' := 55) (L' := [some (.ref 0), some (.int 2), some (.int b), some (.int c), some (.int 0), some (.int 0), some (.ref 27)]) (st' := [.int 2, .ref 248]) rfl ?_
                refine g_call (ins := .invokevirtual 422) (len := 3) (j := 76) (as := [.ref 248, .int 2]) (rest := []) rfl rfl rfl rfl (fun _ => rfl) rfl ?_
                refine g_in (M := x_M76) (L := [some (.ref 248), some (.int 2)]) x_pl76 rfl ?_
                refine g_n 4 (pc' := 6) (L' := [some (.ref 248), some (.int 2)]) (st' := [.int 4, .int 2, .ref 255]) rfl ?_
                refine g_call (ins := .invokevirtual 95) (len := 3) (j := 263) (as := [.ref 255, .int 2, .int 4]) (rest := []) rfl rfl rfl rfl (fun _ => rfl) rfl ?_
                refine g_in (M := x_M263) (L := [some (.ref 255), some (.int 2), some (.int 4), none]) x_pl263 rfl ?_
                refine g_n 30 (pc' := 55) (L' := [some (.ref 255), some (.int 2), some (.int 4), some (.int 16)]) (st' := [.int 16, .ref 256]) rfl ?_
                refine g_la (i := 16) (a := 256) (n := 18) (v := 0) rfl rfl (by decide) (x_at (x_f256 hF) (k := 16) rfl) ?_
                refine g_n 2 (pc' := 61) (L' := [some (.ref 255), some (.int 2), some (.int 4), some (.int 16)]) (st' := [.int 0]) rfl ?_
                refine g_ret (ins := .ireturn) (len := 1) (r := (some (.int 0))) rfl rfl rfl ?_
                refine g_n 3 (pc' := 18) (L' := [some (.ref 248), some (.int 2)]) (st' := [.int 0]) rfl ?_
                refine g_ret (ins := .ireturn) (len := 1) (r := (some (.int 0))) rfl rfl rfl ?_
                refine g_n 4 (pc' := 79) (L' := [some (.ref 0), some (.int 2), some (.int b), some (.int c), some (.int 0), some (.int 0), some (.ref 27)]) (st' := [.int 2, .ref 248]) rfl ?_
                refine g_call (ins := .invokevirtual 422) (len := 3) (j := 76) (as := [.ref 248, .int 2]) (rest := []) rfl rfl rfl rfl (fun _ => rfl) rfl ?_
                refine g_in (M := x_M76) (L := [some (.ref 248), some (.int 2)]) x_pl76 rfl ?_
                refine g_n 4 (pc' := 6) (L' := [some (.ref 248), some (.int 2)]) (st' := [.int 4, .int 2, .ref 255]) rfl ?_
                refine g_call (ins := .invokevirtual 95) (len := 3) (j := 263) (as := [.ref 255, .int 2, .int 4]) (rest := []) rfl rfl rfl rfl (fun _ => rfl) rfl ?_
                refine g_in (M := x_M263) (L := [some (.ref 255), some (.int 2), some (.int 4), none]) x_pl263 rfl ?_
                refine g_n 30 (pc' := 55) (L' := [some (.ref 255), some (.int 2), some (.int 4), some (.int 16)]) (st' := [.int 16, .ref 256]) rfl ?_
                refine g_la (i := 16) (a := 256) (n := 18) (v := 0) rfl rfl (by decide) (x_at (x_f256 hF) (k := 16) rfl) ?_
                refine g_n 2 (pc' := 61) (L' := [some (.ref 255), some (.int 2), some (.int 4), some (.int 16)]) (st' := [.int 0]) rfl ?_
                refine g_ret (ins := .ireturn) (len := 1) (r := (some (.int 0))) rfl rfl rfl ?_
                refine g_n 3 (pc' := 18) (L' := [some (.ref 248), some (.int 2)]) (st' := [.int 0]) rfl ?_
                refine g_ret (ins := .ireturn) (len := 1) (r := (some (.int 0))) rfl rfl rfl ?_
                refine g_n 2 (pc' := 159) (L' := [some (.ref 0), some (.int 2), some (.int b), some (.int c), some (.int 0), some (.int 0), some (.ref 27)]) (st' := [.int (-2)]) rfl ?_
                refine g_ret (ins := .ireturn) (len := 1) (r := (some (.int (-2)))) rfl rfl rfl ?_
                refine ⟨⟨_, rfl⟩, ?_⟩
                refine g_in (M := x_M719) (L := [some (.ref 281), some (.int 2), some (.int b), some (.int c), none, none, none, none, none]) x_pl719 rfl ?_
                refine g_n 7 (pc' := 11) (L' := [some (.ref 281), some (.int 2), some (.int b), some (.int c), none, none, none, none, none]) (st' := [.int c, .ref 281]) rfl ?_
                refine g_call (ins := .invokevirtual 1213) (len := 3) (j := 541) (as := [.ref 281, .int c]) (rest := []) rfl rfl rfl rfl (fun _ => rfl) rfl ?_
                refine g_in (M := x_M541) (L := [some (.ref 281), some (.int c)]) x_pl541 rfl ?_
                refine g_n 1 (pc' := 1) (L' := [some (.ref 281), some (.int c)]) (st' := [.int c]) rfl ?_
                refine g_brF (c := c < (0 : Int32)) (t := 14) (f := 4) (L' := [some (.ref 281), some (.int c)]) (st' := []) rfl (x_Flt (l := 0) (u := 0) p18 (by decide) (by decide)) ?_
                refine g_n 2 (pc' := 7) (L' := [some (.ref 281), some (.int c)]) (st' := [.int 12, .int c]) rfl ?_
                refine g_brF (c := (12 : Int32) ≤ c) (t := 14) (f := 10) (L' := [some (.ref 281), some (.int c)]) (st' := []) rfl (x_Fle (l := 12) (u := 11) (by decide) p21 (by decide)) ?_
                refine g_n 2 (pc' := 15) (L' := [some (.ref 281), some (.int c)]) (st' := [.int 1]) rfl ?_
                refine g_ret (ins := .ireturn) (len := 1) (r := (some (.int 1))) rfl rfl rfl ?_
                refine g_n 2 (pc' := 18) (L' := [some (.ref 281), some (.int 2), some (.int b), some (.int c), none, none, none, none, none]) (st' := [.int b]) rfl ?_
                refine g_brT (c := (0 : Int32) ≤ b) (t := 23) (f := 21) (L' := [some (.ref 281), some (.int 2), some (.int b), some (.int c), none, none, none, none, none]) (st' := []) rfl (x_Tle (u := 0) (l := 0) (by decide) p15 (by decide)) ?_
                refine g_n 6 (pc' := 34) (L' := [some (.ref 281), some (.int 2), some (.int b), some (.int c), none, none, none, none, none]) (st' := [.int (-2)]) rfl ?_
                exact g_ret (ins := .ireturn) (len := 1) (r := (some (.int (-2)))) rfl rfl rfl ⟨_, rfl, rfl, (x_sv_rf _)⟩
