/-! First calls on the fresh objects. -/
set_option maxRecDepth 100000 in
set_option maxHeartbeats 4000000 in
theorem x_op23 {fi : Nat → Nat → Int32} {fl : Nat → Nat → Int64} {fr : Nat → Nat → Option Nat} (hF : x_F fl fr) (a b c : Int32) : x_ev 30 382 [.ref 0, .int a, .int b, .int c] (x_W fi fl fr) fun r S1 => (∃ fs, x_obj S1 281 = some (12, fs)) ∧ x_ev 30 643 [.ref 281, .int a, .int b, .int c] S1 (x_finI (x_W fi fl fr) r) := by
  refine g_in (M := x_M382) (L := [some (.ref 0), some (.int a), some (.int b), some (.int c)]) x_pl382 rfl ?_
  refine g_n 1 (pc' := 1) (L' := [some (.ref 0), some (.int a), some (.int b), some (.int c)]) (st' := [.int a]) rfl ?_
  refine g_call (ins := .invokestatic 280) (len := 3) (j := 349) (as := [.int a]) (rest := []) rfl rfl rfl rfl (fun _ => rfl) rfl ?_
  refine g_in (M := x_M349) (L := [some (.int a)]) x_pl349 rfl ?_
  refine g_n 1 (pc' := 1) (L' := [some (.int a)]) (st' := [.int a]) rfl ?_
  refine g_br (c := a < (0 : Int32)) (t := 14) (f := 4) (L' := [some (.int a)]) (st' := []) rfl (fun h1 => ?_) (fun h1 => ?_)
  · have p2 : a.toInt ≤ -1 := x_up_lt h1 (by decide)
    refine g_n 1 (pc' := 15) (L' := [some (.int a)]) (st' := [.int 0]) rfl ?_
    refine g_ret (ins := .ireturn) (len := 1) (r := (some (.int 0))) rfl rfl rfl ?_
    refine g_n 2 (pc' := 22) (L' := [some (.ref 0), some (.int a), some (.int b), some (.int c)]) (st' := [.int (-1)]) rfl ?_
    refine g_ret (ins := .ireturn) (len := 1) (r := (some (.int (-1)))) rfl rfl rfl ?_
    refine ⟨⟨_, rfl⟩, ?_⟩
    refine g_in (M := x_M643) (L := [some (.ref 281), some (.int a), some (.int b), some (.int c)]) x_pl643 rfl ?_
    refine g_n 2 (pc' := 2) (L' := [some (.ref 281), some (.int a), some (.int b), some (.int c)]) (st' := [.int a, .ref 281]) rfl ?_
    refine g_call (ins := .invokevirtual 1213) (len := 3) (j := 541) (as := [.ref 281, .int a]) (rest := []) rfl rfl rfl rfl (fun _ => rfl) rfl ?_
    refine g_in (M := x_M541) (L := [some (.ref 281), some (.int a)]) x_pl541 rfl ?_
    refine g_n 1 (pc' := 1) (L' := [some (.ref 281), some (.int a)]) (st' := [.int a]) rfl ?_
    refine g_brT (c := a < (0 : Int32)) (t := 14) (f := 4) (L' := [some (.ref 281), some (.int a)]) (st' := []) rfl (x_Tlt (u := -1) (l := 0) p2 (by decide) (by decide)) ?_
    refine g_n 1 (pc' := 15) (L' := [some (.ref 281), some (.int a)]) (st' := [.int 0]) rfl ?_
    refine g_ret (ins := .ireturn) (len := 1) (r := (some (.int 0))) rfl rfl rfl ?_
    refine g_n 2 (pc' := 26) (L' := [some (.ref 281), some (.int a), some (.int b), some (.int c)]) (st' := [.int (-1)]) rfl ?_
    exact g_ret (ins := .ireturn) (len := 1) (r := (some (.int (-1)))) rfl rfl rfl ⟨_, rfl, rfl, (x_sv_rf _)⟩
  · have p3 : 0 ≤ a.toInt := x_lo_le (x_nlt h1) (by decide)
    refine g_n 2 (pc' := 7) (L' := [some (.int a)]) (st' := [.int 12, .int a]) rfl ?_
    refine g_br (c := (12 : Int32) ≤ a) (t := 14) (f := 10) (L' := [some (.int a)]) (st' := []) rfl (fun h4 => ?_) (fun h4 => ?_)
    · have p5 : 12 ≤ a.toInt := x_lo_le h4 (by decide)
      refine g_n 1 (pc' := 15) (L' := [some (.int a)]) (st' := [.int 0]) rfl ?_
      refine g_ret (ins := .ireturn) (len := 1) (r := (some (.int 0))) rfl rfl rfl ?_
      refine g_n 2 (pc' := 22) (L' := [some (.ref 0), some (.int a), some (.int b), some (.int c)]) (st' := [.int (-1)]) rfl ?_
      refine g_ret (ins := .ireturn) (len := 1) (r := (some (.int (-1)))) rfl rfl rfl ?_
      refine ⟨⟨_, rfl⟩, ?_⟩
      refine g_in (M := x_M643) (L := [some (.ref 281), some (.int a), some (.int b), some (.int c)]) x_pl643 rfl ?_
      refine g_n 2 (pc' := 2) (L' := [some (.ref 281), some (.int a), some (.int b), some (.int c)]) (st' := [.int a, .ref 281]) rfl ?_
      refine g_call (ins := .invokevirtual 1213) (len := 3) (j := 541) (as := [.ref 281, .int a]) (rest := []) rfl rfl rfl rfl (fun _ => rfl) rfl ?_
      refine g_in (M := x_M541) (L := [some (.ref 281), some (.int a)]) x_pl541 rfl ?_
      refine g_n 1 (pc' := 1) (L' := [some (.ref 281), some (.int a)]) (st' := [.int a]) rfl ?_
      refine g_brF (c := a < (0 : Int32)) (t := 14) (f := 4) (L' := [some (.ref 281), some (.int a)]) (st' := []) rfl (x_Flt (l := 12) (u := 0) p5 (by decide) (by decide)) ?_
      refine g_n 2 (pc' := 7) (L' := [some (.ref 281), some (.int a)]) (st' := [.int 12, .int a]) rfl ?_
      refine g_brT (c := (12 : Int32) ≤ a) (t := 14) (f := 10) (L' := [some (.ref 281), some (.int a)]) (st' := []) rfl (x_Tle (u := 12) (l := 12) (by decide) p5 (by decide)) ?_
      refine g_n 1 (pc' := 15) (L' := [some (.ref 281), some (.int a)]) (st' := [.int 0]) rfl ?_
      refine g_ret (ins := .ireturn) (len := 1) (r := (some (.int 0))) rfl rfl rfl ?_
      refine g_n 2 (pc' := 26) (L' := [some (.ref 281), some (.int a), some (.int b), some (.int c)]) (st' := [.int (-1)]) rfl ?_
      exact g_ret (ins := .ireturn) (len := 1) (r := (some (.int (-1)))) rfl rfl rfl ⟨_, rfl, rfl, (x_sv_rf _)⟩
    · have p6 : a.toInt ≤ 11 := x_up_lt (x_nle h4) (by decide)
      refine g_n 2 (pc' := 15) (L' := [some (.int a)]) (st' := [.int 1]) rfl ?_
      refine g_ret (ins := .ireturn) (len := 1) (r := (some (.int 1))) rfl rfl rfl ?_
      refine g_n 2 (pc' := 8) (L' := [some (.ref 0), some (.int a), some (.int b), some (.int c)]) (st' := [.int b]) rfl ?_
      refine g_call (ins := .invokestatic 354) (len := 3) (j := 351) (as := [.int b]) (rest := []) rfl rfl rfl rfl (fun _ => rfl) rfl ?_
      refine g_in (M := x_M351) (L := [some (.int b)]) x_pl351 rfl ?_
      refine g_n 1 (pc' := 1) (L' := [some (.int b)]) (st' := [.int b]) rfl ?_
      refine g_br (c := b < (0 : Int32)) (t := 13) (f := 4) (L' := [some (.int b)]) (st' := []) rfl (fun h7 => ?_) (fun h7 => ?_)
      · have p8 : b.toInt ≤ -1 := x_up_lt h7 (by decide)
        refine g_n 1 (pc' := 14) (L' := [some (.int b)]) (st' := [.int 0]) rfl ?_
        refine g_ret (ins := .ireturn) (len := 1) (r := (some (.int 0))) rfl rfl rfl ?_
        refine g_n 2 (pc' := 22) (L' := [some (.ref 0), some (.int a), some (.int b), some (.int c)]) (st' := [.int (-1)]) rfl ?_
        refine g_ret (ins := .ireturn) (len := 1) (r := (some (.int (-1)))) rfl rfl rfl ?_
        refine ⟨⟨_, rfl⟩, ?_⟩
        refine g_in (M := x_M643) (L := [some (.ref 281), some (.int a), some (.int b), some (.int c)]) x_pl643 rfl ?_
        refine g_n 2 (pc' := 2) (L' := [some (.ref 281), some (.int a), some (.int b), some (.int c)]) (st' := [.int a, .ref 281]) rfl ?_
        refine g_call (ins := .invokevirtual 1213) (len := 3) (j := 541) (as := [.ref 281, .int a]) (rest := []) rfl rfl rfl rfl (fun _ => rfl) rfl ?_
        refine g_in (M := x_M541) (L := [some (.ref 281), some (.int a)]) x_pl541 rfl ?_
        refine g_n 1 (pc' := 1) (L' := [some (.ref 281), some (.int a)]) (st' := [.int a]) rfl ?_
        refine g_brF (c := a < (0 : Int32)) (t := 14) (f := 4) (L' := [some (.ref 281), some (.int a)]) (st' := []) rfl (x_Flt (l := 0) (u := 0) p3 (by decide) (by decide)) ?_
        refine g_n 2 (pc' := 7) (L' := [some (.ref 281), some (.int a)]) (st' := [.int 12, .int a]) rfl ?_
        refine g_brF (c := (12 : Int32) ≤ a) (t := 14) (f := 10) (L' := [some (.ref 281), some (.int a)]) (st' := []) rfl (x_Fle (l := 12) (u := 11) (by decide) p6 (by decide)) ?_
        refine g_n 2 (pc' := 15) (L' := [some (.ref 281), some (.int a)]) (st' := [.int 1]) rfl ?_
        refine g_ret (ins := .ireturn) (len := 1) (r := (some (.int 1))) rfl rfl rfl ?_
        refine g_n 2 (pc' := 9) (L' := [some (.ref 281), some (.int a), some (.int b), some (.int c)]) (st' := [.int b]) rfl ?_
        refine g_brT (c := b < (0 : Int32)) (t := 25) (f := 12) (L' := [some (.ref 281), some (.int a), some (.int b), some (.int c)]) (st' := []) rfl (x_Tlt (u := -1) (l := 0) p8 (by decide) (by decide)) ?_
        refine g_n 1 (pc' := 26) (L' := [some (.ref 281), some (.int a), some (.int b), some (.int c)]) (st' := [.int (-1)]) rfl ?_
        exact g_ret (ins := .ireturn) (len := 1) (r := (some (.int (-1)))) rfl rfl rfl ⟨_, rfl, rfl, (x_sv_rf _)⟩
      · have p9 : 0 ≤ b.toInt := x_lo_le (x_nlt h7) (by decide)
        refine g_n 2 (pc' := 6) (L' := [some (.int b)]) (st' := [.int 2, .int b]) rfl ?_
        refine g_br (c := (2 : Int32) < b) (t := 13) (f := 9) (L' := [some (.int b)]) (st' := []) rfl (fun h10 => ?_) (fun h10 => ?_)
        · have p11 : 3 ≤ b.toInt := x_lo_lt h10 (by decide)
          refine g_n 1 (pc' := 14) (L' := [some (.int b)]) (st' := [.int 0]) rfl ?_
          refine g_ret (ins := .ireturn) (len := 1) (r := (some (.int 0))) rfl rfl rfl ?_
          refine g_n 2 (pc' := 22) (L' := [some (.ref 0), some (.int a), some (.int b), some (.int c)]) (st' := [.int (-1)]) rfl ?_
          refine g_ret (ins := .ireturn) (len := 1) (r := (some (.int (-1)))) rfl rfl rfl ?_
          refine ⟨⟨_, rfl⟩, ?_⟩
          refine g_in (M := x_M643) (L := [some (.ref 281), some (.int a), some (.int b), some (.int c)]) x_pl643 rfl ?_
          refine g_n 2 (pc' := 2) (L' := [some (.ref 281), some (.int a), some (.int b), some (.int c)]) (st' := [.int a, .ref 281]) rfl ?_
          refine g_call (ins := .invokevirtual 1213) (len := 3) (j := 541) (as := [.ref 281, .int a]) (rest := []) rfl rfl rfl rfl (fun _ => rfl) rfl ?_
          refine g_in (M := x_M541) (L := [some (.ref 281), some (.int a)]) x_pl541 rfl ?_
          refine g_n 1 (pc' := 1) (L' := [some (.ref 281), some (.int a)]) (st' := [.int a]) rfl ?_
          refine g_brF (c := a < (0 : Int32)) (t := 14) (f := 4) (L' := [some (.ref 281), some (.int a)]) (st' := []) rfl (x_Flt (l := 0) (u := 0) p3 (by decide) (by decide)) ?_
          refine g_n 2 (pc' := 7) (L' := [some (.ref 281), some (.int a)]) (st' := [.int 12, .int a]) rfl ?_
          refine g_brF (c := (12 : Int32) ≤ a) (t := 14) (f := 10) (L' := [some (.ref 281), some (.int a)]) (st' := []) rfl (x_Fle (l := 12) (u := 11) (by decide) p6 (by decide)) ?_
          refine g_n 2 (pc' := 15) (L' := [some (.ref 281), some (.int a)]) (st' := [.int 1]) rfl ?_
          refine g_ret (ins := .ireturn) (len := 1) (r := (some (.int 1))) rfl rfl rfl ?_
          refine g_n 2 (pc' := 9) (L' := [some (.ref 281), some (.int a), some (.int b), some (.int c)]) (st' := [.int b]) rfl ?_
          refine g_brF (c := b < (0 : Int32)) (t := 25) (f := 12) (L' := [some (.ref 281), some (.int a), some (.int b), some (.int c)]) (st' := []) rfl (x_Flt (l := 3) (u := 0) p11 (by decide) (by decide)) ?_
          refine g_n 2 (pc' := 14) (L' := [some (.ref 281), some (.int a), some (.int b), some (.int c)]) (st' := [.int 2, .int b]) rfl ?_
          refine g_brT (c := (2 : Int32) < b) (t := 25) (f := 17) (L' := [some (.ref 281), some (.int a), some (.int b), some (.int c)]) (st' := []) rfl (x_Tlt (u := 2) (l := 3) (by decide) p11 (by decide)) ?_
          refine g_n 1 (pc' := 26) (L' := [some (.ref 281), some (.int a), some (.int b), some (.int c)]) (st' := [.int (-1)]) rfl ?_
          exact g_ret (ins := .ireturn) (len := 1) (r := (some (.int (-1)))) rfl rfl rfl ⟨_, rfl, rfl, (x_sv_rf _)⟩
        · have p12 : b.toInt ≤ 2 := x_up_le (x_nlt h10) (by decide)
          refine g_n 2 (pc' := 14) (L' := [some (.int b)]) (st' := [.int 1]) rfl ?_
          refine g_ret (ins := .ireturn) (len := 1) (r := (some (.int 1))) rfl rfl rfl ?_
          refine g_n 2 (pc' := 15) (L' := [some (.ref 0), some (.int a), some (.int b), some (.int c)]) (st' := [.int c]) rfl ?_
          refine g_call (ins := .invokestatic 150) (len := 3) (j := 347) (as := [.int c]) (rest := []) rfl rfl rfl rfl (fun _ => rfl) rfl ?_
          refine g_in (M := x_M347) (L := [some (.int c)]) x_pl347 rfl ?_
          refine g_n 1 (pc' := 1) (L' := [some (.int c)]) (st' := [.int c]) rfl ?_
          refine g_br (c := c < (0 : Int32)) (t := 14) (f := 4) (L' := [some (.int c)]) (st' := []) rfl (fun h13 => ?_) (fun h13 => ?_)
          · have p14 : c.toInt ≤ -1 := x_up_lt h13 (by decide)
            refine g_n 1 (pc' := 15) (L' := [some (.int c)]) (st' := [.int 0]) rfl ?_
            refine g_ret (ins := .ireturn) (len := 1) (r := (some (.int 0))) rfl rfl rfl ?_
            refine g_n 2 (pc' := 22) (L' := [some (.ref 0), some (.int a), some (.int b), some (.int c)]) (st' := [.int (-1)]) rfl ?_
            refine g_ret (ins := .ireturn) (len := 1) (r := (some (.int (-1)))) rfl rfl rfl ?_
            refine ⟨⟨_, rfl⟩, ?_⟩
            refine g_in (M := x_M643) (L := [some (.ref 281), some (.int a), some (.int b), some (.int c)]) x_pl643 rfl ?_
            refine g_n 2 (pc' := 2) (L' := [some (.ref 281), some (.int a), some (.int b), some (.int c)]) (st' := [.int a, .ref 281]) rfl ?_
            refine g_call (ins := .invokevirtual 1213) (len := 3) (j := 541) (as := [.ref 281, .int a]) (rest := []) rfl rfl rfl rfl (fun _ => rfl) rfl ?_
            refine g_in (M := x_M541) (L := [some (.ref 281), some (.int a)]) x_pl541 rfl ?_
            refine g_n 1 (pc' := 1) (L' := [some (.ref 281), some (.int a)]) (st' := [.int a]) rfl ?_
            refine g_brF (c := a < (0 : Int32)) (t := 14) (f := 4) (L' := [some (.ref 281), some (.int a)]) (st' := []) rfl (x_Flt (l := 0) (u := 0) p3 (by decide) (by decide)) ?_
            refine g_n 2 (pc' := 7) (L' := [some (.ref 281), some (.int a)]) (st' := [.int 12, .int a]) rfl ?_
            refine g_brF (c := (12 : Int32) ≤ a) (t := 14) (f := 10) (L' := [some (.ref 281), some (.int a)]) (st' := []) rfl (x_Fle (l := 12) (u := 11) (by decide) p6 (by decide)) ?_
            refine g_n 2 (pc' := 15) (L' := [some (.ref 281), some (.int a)]) (st' := [.int 1]) rfl ?_
            refine g_ret (ins := .ireturn) (len := 1) (r := (some (.int 1))) rfl rfl rfl ?_
            refine g_n 2 (pc' := 9) (L' := [some (.ref 281), some (.int a), some (.int b), some (.int c)]) (st' := [.int b]) rfl ?_
            refine g_brF (c := b < (0 : Int32)) (t := 25) (f := 12) (L' := [some (.ref 281), some (.int a), some (.int b), some (.int c)]) (st' := []) rfl (x_Flt (l := 0) (u := 0) p9 (by decide) (by decide)) ?_
            refine g_n 2 (pc' := 14) (L' := [some (.ref 281), some (.int a), some (.int b), some (.int c)]) (st' := [.int 2, .int b]) rfl ?_
            refine g_brF (c := (2 : Int32) < b) (t := 25) (f := 17) (L' := [some (.ref 281), some (.int a), some (.int b), some (.int c)]) (st' := []) rfl (x_Flt (l := 2) (u := 2) (by decide) p12 (by decide)) ?_
            refine g_n 2 (pc' := 19) (L' := [some (.ref 281), some (.int a), some (.int b), some (.int c)]) (st' := [.int c, .ref 281]) rfl ?_
            refine g_call (ins := .invokevirtual 671) (len := 3) (j := 411) (as := [.ref 281, .int c]) (rest := []) rfl rfl rfl rfl (fun _ => rfl) rfl ?_
            refine g_in (M := x_M411) (L := [some (.ref 281), some (.int c)]) x_pl411 rfl ?_
            refine g_n 1 (pc' := 1) (L' := [some (.ref 281), some (.int c)]) (st' := [.int c]) rfl ?_
            refine g_brT (c := c < (0 : Int32)) (t := 14) (f := 4) (L' := [some (.ref 281), some (.int c)]) (st' := []) rfl (x_Tlt (u := -1) (l := 0) p14 (by decide) (by decide)) ?_
            refine g_n 1 (pc' := 15) (L' := [some (.ref 281), some (.int c)]) (st' := [.int 0]) rfl ?_
            refine g_ret (ins := .ireturn) (len := 1) (r := (some (.int 0))) rfl rfl rfl ?_
            refine g_n 2 (pc' := 26) (L' := [some (.ref 281), some (.int a), some (.int b), some (.int c)]) (st' := [.int (-1)]) rfl ?_
            exact g_ret (ins := .ireturn) (len := 1) (r := (some (.int (-1)))) rfl rfl rfl ⟨_, rfl, rfl, (x_sv_rf _)⟩
          · have p15 : 0 ≤ c.toInt := x_lo_le (x_nlt h13) (by decide)
            refine g_n 2 (pc' := 7) (L' := [some (.int c)]) (st' := [.int 8, .int c]) rfl ?_
            refine g_br (c := (8 : Int32) ≤ c) (t := 14) (f := 10) (L' := [some (.int c)]) (st' := []) rfl (fun h16 => ?_) (fun h16 => ?_)
            · have p17 : 8 ≤ c.toInt := x_lo_le h16 (by decide)
              refine g_n 1 (pc' := 15) (L' := [some (.int c)]) (st' := [.int 0]) rfl ?_
              refine g_ret (ins := .ireturn) (len := 1) (r := (some (.int 0))) rfl rfl rfl ?_
              refine g_n 2 (pc' := 22) (L' := [some (.ref 0), some (.int a), some (.int b), some (.int c)]) (st' := [.int (-1)]) rfl ?_
              refine g_ret (ins := .ireturn) (len := 1) (r := (some (.int (-1)))) rfl rfl rfl ?_
              refine ⟨⟨_, rfl⟩, ?_⟩
              refine g_in (M := x_M643) (L := [some (.ref 281), some (.int a), some (.int b), some (.int c)]) x_pl643 rfl ?_
              refine g_n 2 (pc' := 2) (L' := [some (.ref 281), some (.int a), some (.int b), some (.int c)]) (st' := [.int a, .ref 281]) rfl ?_
              refine g_call (ins := .invokevirtual 1213) (len := 3) (j := 541) (as := [.ref 281, .int a]) (rest := []) rfl rfl rfl rfl (fun _ => rfl) rfl ?_
              refine g_in (M := x_M541) (L := [some (.ref 281), some (.int a)]) x_pl541 rfl ?_
              refine g_n 1 (pc' := 1) (L' := [some (.ref 281), some (.int a)]) (st' := [.int a]) rfl ?_
              refine g_brF (c := a < (0 : Int32)) (t := 14) (f := 4) (L' := [some (.ref 281), some (.int a)]) (st' := []) rfl (x_Flt (l := 0) (u := 0) p3 (by decide) (by decide)) ?_
              refine g_n 2 (pc' := 7) (L' := [some (.ref 281), some (.int a)]) (st' := [.int 12, .int a]) rfl ?_
              refine g_brF (c := (12 : Int32) ≤ a) (t := 14) (f := 10) (L' := [some (.ref 281), some (.int a)]) (st' := []) rfl (x_Fle (l := 12) (u := 11) (by decide) p6 (by decide)) ?_
              refine g_n 2 (pc' := 15) (L' := [some (.ref 281), some (.int a)]) (st' := [.int 1]) rfl ?_
              refine g_ret (ins := .ireturn) (len := 1) (r := (some (.int 1))) rfl rfl rfl ?_
              refine g_n 2 (pc' := 9) (L' := [some (.ref 281), some (.int a), some (.int b), some (.int c)]) (st' := [.int b]) rfl ?_
              refine g_brF (c := b < (0 : Int32)) (t := 25) (f := 12) (L' := [some (.ref 281), some (.int a), some (.int b), some (.int c)]) (st' := []) rfl (x_Flt (l := 0) (u := 0) p9 (by decide) (by decide)) ?_
              refine g_n 2 (pc' := 14) (L' := [some (.ref 281), some (.int a), some (.int b), some (.int c)]) (st' := [.int 2, .int b]) rfl ?_
              refine g_brF (c := (2 : Int32) < b) (t := 25) (f := 17) (L' := [some (.ref 281), some (.int a), some (.int b), some (.int c)]) (st' := []) rfl (x_Flt (l := 2) (u := 2) (by decide) p12 (by decide)) ?_
              refine g_n 2 (pc' := 19) (L' := [some (.ref 281), some (.int a), some (.int b), some (.int c)]) (st' := [.int c, .ref 281]) rfl ?_
              refine g_call (ins := .invokevirtual 671) (len := 3) (j := 411) (as := [.ref 281, .int c]) (rest := []) rfl rfl rfl rfl (fun _ => rfl) rfl ?_
              refine g_in (M := x_M411) (L := [some (.ref 281), some (.int c)]) x_pl411 rfl ?_
              refine g_n 1 (pc' := 1) (L' := [some (.ref 281), some (.int c)]) (st' := [.int c]) rfl ?_
              refine g_brF (c := c < (0 : Int32)) (t := 14) (f := 4) (L' := [some (.ref 281), some (.int c)]) (st' := []) rfl (x_Flt (l := 8) (u := 0) p17 (by decide) (by decide)) ?_
              refine g_n 2 (pc' := 7) (L' := [some (.ref 281), some (.int c)]) (st' := [.int 8, .int c]) rfl ?_
              refine g_brT (c := (8 : Int32) ≤ c) (t := 14) (f := 10) (L' := [some (.ref 281), some (.int c)]) (st' := []) rfl (x_Tle (u := 8) (l := 8) (by decide) p17 (by decide)) ?_
              refine g_n 1 (pc' := 15) (L' := [some (.ref 281), some (.int c)]) (st' := [.int 0]) rfl ?_
              refine g_ret (ins := .ireturn) (len := 1) (r := (some (.int 0))) rfl rfl rfl ?_
              refine g_n 2 (pc' := 26) (L' := [some (.ref 281), some (.int a), some (.int b), some (.int c)]) (st' := [.int (-1)]) rfl ?_
              exact g_ret (ins := .ireturn) (len := 1) (r := (some (.int (-1)))) rfl rfl rfl ⟨_, rfl, rfl, (x_sv_rf _)⟩
            · have p18 : c.toInt ≤ 7 := x_up_lt (x_nle h16) (by decide)
              refine g_n 2 (pc' := 15) (L' := [some (.int c)]) (st' := [.int 1]) rfl ?_
              refine g_ret (ins := .ireturn) (len := 1) (r := (some (.int 1))) rfl rfl rfl ?_
              refine g_n 4 (pc' := 28) (L' := [some (.ref 0), some (.int a), some (.int b), some (.int c)]) (st' := [.int a, .ref 3]) rfl ?_
              by_cases h19 : a = 0
              · have e20 : a = 0 := h19
                subst e20
                refine g_aa (i := 0) (a := 3) (n := 12) (v := 119) rfl rfl (by decide) (x_at (x_f3 hF) (k := 0) rfl) ?_
                refine g_n 3 (pc' := 56) (L' := [some (.ref 0), some (.int 0), some (.int b), some (.int c)]) (st' := [.int (-2)]) rfl ?_
                refine g_ret (ins := .ireturn) (len := 1) (r := (some (.int (-2)))) rfl rfl rfl ?_
                refine ⟨⟨_, rfl⟩, ?_⟩
                refine g_in (M := x_M643) (L := [some (.ref 281), some (.int 0), some (.int b), some (.int c)]) x_pl643 rfl ?_
                refine g_n 2 (pc' := 2) (L' := [some (.ref 281), some (.int 0), some (.int b), some (.int c)]) (st' := [.int 0, .ref 281]) rfl ?_
                refine g_call (ins := .invokevirtual 1213) (len := 3) (j := 541) (as := [.ref 281, .int 0]) (rest := []) rfl rfl rfl rfl (fun _ => rfl) rfl ?_
                refine g_in (M := x_M541) (L := [some (.ref 281), some (.int 0)]) x_pl541 rfl ?_
                refine g_n 7 (pc' := 15) (L' := [some (.ref 281), some (.int 0)]) (st' := [.int 1]) rfl ?_
                refine g_ret (ins := .ireturn) (len := 1) (r := (some (.int 1))) rfl rfl rfl ?_
                refine g_n 2 (pc' := 9) (L' := [some (.ref 281), some (.int 0), some (.int b), some (.int c)]) (st' := [.int b]) rfl ?_
                refine g_brF (c := b < (0 : Int32)) (t := 25) (f := 12) (L' := [some (.ref 281), some (.int 0), some (.int b), some (.int c)]) (st' := []) rfl (x_Flt (l := 0) (u := 0) p9 (by decide) (by decide)) ?_
                refine g_n 2 (pc' := 14) (L' := [some (.ref 281), some (.int 0), some (.int b), some (.int c)]) (st' := [.int 2, .int b]) rfl ?_
                refine g_brF (c := (2 : Int32) < b) (t := 25) (f := 17) (L' := [some (.ref 281), some (.int 0), some (.int b), some (.int c)]) (st' := []) rfl (x_Flt (l := 2) (u := 2) (by decide) p12 (by decide)) ?_
                refine g_n 2 (pc' := 19) (L' := [some (.ref 281), some (.int 0), some (.int b), some (.int c)]) (st' := [.int c, .ref 281]) rfl ?_
                refine g_call (ins := .invokevirtual 671) (len := 3) (j := 411) (as := [.ref 281, .int c]) (rest := []) rfl rfl rfl rfl (fun _ => rfl) rfl ?_
                refine g_in (M := x_M411) (L := [some (.ref 281), some (.int c)]) x_pl411 rfl ?_
                refine g_n 1 (pc' := 1) (L' := [some (.ref 281), some (.int c)]) (st' := [.int c]) rfl ?_
                refine g_brF (c := c < (0 : Int32)) (t := 14) (f := 4) (L' := [some (.ref 281), some (.int c)]) (st' := []) rfl (x_Flt (l := 0) (u := 0) p15 (by decide) (by decide)) ?_
                refine g_n 2 (pc' := 7) (L' := [some (.ref 281), some (.int c)]) (st' := [.int 8, .int c]) rfl ?_
                refine g_brF (c := (8 : Int32) ≤ c) (t := 14) (f := 10) (L' := [some (.ref 281), some (.int c)]) (st' := []) rfl (x_Fle (l := 8) (u := 7) (by decide) p18 (by decide)) ?_
                refine g_n 2 (pc' := 15) (L' := [some (.ref 281), some (.int c)]) (st' := [.int 1]) rfl ?_
                refine g_ret (ins := .ireturn) (len := 1) (r := (some (.int 1))) rfl rfl rfl ?_
                refine g_n 7 (pc' := 47) (L' := [some (.ref 281), some (.int 0), some (.int b), some (.int c)]) (st' := [.int (-2)]) rfl ?_
                exact g_ret (ins := .ireturn) (len := 1) (r := (some (.int (-2)))) rfl rfl rfl ⟨_, rfl, rfl, (x_sv_rf _)⟩
              · have q21 : ¬ a = 0 := h19
                have p22 : 1 ≤ a.toInt := x_lo_ne q21 p3 (by decide)
                by_cases h23 : a = 1
                · have e24 : a = 1 := h23
                  subst e24
                  refine g_aa (i := 1) (a := 3) (n := 12) (v := 124) rfl rfl (by decide) (x_at (x_f3 hF) (k := 1) rfl) ?_
                  refine g_n 3 (pc' := 56) (L' := [some (.ref 0), some (.int 1), some (.int b), some (.int c)]) (st' := [.int (-2)]) rfl ?_
                  refine g_ret (ins := .ireturn) (len := 1) (r := (some (.int (-2)))) rfl rfl rfl ?_
                  refine ⟨⟨_, rfl⟩, ?_⟩
                  refine g_in (M := x_M643) (L := [some (.ref 281), some (.int 1), some (.int b), some (.int c)]) x_pl643 rfl ?_
                  refine g_n 2 (pc' := 2) (L' := [some (.ref 281), some (.int 1), some (.int b), some (.int c)]) (st' := [.int 1, .ref 281]) rfl ?_
                  refine g_call (ins := .invokevirtual 1213) (len := 3) (j := 541) (as := [.ref 281, .int 1]) (rest := []) rfl rfl rfl rfl (fun _ => rfl) rfl ?_
                  refine g_in (M := x_M541) (L := [some (.ref 281), some (.int 1)]) x_pl541 rfl ?_
                  refine g_n 7 (pc' := 15) (L' := [some (.ref 281), some (.int 1)]) (st' := [.int 1]) rfl ?_
                  refine g_ret (ins := .ireturn) (len := 1) (r := (some (.int 1))) rfl rfl rfl ?_
                  refine g_n 2 (pc' := 9) (L' := [some (.ref 281), some (.int 1), some (.int b), some (.int c)]) (st' := [.int b]) rfl ?_
                  refine g_brF (c := b < (0 : Int32)) (t := 25) (f := 12) (L' := [some (.ref 281), some (.int 1), some (.int b), some (.int c)]) (st' := []) rfl (x_Flt (l := 0) (u := 0) p9 (by decide) (by decide)) ?_
                  refine g_n 2 (pc' := 14) (L' := [some (.ref 281), some (.int 1), some (.int b), some (.int c)]) (st' := [.int 2, .int b]) rfl ?_
                  refine g_brF (c := (2 : Int32) < b) (t := 25) (f := 17) (L' := [some (.ref 281), some (.int 1), some (.int b), some (.int c)]) (st' := []) rfl (x_Flt (l := 2) (u := 2) (by decide) p12 (by decide)) ?_
                  refine g_n 2 (pc' := 19) (L' := [some (.ref 281), some (.int 1), some (.int b), some (.int c)]) (st' := [.int c, .ref 281]) rfl ?_
                  refine g_call (ins := .invokevirtual 671) (len := 3) (j := 411) (as := [.ref 281, .int c]) (rest := []) rfl rfl rfl rfl (fun _ => rfl) rfl ?_
                  refine g_in (M := x_M411) (L := [some (.ref 281), some (.int c)]) x_pl411 rfl ?_
                  refine g_n 1 (pc' := 1) (L' := [some (.ref 281), some (.int c)]) (st' := [.int c]) rfl ?_
                  refine g_brF (c := c < (0 : Int32)) (t := 14) (f := 4) (L' := [some (.ref 281), some (.int c)]) (st' := []) rfl (x_Flt (l := 0) (u := 0) p15 (by decide) (by decide)) ?_
                  refine g_n 2 (pc' := 7) (L' := [some (.ref 281), some (.int c)]) (st' := [.int 8, .int c]) rfl ?_
                  refine g_brF (c := (8 : Int32) ≤ c) (t := 14) (f := 10) (L' := [some (.ref 281), some (.int c)]) (st' := []) rfl (x_Fle (l := 8) (u := 7) (by decide) p18 (by decide)) ?_
                  refine g_n 2 (pc' := 15) (L' := [some (.ref 281), some (.int c)]) (st' := [.int 1]) rfl ?_
                  refine g_ret (ins := .ireturn) (len := 1) (r := (some (.int 1))) rfl rfl rfl ?_
                  refine g_n 7 (pc' := 47) (L' := [some (.ref 281), some (.int 1), some (.int b), some (.int c)]) (st' := [.int (-2)]) rfl ?_
                  exact g_ret (ins := .ireturn) (len := 1) (r := (some (.int (-2)))) rfl rfl rfl ⟨_, rfl, rfl, (x_sv_rf _)⟩
                · have q25 : ¬ a = 1 := h23
                  have p26 : 2 ≤ a.toInt := x_lo_ne q25 p22 (by decide)
                  by_cases h27 : a = 2
                  · have e28 : a = 2 := h27
                    subst e28
                    refine g_aa (i := 2) (a := 3) (n := 12) (v := 129) rfl rfl (by decide) (x_at (x_f3 hF) (k := 2) rfl) ?_
                    refine g_n 3 (pc' := 56) (L' := [some (.ref 0), some (.int 2), some (.int b), some (.int c)]) (st' := [.int (-2)]) rfl ?_
                    refine g_ret (ins := .ireturn) (len := 1) (r := (some (.int (-2)))) rfl rfl rfl ?_
                    refine ⟨⟨_, rfl⟩, ?_⟩
                    refine g_in (M := x_M643) (L := [some (.ref 281), some (.int 2), some (.int b), some (.int c)]) x_pl643 rfl ?_
                    refine g_n 2 (pc' := 2) (L' := [some (.ref 281), some (.int 2), some (.int b), some (.int c)]) (st' := [.int 2, .ref 281]) rfl ?_
                    refine g_call (ins := .invokevirtual 1213) (len := 3) (j := 541) (as := [.ref 281, .int 2]) (rest := []) rfl rfl rfl rfl (fun _ => rfl) rfl ?_
                    refine g_in (M := x_M541) (L := [some (.ref 281), some (.int 2)]) x_pl541 rfl ?_
                    refine g_n 7 (pc' := 15) (L' := [some (.ref 281), some (.int 2)]) (st' := [.int 1]) rfl ?_
                    refine g_ret (ins := .ireturn) (len := 1) (r := (some (.int 1))) rfl rfl rfl ?_
                    refine g_n 2 (pc' := 9) (L' := [some (.ref 281), some (.int 2), some (.int b), some (.int c)]) (st' := [.int b]) rfl ?_
                    refine g_brF (c := b < (0 : Int32)) (t := 25) (f := 12) (L' := [some (.ref 281), some (.int 2), some (.int b), some (.int c)]) (st' := []) rfl (x_Flt (l := 0) (u := 0) p9 (by decide) (by decide)) ?_
                    refine g_n 2 (pc' := 14) (L' := [some (.ref 281), some (.int 2), some (.int b), some (.int c)]) (st' := [.int 2, .int b]) rfl ?_
                    refine g_brF (c := (2 : Int32) < b) (t := 25) (f := 17) (L' := [some (.ref 281), some (.int 2), some (.int b), some (.int c)]) (st' := []) rfl (x_Flt (l := 2) (u := 2) (by decide) p12 (by decide)) ?_
                    refine g_n 2 (pc' := 19) (L' := [some (.ref 281), some (.int 2), some (.int b), some (.int c)]) (st' := [.int c, .ref 281]) rfl ?_
                    refine g_call (ins := .invokevirtual 671) (len := 3) (j := 411) (as := [.ref 281, .int c]) (rest := []) rfl rfl rfl rfl (fun _ => rfl) rfl ?_
                    refine g_in (M := x_M411) (L := [some (.ref 281), some (.int c)]) x_pl411 rfl ?_
                    refine g_n 1 (pc' := 1) (L' := [some (.ref 281), some (.int c)]) (st' := [.int c]) rfl ?_
                    refine g_brF (c := c < (0 : Int32)) (t := 14) (f := 4) (L' := [some (.ref 281), some (.int c)]) (st' := []) rfl (x_Flt (l := 0) (u := 0) p15 (by decide) (by decide)) ?_
                    refine g_n 2 (pc' := 7) (L' := [some (.ref 281), some (.int c)]) (st' := [.int 8, .int c]) rfl ?_
                    refine g_brF (c := (8 : Int32) ≤ c) (t := 14) (f := 10) (L' := [some (.ref 281), some (.int c)]) (st' := []) rfl (x_Fle (l := 8) (u := 7) (by decide) p18 (by decide)) ?_
                    refine g_n 2 (pc' := 15) (L' := [some (.ref 281), some (.int c)]) (st' := [.int 1]) rfl ?_
                    refine g_ret (ins := .ireturn) (len := 1) (r := (some (.int 1))) rfl rfl rfl ?_
                    refine g_n 7 (pc' := 47) (L' := [some (.ref 281), some (.int 2), some (.int b), some (.int c)]) (st' := [.int (-2)]) rfl ?_
                    exact g_ret (ins := .ireturn) (len := 1) (r := (some (.int (-2)))) rfl rfl rfl ⟨_, rfl, rfl, (x_sv_rf _)⟩
                  · have q29 : ¬ a = 2 := h27
                    have p30 : 3 ≤ a.toInt := x_lo_ne q29 p26 (by decide)
                    by_cases h31 : a = 3
                    · have e32 : a = 3 := h31
                      subst e32
                      refine g_aa (i := 3) (a := 3) (n := 12) (v := 134) rfl rfl (by decide) (x_at (x_f3 hF) (k := 3) rfl) ?_
                      refine g_n 3 (pc' := 56) (L' := [some (.ref 0), some (.int 3), some (.int b), some (.int c)]) (st' := [.int (-2)]) rfl ?_
                      refine g_ret (ins := .ireturn) (len := 1) (r := (some (.int (-2)))) rfl rfl rfl ?_
                      refine ⟨⟨_, rfl⟩, ?_⟩
                      refine g_in (M := x_M643) (L := [some (.ref 281), some (.int 3), some (.int b), some (.int c)]) x_pl643 rfl ?_
                      refine g_n 2 (pc' := 2) (L' := [some (.ref 281), some (.int 3), some (.int b), some (.int c)]) (st' := [.int 3, .ref 281]) rfl ?_
                      refine g_call (ins := .invokevirtual 1213) (len := 3) (j := 541) (as := [.ref 281, .int 3]) (rest := []) rfl rfl rfl rfl (fun _ => rfl) rfl ?_
                      refine g_in (M := x_M541) (L := [some (.ref 281), some (.int 3)]) x_pl541 rfl ?_
                      refine g_n 7 (pc' := 15) (L' := [some (.ref 281), some (.int 3)]) (st' := [.int 1]) rfl ?_
                      refine g_ret (ins := .ireturn) (len := 1) (r := (some (.int 1))) rfl rfl rfl ?_
                      refine g_n 2 (pc' := 9) (L' := [some (.ref 281), some (.int 3), some (.int b), some (.int c)]) (st' := [.int b]) rfl ?_
                      refine g_brF (c := b < (0 : Int32)) (t := 25) (f := 12) (L' := [some (.ref 281), some (.int 3), some (.int b), some (.int c)]) (st' := []) rfl (x_Flt (l := 0) (u := 0) p9 (by decide) (by decide)) ?_
                      refine g_n 2 (pc' := 14) (L' := [some (.ref 281), some (.int 3), some (.int b), some (.int c)]) (st' := [.int 2, .int b]) rfl ?_
                      refine g_brF (c := (2 : Int32) < b) (t := 25) (f := 17) (L' := [some (.ref 281), some (.int 3), some (.int b), some (.int c)]) (st' := []) rfl (x_Flt (l := 2) (u := 2) (by decide) p12 (by decide)) ?_
                      refine g_n 2 (pc' := 19) (L' := [some (.ref 281), some (.int 3), some (.int b), some (.int c)]) (st' := [.int c, .ref 281]) rfl ?_
                      refine g_call (ins := .invokevirtual 671) (len := 3) (j := 411) (as := [.ref 281, .int c]) (rest := []) rfl rfl rfl rfl (fun _ => rfl) rfl ?_
                      refine g_in (M := x_M411) (L := [some (.ref 281), some (.int c)]) x_pl411 rfl ?_
                      refine g_n 1 (pc' := 1) (L' := [some (.ref 281), some (.int c)]) (st' := [.int c]) rfl ?_
                      refine g_brF (c := c < (0 : Int32)) (t := 14) (f := 4) (L' := [some (.ref 281), some (.int c)]) (st' := []) rfl (x_Flt (l := 0) (u := 0) p15 (by decide) (by decide)) ?_
                      refine g_n 2 (pc' := 7) (L' := [some (.ref 281), some (.int c)]) (st' := [.int 8, .int c]) rfl ?_
                      refine g_brF (c := (8 : Int32) ≤ c) (t := 14) (f := 10) (L' := [some (.ref 281), some (.int c)]) (st' := []) rfl (x_Fle (l := 8) (u := 7) (by decide) p18 (by decide)) ?_
                      refine g_n 2 (pc' := 15) (L' := [some (.ref 281), some (.int c)]) (st' := [.int 1]) rfl ?_
                      refine g_ret (ins := .ireturn) (len := 1) (r := (some (.int 1))) rfl rfl rfl ?_
                      refine g_n 7 (pc' := 47) (L' := [some (.ref 281), some (.int 3), some (.int b), some (.int c)]) (st' := [.int (-2)]) rfl ?_
                      exact g_ret (ins := .ireturn) (len := 1) (r := (some (.int (-2)))) rfl rfl rfl ⟨_, rfl, rfl, (x_sv_rf _)⟩
                    · have q33 : ¬ a = 3 := h31
                      have p34 : 4 ≤ a.toInt := x_lo_ne q33 p30 (by decide)
                      by_cases h35 : a = 4
                      · have e36 : a = 4 := h35
                        subst e36
                        refine g_aa (i := 4) (a := 3) (n := 12) (v := 139) rfl rfl (by decide) (x_at (x_f3 hF) (k := 4) rfl) ?_
                        refine g_n 3 (pc' := 56) (L' := [some (.ref 0), some (.int 4), some (.int b), some (.int c)]) (st' := [.int (-2)]) rfl ?_
                        refine g_ret (ins := .ireturn) (len := 1) (r := (some (.int (-2)))) rfl rfl rfl ?_
                        refine ⟨⟨_, rfl⟩, ?_⟩
                        refine g_in (M := x_M643) (L := [some (.ref 281), some (.int 4), some (.int b), some (.int c)]) x_pl643 rfl ?_
                        refine g_n 2 (pc' := 2) (L' := [some (.ref 281), some (.int 4), some (.int b), some (.int c)]) (st' := [.int 4, .ref 281]) rfl ?_
                        refine g_call (ins := .invokevirtual 1213) (len := 3) (j := 541) (as := [.ref 281, .int 4]) (rest := []) rfl rfl rfl rfl (fun _ => rfl) rfl ?_
                        refine g_in (M := x_M541) (L := [some (.ref 281), some (.int 4)]) x_pl541 rfl ?_
                        refine g_n 7 (pc' := 15) (L' := [some (.ref 281), some (.int 4)]) (st' := [.int 1]) rfl ?_
                        refine g_ret (ins := .ireturn) (len := 1) (r := (some (.int 1))) rfl rfl rfl ?_
                        refine g_n 2 (pc' := 9) (L' := [some (.ref 281), some (.int 4), some (.int b), some (.int c)]) (st' := [.int b]) rfl ?_
                        refine g_brF (c := b < (0 : Int32)) (t := 25) (f := 12) (L' := [some (.ref 281), some (.int 4), some (.int b), some (.int c)]) (st' := []) rfl (x_Flt (l := 0) (u := 0) p9 (by decide) (by decide)) ?_
                        refine g_n 2 (pc' := 14) (L' := [some (.ref 281), some (.int 4), some (.int b), some (.int c)]) (st' := [.int 2, .int b]) rfl ?_
                        refine g_brF (c := (2 : Int32) < b) (t := 25) (f := 17) (L' := [some (.ref 281), some (.int 4), some (.int b), some (.int c)]) (st' := []) rfl (x_Flt (l := 2) (u := 2) (by decide) p12 (by decide)) ?_
                        refine g_n 2 (pc' := 19) (L' := [some (.ref 281), some (.int 4), some (.int b), some (.int c)]) (st' := [.int c, .ref 281]) rfl ?_
                        refine g_call (ins := .invokevirtual 671) (len := 3) (j := 411) (as := [.ref 281, .int c]) (rest := []) rfl rfl rfl rfl (fun _ => rfl) rfl ?_
                        refine g_in (M := x_M411) (L := [some (.ref 281), some (.int c)]) x_pl411 rfl ?_
                        refine g_n 1 (pc' := 1) (L' := [some (.ref 281), some (.int c)]) (st' := [.int c]) rfl ?_
                        refine g_brF (c := c < (0 : Int32)) (t := 14) (f := 4) (L' := [some (.ref 281), some (.int c)]) (st' := []) rfl (x_Flt (l := 0) (u := 0) p15 (by decide) (by decide)) ?_
                        refine g_n 2 (pc' := 7) (L' := [some (.ref 281), some (.int c)]) (st' := [.int 8, .int c]) rfl ?_
                        refine g_brF (c := (8 : Int32) ≤ c) (t := 14) (f := 10) (L' := [some (.ref 281), some (.int c)]) (st' := []) rfl (x_Fle (l := 8) (u := 7) (by decide) p18 (by decide)) ?_
                        refine g_n 2 (pc' := 15) (L' := [some (.ref 281), some (.int c)]) (st' := [.int 1]) rfl ?_
                        refine g_ret (ins := .ireturn) (len := 1) (r := (some (.int 1))) rfl rfl rfl ?_
                        refine g_n 7 (pc' := 47) (L' := [some (.ref 281), some (.int 4), some (.int b), some (.int c)]) (st' := [.int (-2)]) rfl ?_
                        exact g_ret (ins := .ireturn) (len := 1) (r := (some (.int (-2)))) rfl rfl rfl ⟨_, rfl, rfl, (x_sv_rf _)⟩
                      · have q37 : ¬ a = 4 := h35
                        have p38 : 5 ≤ a.toInt := x_lo_ne q37 p34 (by decide)
                        by_cases h39 : a = 5
                        · have e40 : a = 5 := h39
                          subst e40
                          refine g_aa (i := 5) (a := 3) (n := 12) (v := 144) rfl rfl (by decide) (x_at (x_f3 hF) (k := 5) rfl) ?_
                          refine g_n 3 (pc' := 56) (L' := [some (.ref 0), some (.int 5), some (.int b), some (.int c)]) (st' := [.int (-2)]) rfl ?_
                          refine g_ret (ins := .ireturn) (len := 1) (r := (some (.int (-2)))) rfl rfl rfl ?_
                          refine ⟨⟨_, rfl⟩, ?_⟩
                          refine g_in (M := x_M643) (L := [some (.ref 281), some (.int 5), some (.int b), some (.int c)]) x_pl643 rfl ?_
                          refine g_n 2 (pc' := 2) (L' := [some (.ref 281), some (.int 5), some (.int b), some (.int c)]) (st' := [.int 5, .ref 281]) rfl ?_
                          refine g_call (ins := .invokevirtual 1213) (len := 3) (j := 541) (as := [.ref 281, .int 5]) (rest := []) rfl rfl rfl rfl (fun _ => rfl) rfl ?_
                          refine g_in (M := x_M541) (L := [some (.ref 281), some (.int 5)]) x_pl541 rfl ?_
                          refine g_n 7 (pc' := 15) (L' := [some (.ref 281), some (.int 5)]) (st' := [.int 1]) rfl ?_
                          refine g_ret (ins := .ireturn) (len := 1) (r := (some (.int 1))) rfl rfl rfl ?_
                          refine g_n 2 (pc' := 9) (L' := [some (.ref 281), some (.int 5), some (.int b), some (.int c)]) (st' := [.int b]) rfl ?_
                          refine g_brF (c := b < (0 : Int32)) (t := 25) (f := 12) (L' := [some (.ref 281), some (.int 5), some (.int b), some (.int c)]) (st' := []) rfl (x_Flt (l := 0) (u := 0) p9 (by decide) (by decide)) ?_
                          refine g_n 2 (pc' := 14) (L' := [some (.ref 281), some (.int 5), some (.int b), some (.int c)]) (st' := [.int 2, .int b]) rfl ?_
                          refine g_brF (c := (2 : Int32) < b) (t := 25) (f := 17) (L' := [some (.ref 281), some (.int 5), some (.int b), some (.int c)]) (st' := []) rfl (x_Flt (l := 2) (u := 2) (by decide) p12 (by decide)) ?_
                          refine g_n 2 (pc' := 19) (L' := [some (.ref 281), some (.int 5), some (.int b), some (.int c)]) (st' := [.int c, .ref 281]) rfl ?_
                          refine g_call (ins := .invokevirtual 671) (len := 3) (j := 411) (as := [.ref 281, .int c]) (rest := []) rfl rfl rfl rfl (fun _ => rfl) rfl ?_
                          refine g_in (M := x_M411) (L := [some (.ref 281), some (.int c)]) x_pl411 rfl ?_
                          refine g_n 1 (pc' := 1) (L' := [some (.ref 281), some (.int c)]) (st' := [.int c]) rfl ?_
                          refine g_brF (c := c < (0 : Int32)) (t := 14) (f := 4) (L' := [some (.ref 281), some (.int c)]) (st' := []) rfl (x_Flt (l := 0) (u := 0) p15 (by decide) (by decide)) ?_
                          refine g_n 2 (pc' := 7) (L' := [some (.ref 281), some (.int c)]) (st' := [.int 8, .int c]) rfl ?_
                          refine g_brF (c := (8 : Int32) ≤ c) (t := 14) (f := 10) (L' := [some (.ref 281), some (.int c)]) (st' := []) rfl (x_Fle (l := 8) (u := 7) (by decide) p18 (by decide)) ?_
                          refine g_n 2 (pc' := 15) (L' := [some (.ref 281), some (.int c)]) (st' := [.int 1]) rfl ?_
                          refine g_ret (ins := .ireturn) (len := 1) (r := (some (.int 1))) rfl rfl rfl ?_
                          refine g_n 7 (pc' := 47) (L' := [some (.ref 281), some (.int 5), some (.int b), some (.int c)]) (st' := [.int (-2)]) rfl ?_
                          exact g_ret (ins := .ireturn) (len := 1) (r := (some (.int (-2)))) rfl rfl rfl ⟨_, rfl, rfl, (x_sv_rf _)⟩
                        · have q41 : ¬ a = 5 := h39
                          have p42 : 6 ≤ a.toInt := x_lo_ne q41 p38 (by decide)
                          by_cases h43 : a = 6
                          · have e44 : a = 6 := h43
                            subst e44
                            refine g_aa (i := 6) (a := 3) (n := 12) (v := 149) rfl rfl (by decide) (x_at (x_f3 hF) (k := 6) rfl) ?_
                            refine g_n 3 (pc' := 56) (L' := [some (.ref 0), some (.int 6), some (.int b), some (.int c)]) (st' := [.int (-2)]) rfl ?_
                            refine g_ret (ins := .ireturn) (len := 1) (r := (some (.int (-2)))) rfl rfl rfl ?_
                            refine ⟨⟨_, rfl⟩, ?_⟩
                            refine g_in (M := x_M643) (L := [some (.ref 281), some (.int 6), some (.int b), some (.int c)]) x_pl643 rfl ?_
                            refine g_n 2 (pc' := 2) (L' := [some (.ref 281), some (.int 6), some (.int b), some (.int c)]) (st' := [.int 6, .ref 281]) rfl ?_
                            refine g_call (ins := .invokevirtual 1213) (len := 3) (j := 541) (as := [.ref 281, .int 6]) (rest := []) rfl rfl rfl rfl (fun _ => rfl) rfl ?_
                            refine g_in (M := x_M541) (L := [some (.ref 281), some (.int 6)]) x_pl541 rfl ?_
                            refine g_n 7 (pc' := 15) (L' := [some (.ref 281), some (.int 6)]) (st' := [.int 1]) rfl ?_
                            refine g_ret (ins := .ireturn) (len := 1) (r := (some (.int 1))) rfl rfl rfl ?_
                            refine g_n 2 (pc' := 9) (L' := [some (.ref 281), some (.int 6), some (.int b), some (.int c)]) (st' := [.int b]) rfl ?_
                            refine g_brF (c := b < (0 : Int32)) (t := 25) (f := 12) (L' := [some (.ref 281), some (.int 6), some (.int b), some (.int c)]) (st' := []) rfl (x_Flt (l := 0) (u := 0) p9 (by decide) (by decide)) ?_
                            refine g_n 2 (pc' := 14) (L' := [some (.ref 281), some (.int 6), some (.int b), some (.int c)]) (st' := [.int 2, .int b]) rfl ?_
                            refine g_brF (c := (2 : Int32) < b) (t := 25) (f := 17) (L' := [some (.ref 281), some (.int 6), some (.int b), some (.int c)]) (st' := []) rfl (x_Flt (l := 2) (u := 2) (by decide) p12 (by decide)) ?_
                            refine g_n 2 (pc' := 19) (L' := [some (.ref 281), some (.int 6), some (.int b), some (.int c)]) (st' := [.int c, .ref 281]) rfl ?_
                            refine g_call (ins := .invokevirtual 671) (len := 3) (j := 411) (as := [.ref 281, .int c]) (rest := []) rfl rfl rfl rfl (fun _ => rfl) rfl ?_
                            refine g_in (M := x_M411) (L := [some (.ref 281), some (.int c)]) x_pl411 rfl ?_
                            refine g_n 1 (pc' := 1) (L' := [some (.ref 281), some (.int c)]) (st' := [.int c]) rfl ?_
                            refine g_brF (c := c < (0 : Int32)) (t := 14) (f := 4) (L' := [some (.ref 281), some (.int c)]) (st' := []) rfl (x_Flt (l := 0) (u := 0) p15 (by decide) (by decide)) ?_
                            refine g_n 2 (pc' := 7) (L' := [some (.ref 281), some (.int c)]) (st' := [.int 8, .int c]) rfl ?_
                            refine g_brF (c := (8 : Int32) ≤ c) (t := 14) (f := 10) (L' := [some (.ref 281), some (.int c)]) (st' := []) rfl (x_Fle (l := 8) (u := 7) (by decide) p18 (by decide)) ?_
                            refine g_n 2 (pc' := 15) (L' := [some (.ref 281), some (.int c)]) (st' := [.int 1]) rfl ?_
                            refine g_ret (ins := .ireturn) (len := 1) (r := (some (.int 1))) rfl rfl rfl ?_
                            refine g_n 7 (pc' := 47) (L' := [some (.ref 281), some (.int 6), some (.int b), some (.int c)]) (st' := [.int (-2)]) rfl ?_
                            exact g_ret (ins := .ireturn) (len := 1) (r := (some (.int (-2)))) rfl rfl rfl ⟨_, rfl, rfl, (x_sv_rf _)⟩
                          · have q45 : ¬ a = 6 := h43
                            have p46 : 7 ≤ a.toInt := x_lo_ne q45 p42 (by decide)
                            by_cases h47 : a = 7
                            · have e48 : a = 7 := h47
                              subst e48
                              refine g_aa (i := 7) (a := 3) (n := 12) (v := 154) rfl rfl (by decide) (x_at (x_f3 hF) (k := 7) rfl) ?_
                              refine g_n 3 (pc' := 56) (L' := [some (.ref 0), some (.int 7), some (.int b), some (.int c)]) (st' := [.int (-2)]) rfl ?_
                              refine g_ret (ins := .ireturn) (len := 1) (r := (some (.int (-2)))) rfl rfl rfl ?_
                              refine ⟨⟨_, rfl⟩, ?_⟩
                              refine g_in (M := x_M643) (L := [some (.ref 281), some (.int 7), some (.int b), some (.int c)]) x_pl643 rfl ?_
                              refine g_n 2 (pc' := 2) (L' := [some (.ref 281), some (.int 7), some (.int b), some (.int c)]) (st' := [.int 7, .ref 281]) rfl ?_
                              refine g_call (ins := .invokevirtual 1213) (len := 3) (j := 541) (as := [.ref 281, .int 7]) (rest := []) rfl rfl rfl rfl (fun _ => rfl) rfl ?_
                              refine g_in (M := x_M541) (L := [some (.ref 281), some (.int 7)]) x_pl541 rfl ?_
                              refine g_n 7 (pc' := 15) (L' := [some (.ref 281), some (.int 7)]) (st' := [.int 1]) rfl ?_
                              refine g_ret (ins := .ireturn) (len := 1) (r := (some (.int 1))) rfl rfl rfl ?_
                              refine g_n 2 (pc' := 9) (L' := [some (.ref 281), some (.int 7), some (.int b), some (.int c)]) (st' := [.int b]) rfl ?_
                              refine g_brF (c := b < (0 : Int32)) (t := 25) (f := 12) (L' := [some (.ref 281), some (.int 7), some (.int b), some (.int c)]) (st' := []) rfl (x_Flt (l := 0) (u := 0) p9 (by decide) (by decide)) ?_
                              refine g_n 2 (pc' := 14) (L' := [some (.ref 281), some (.int 7), some (.int b), some (.int c)]) (st' := [.int 2, .int b]) rfl ?_
                              refine g_brF (c := (2 : Int32) < b) (t := 25) (f := 17) (L' := [some (.ref 281), some (.int 7), some (.int b), some (.int c)]) (st' := []) rfl (x_Flt (l := 2) (u := 2) (by decide) p12 (by decide)) ?_
                              refine g_n 2 (pc' := 19) (L' := [some (.ref 281), some (.int 7), some (.int b), some (.int c)]) (st' := [.int c, .ref 281]) rfl ?_
                              refine g_call (ins := .invokevirtual 671) (len := 3) (j := 411) (as := [.ref 281, .int c]) (rest := []) rfl rfl rfl rfl (fun _ => rfl) rfl ?_
                              refine g_in (M := x_M411) (L := [some (.ref 281), some (.int c)]) x_pl411 rfl ?_
                              refine g_n 1 (pc' := 1) (L' := [some (.ref 281), some (.int c)]) (st' := [.int c]) rfl ?_
                              refine g_brF (c := c < (0 : Int32)) (t := 14) (f := 4) (L' := [some (.ref 281), some (.int c)]) (st' := []) rfl (x_Flt (l := 0) (u := 0) p15 (by decide) (by decide)) ?_
                              refine g_n 2 (pc' := 7) (L' := [some (.ref 281), some (.int c)]) (st' := [.int 8, .int c]) rfl ?_
                              refine g_brF (c := (8 : Int32) ≤ c) (t := 14) (f := 10) (L' := [some (.ref 281), some (.int c)]) (st' := []) rfl (x_Fle (l := 8) (u := 7) (by decide) p18 (by decide)) ?_
                              refine g_n 2 (pc' := 15) (L' := [some (.ref 281), some (.int c)]) (st' := [.int 1]) rfl ?_
                              refine g_ret (ins := .ireturn) (len := 1) (r := (some (.int 1))) rfl rfl rfl ?_
                              refine g_n 7 (pc' := 47) (L' := [some (.ref 281), some (.int 7), some (.int b), some (.int c)]) (st' := [.int (-2)]) rfl ?_
                              exact g_ret (ins := .ireturn) (len := 1) (r := (some (.int (-2)))) rfl rfl rfl ⟨_, rfl, rfl, (x_sv_rf _)⟩
                            · have q49 : ¬ a = 7 := h47
                              have p50 : 8 ≤ a.toInt := x_lo_ne q49 p46 (by decide)
                              by_cases h51 : a = 8
                              · have e52 : a = 8 := h51
                                subst e52
                                refine g_aa (i := 8) (a := 3) (n := 12) (v := 159) rfl rfl (by decide) (x_at (x_f3 hF) (k := 8) rfl) ?_
                                refine g_n 3 (pc' := 56) (L' := [some (.ref 0), some (.int 8), some (.int b), some (.int c)]) (st' := [.int (-2)]) rfl ?_
                                refine g_ret (ins := .ireturn) (len := 1) (r := (some (.int (-2)))) rfl rfl rfl ?_
                                refine ⟨⟨_, rfl⟩, ?_⟩
                                refine g_in (M := x_M643) (L := [some (.ref 281), some (.int 8), some (.int b), some (.int c)]) x_pl643 rfl ?_
                                refine g_n 2 (pc' := 2) (L' := [some (.ref 281), some (.int 8), some (.int b), some (.int c)]) (st' := [.int 8, .ref 281]) rfl ?_
                                refine g_call (ins := .invokevirtual 1213) (len := 3) (j := 541) (as := [.ref 281, .int 8]) (rest := []) rfl rfl rfl rfl (fun _ => rfl) rfl ?_
                                refine g_in (M := x_M541) (L := [some (.ref 281), some (.int 8)]) x_pl541 rfl ?_
                                refine g_n 7 (pc' := 15) (L' := [some (.ref 281), some (.int 8)]) (st' := [.int 1]) rfl ?_
                                refine g_ret (ins := .ireturn) (len := 1) (r := (some (.int 1))) rfl rfl rfl ?_
                                refine g_n 2 (pc' := 9) (L' := [some (.ref 281), some (.int 8), some (.int b), some (.int c)]) (st' := [.int b]) rfl ?_
                                refine g_brF (c := b < (0 : Int32)) (t := 25) (f := 12) (L' := [some (.ref 281), some (.int 8), some (.int b), some (.int c)]) (st' := []) rfl (x_Flt (l := 0) (u := 0) p9 (by decide) (by decide)) ?_
                                refine g_n 2 (pc' := 14) (L' := [some (.ref 281), some (.int 8), some (.int b), some (.int c)]) (st' := [.int 2, .int b]) rfl ?_
                                refine g_brF (c := (2 : Int32) < b) (t := 25) (f := 17) (L' := [some (.ref 281), some (.int 8), some (.int b), some (.int c)]) (st' := []) rfl (x_Flt (l := 2) (u := 2) (by decide) p12 (by decide)) ?_
                                refine g_n 2 (pc' := 19) (L' := [some (.ref 281), some (.int 8), some (.int b), some (.int c)]) (st' := [.int c, .ref 281]) rfl ?_
                                refine g_call (ins := .invokevirtual 671) (len := 3) (j := 411) (as := [.ref 281, .int c]) (rest := []) rfl rfl rfl rfl (fun _ => rfl) rfl ?_
                                refine g_in (M := x_M411) (L := [some (.ref 281), some (.int c)]) x_pl411 rfl ?_
                                refine g_n 1 (pc' := 1) (L' := [some (.ref 281), some (.int c)]) (st' := [.int c]) rfl ?_
                                refine g_brF (c := c < (0 : Int32)) (t := 14) (f := 4) (L' := [some (.ref 281), some (.int c)]) (st' := []) rfl (x_Flt (l := 0) (u := 0) p15 (by decide) (by decide)) ?_
                                refine g_n 2 (pc' := 7) (L' := [some (.ref 281), some (.int c)]) (st' := [.int 8, .int c]) rfl ?_
                                refine g_brF (c := (8 : Int32) ≤ c) (t := 14) (f := 10) (L' := [some (.ref 281), some (.int c)]) (st' := []) rfl (x_Fle (l := 8) (u := 7) (by decide) p18 (by decide)) ?_
                                refine g_n 2 (pc' := 15) (L' := [some (.ref 281), some (.int c)]) (st' := [.int 1]) rfl ?_
                                refine g_ret (ins := .ireturn) (len := 1) (r := (some (.int 1))) rfl rfl rfl ?_
                                refine g_n 7 (pc' := 47) (L' := [some (.ref 281), some (.int 8), some (.int b), some (.int c)]) (st' := [.int (-2)]) rfl ?_
                                exact g_ret (ins := .ireturn) (len := 1) (r := (some (.int (-2)))) rfl rfl rfl ⟨_, rfl, rfl, (x_sv_rf _)⟩
                              · have q53 : ¬ a = 8 := h51
                                have p54 : 9 ≤ a.toInt := x_lo_ne q53 p50 (by decide)
                                by_cases h55 : a = 9
                                · have e56 : a = 9 := h55
                                  subst e56
                                  refine g_aa (i := 9) (a := 3) (n := 12) (v := 164) rfl rfl (by decide) (x_at (x_f3 hF) (k := 9) rfl) ?_
                                  refine g_n 3 (pc' := 56) (L' := [some (.ref 0), some (.int 9), some (.int b), some (.int c)]) (st' := [.int (-2)]) rfl ?_
                                  refine g_ret (ins := .ireturn) (len := 1) (r := (some (.int (-2)))) rfl rfl rfl ?_
                                  refine ⟨⟨_, rfl⟩, ?_⟩
                                  refine g_in (M := x_M643) (L := [some (.ref 281), some (.int 9), some (.int b), some (.int c)]) x_pl643 rfl ?_
                                  refine g_n 2 (pc' := 2) (L' := [some (.ref 281), some (.int 9), some (.int b), some (.int c)]) (st' := [.int 9, .ref 281]) rfl ?_
                                  refine g_call (ins := .invokevirtual 1213) (len := 3) (j := 541) (as := [.ref 281, .int 9]) (rest := []) rfl rfl rfl rfl (fun _ => rfl) rfl ?_
                                  refine g_in (M := x_M541) (L := [some (.ref 281), some (.int 9)]) x_pl541 rfl ?_
                                  refine g_n 7 (pc' := 15) (L' := [some (.ref 281), some (.int 9)]) (st' := [.int 1]) rfl ?_
                                  refine g_ret (ins := .ireturn) (len := 1) (r := (some (.int 1))) rfl rfl rfl ?_
                                  refine g_n 2 (pc' := 9) (L' := [some (.ref 281), some (.int 9), some (.int b), some (.int c)]) (st' := [.int b]) rfl ?_
                                  refine g_brF (c := b < (0 : Int32)) (t := 25) (f := 12) (L' := [some (.ref 281), some (.int 9), some (.int b), some (.int c)]) (st' := []) rfl (x_Flt (l := 0) (u := 0) p9 (by decide) (by decide)) ?_
                                  refine g_n 2 (pc' := 14) (L' := [some (.ref 281), some (.int 9), some (.int b), some (.int c)]) (st' := [.int 2, .int b]) rfl ?_
                                  refine g_brF (c := (2 : Int32) < b) (t := 25) (f := 17) (L' := [some (.ref 281), some (.int 9), some (.int b), some (.int c)]) (st' := []) rfl (x_Flt (l := 2) (u := 2) (by decide) p12 (by decide)) ?_
                                  refine g_n 2 (pc' := 19) (L' := [some (.ref 281), some (.int 9), some (.int b), some (.int c)]) (st' := [.int c, .ref 281]) rfl ?_
                                  refine g_call (ins := .invokevirtual 671) (len := 3) (j := 411) (as := [.ref 281, .int c]) (rest := []) rfl rfl rfl rfl (fun _ => rfl) rfl ?_
                                  refine g_in (M := x_M411) (L := [some (.ref 281), some (.int c)]) x_pl411 rfl ?_
                                  refine g_n 1 (pc' := 1) (L' := [some (.ref 281), some (.int c)]) (st' := [.int c]) rfl ?_
                                  refine g_brF (c := c < (0 : Int32)) (t := 14) (f := 4) (L' := [some (.ref 281), some (.int c)]) (st' := []) rfl (x_Flt (l := 0) (u := 0) p15 (by decide) (by decide)) ?_
                                  refine g_n 2 (pc' := 7) (L' := [some (.ref 281), some (.int c)]) (st' := [.int 8, .int c]) rfl ?_
                                  refine g_brF (c := (8 : Int32) ≤ c) (t := 14) (f := 10) (L' := [some (.ref 281), some (.int c)]) (st' := []) rfl (x_Fle (l := 8) (u := 7) (by decide) p18 (by decide)) ?_
                                  refine g_n 2 (pc' := 15) (L' := [some (.ref 281), some (.int c)]) (st' := [.int 1]) rfl ?_
                                  refine g_ret (ins := .ireturn) (len := 1) (r := (some (.int 1))) rfl rfl rfl ?_
                                  refine g_n 7 (pc' := 47) (L' := [some (.ref 281), some (.int 9), some (.int b), some (.int c)]) (st' := [.int (-2)]) rfl ?_
                                  exact g_ret (ins := .ireturn) (len := 1) (r := (some (.int (-2)))) rfl rfl rfl ⟨_, rfl, rfl, (x_sv_rf _)⟩
                                · have q57 : ¬ a = 9 := h55
                                  have p58 : 10 ≤ a.toInt := x_lo_ne q57 p54 (by decide)
                                  by_cases h59 : a = 10
                                  · have e60 : a = 10 := h59
                                    subst e60
                                    refine g_aa (i := 10) (a := 3) (n := 12) (v := 169) rfl rfl (by decide) (x_at (x_f3 hF) (k := 10) rfl) ?_
                                    refine g_n 3 (pc' := 56) (L' := [some (.ref 0), some (.int 10), some (.int b), some (.int c)]) (st' := [.int (-2)]) rfl ?_
                                    refine g_ret (ins := .ireturn) (len := 1) (r := (some (.int (-2)))) rfl rfl rfl ?_
                                    refine ⟨⟨_, rfl⟩, ?_⟩
                                    refine g_in (M := x_M643) (L := [some (.ref 281), some (.int 10), some (.int b), some (.int c)]) x_pl643 rfl ?_
                                    refine g_n 2 (pc' := 2) (L' := [some (.ref 281), some (.int 10), some (.int b), some (.int c)]) (st' := [.int 10, .ref 281]) rfl ?_
                                    refine g_call (ins := .invokevirtual 1213) (len := 3) (j := 541) (as := [.ref 281, .int 10]) (rest := []) rfl rfl rfl rfl (fun _ => rfl) rfl ?_
                                    refine g_in (M := x_M541) (L := [some (.ref 281), some (.int 10)]) x_pl541 rfl ?_
                                    refine g_n 7 (pc' := 15) (L' := [some (.ref 281), some (.int 10)]) (st' := [.int 1]) rfl ?_
                                    refine g_ret (ins := .ireturn) (len := 1) (r := (some (.int 1))) rfl rfl rfl ?_
                                    refine g_n 2 (pc' := 9) (L' := [some (.ref 281), some (.int 10), some (.int b), some (.int c)]) (st' := [.int b]) rfl ?_
                                    refine g_brF (c := b < (0 : Int32)) (t := 25) (f := 12) (L' := [some (.ref 281), some (.int 10), some (.int b), some (.int c)]) (st' := []) rfl (x_Flt (l := 0) (u := 0) p9 (by decide) (by decide)) ?_
                                    refine g_n 2 (pc' := 14) (L' := [some (.ref 281), some (.int 10), some (.int b), some (.int c)]) (st' := [.int 2, .int b]) rfl ?_
                                    refine g_brF (c := (2 : Int32) < b) (t := 25) (f := 17) (L' := [some (.ref 281), some (.int 10), some (.int b), some (.int c)]) (st' := []) rfl (x_Flt (l := 2) (u := 2) (by decide) p12 (by decide)) ?_
                                    refine g_n 2 (pc' := 19) (L' := [some (.ref 281), some (.int 10), some (.int b), some (.int c)]) (st' := [.int c, .ref 281]) rfl ?_
                                    refine g_call (ins := .invokevirtual 671) (len := 3) (j := 411) (as := [.ref 281, .int c]) (rest := []) rfl rfl rfl rfl (fun _ => rfl) rfl ?_
                                    refine g_in (M := x_M411) (L := [some (.ref 281), some (.int c)]) x_pl411 rfl ?_
                                    refine g_n 1 (pc' := 1) (L' := [some (.ref 281), some (.int c)]) (st' := [.int c]) rfl ?_
                                    refine g_brF (c := c < (0 : Int32)) (t := 14) (f := 4) (L' := [some (.ref 281), some (.int c)]) (st' := []) rfl (x_Flt (l := 0) (u := 0) p15 (by decide) (by decide)) ?_
                                    refine g_n 2 (pc' := 7) (L' := [some (.ref 281), some (.int c)]) (st' := [.int 8, .int c]) rfl ?_
                                    refine g_brF (c := (8 : Int32) ≤ c) (t := 14) (f := 10) (L' := [some (.ref 281), some (.int c)]) (st' := []) rfl (x_Fle (l := 8) (u := 7) (by decide) p18 (by decide)) ?_
                                    refine g_n 2 (pc' := 15) (L' := [some (.ref 281), some (.int c)]) (st' := [.int 1]) rfl ?_
                                    refine g_ret (ins := .ireturn) (len := 1) (r := (some (.int 1))) rfl rfl rfl ?_
                                    refine g_n 7 (pc' := 47) (L' := [some (.ref 281), some (.int 10), some (.int b), some (.int c)]) (st' := [.int (-2)]) rfl ?_
                                    exact g_ret (ins := .ireturn) (len := 1) (r := (some (.int (-2)))) rfl rfl rfl ⟨_, rfl, rfl, (x_sv_rf _)⟩
                                  · have q61 : ¬ a = 10 := h59
                                    have p62 : 11 ≤ a.toInt := x_lo_ne q61 p58 (by decide)
                                    have e63 : a = 11 := x_sing p62 p6 (by decide)
                                    subst e63
                                    refine g_aa (i := 11) (a := 3) (n := 12) (v := 174) rfl rfl (by decide) (x_at (x_f3 hF) (k := 11) rfl) ?_
                                    refine g_n 3 (pc' := 56) (L' := [some (.ref 0), some (.int 11), some (.int b), some (.int c)]) (st' := [.int (-2)]) rfl ?_
                                    refine g_ret (ins := .ireturn) (len := 1) (r := (some (.int (-2)))) rfl rfl rfl ?_
                                    refine ⟨⟨_, rfl⟩, ?_⟩
                                    refine g_in (M := x_M643) (L := [some (.ref 281), some (.int 11), some (.int b), some (.int c)]) x_pl643 rfl ?_
                                    refine g_n 2 (pc' := 2) (L' := [some (.ref 281), some (.int 11), some (.int b), some (.int c)]) (st' := [.int 11, .ref 281]) rfl ?_
                                    refine g_call (ins := .invokevirtual 1213) (len := 3) (j := 541) (as := [.ref 281, .int 11]) (rest := []) rfl rfl rfl rfl (fun _ => rfl) rfl ?_
                                    refine g_in (M := x_M541) (L := [some (.ref 281), some (.int 11)]) x_pl541 rfl ?_
                                    refine g_n 7 (pc' := 15) (L' := [some (.ref 281), some (.int 11)]) (st' := [.int 1]) rfl ?_
                                    refine g_ret (ins := .ireturn) (len := 1) (r := (some (.int 1))) rfl rfl rfl ?_
                                    refine g_n 2 (pc' := 9) (L' := [some (.ref 281), some (.int 11), some (.int b), some (.int c)]) (st' := [.int b]) rfl ?_
                                    refine g_brF (c := b < (0 : Int32)) (t := 25) (f := 12) (L' := [some (.ref 281), some (.int 11), some (.int b), some (.int c)]) (st' := []) rfl (x_Flt (l := 0) (u := 0) p9 (by decide) (by decide)) ?_
                                    refine g_n 2 (pc' := 14) (L' := [some (.ref 281), some (.int 11), some (.int b), some (.int c)]) (st' := [.int 2, .int b]) rfl ?_
                                    refine g_brF (c := (2 : Int32) < b) (t := 25) (f := 17) (L' := [some (.ref 281), some (.int 11), some (.int b), some (.int c)]) (st' := []) rfl (x_Flt (l := 2) (u := 2) (by decide) p12 (by decide)) ?_
                                    refine g_n 2 (pc' := 19) (L' := [some (.ref 281), some (.int 11), some (.int b), some (.int c)]) (st' := [.int c, .ref 281]) rfl ?_
                                    refine g_call (ins := .invokevirtual 671) (len := 3) (j := 411) (as := [.ref 281, .int c]) (rest := []) rfl rfl rfl rfl (fun _ => rfl) rfl ?_
                                    refine g_in (M := x_M411) (L := [some (.ref 281), some (.int c)]) x_pl411 rfl ?_
                                    refine g_n 1 (pc' := 1) (L' := [some (.ref 281), some (.int c)]) (st' := [.int c]) rfl ?_
                                    refine g_brF (c := c < (0 : Int32)) (t := 14) (f := 4) (L' := [some (.ref 281), some (.int c)]) (st' := []) rfl (x_Flt (l := 0) (u := 0) p15 (by decide) (by decide)) ?_
                                    refine g_n 2 (pc' := 7) (L' := [some (.ref 281), some (.int c)]) (st' := [.int 8, .int c]) rfl ?_
                                    refine g_brF (c := (8 : Int32) ≤ c) (t := 14) (f := 10) (L' := [some (.ref 281), some (.int c)]) (st' := []) rfl (x_Fle (l := 8) (u := 7) (by decide) p18 (by decide)) ?_
                                    refine g_n 2 (pc' := 15) (L' := [some (.ref 281), some (.int c)]) (st' := [.int 1]) rfl ?_
                                    refine g_ret (ins := .ireturn) (len := 1) (r := (some (.int 1))) rfl rfl rfl ?_
                                    refine g_n 7 (pc' := 47) (L' := [some (.ref 281), some (.int 11), some (.int b), some (.int c)]) (st' := [.int (-2)]) rfl ?_
                                    exact g_ret (ins := .ireturn) (len := 1) (r := (some (.int (-2)))) rfl rfl rfl ⟨_, rfl, rfl, (x_sv_rf _)⟩
set_option maxRecDepth 100000 in
set_option maxHeartbeats 4000000 in
theorem x_op24 {fi : Nat → Nat → Int32} {fl : Nat → Nat → Int64} {fr : Nat → Nat → Option Nat} (hF : x_F fl fr) (a b c d e : Int32) : x_ev 30 383 [.ref 0, .int a, .int b, .int c, .int d, .int e] (x_W fi fl fr) fun r S1 => (∃ fs, x_obj S1 281 = some (12, fs)) ∧ x_ev 30 663 [.ref 281, .int a, .int b, .int c, .int d, .int e] S1 (x_finI (x_W fi fl fr) r) := by
  refine g_in (M := x_M383) (L := [some (.ref 0), some (.int a), some (.int b), some (.int c), some (.int d), some (.int e), none]) x_pl383 rfl ?_
  refine g_n 1 (pc' := 1) (L' := [some (.ref 0), some (.int a), some (.int b), some (.int c), some (.int d), some (.int e), none]) (st' := [.int a]) rfl ?_
  refine g_call (ins := .invokestatic 173) (len := 3) (j := 348) (as := [.int a]) (rest := []) rfl rfl rfl rfl (fun _ => rfl) rfl ?_
  refine g_in (M := x_M348) (L := [some (.int a)]) x_pl348 rfl ?_
  refine g_n 1 (pc' := 1) (L' := [some (.int a)]) (st' := [.int a]) rfl ?_
  refine g_br (c := a < (0 : Int32)) (t := 13) (f := 4) (L' := [some (.int a)]) (st' := []) rfl (fun h1 => ?_) (fun h1 => ?_)
  · have p2 : a.toInt ≤ -1 := x_up_lt h1 (by decide)
    refine g_n 1 (pc' := 14) (L' := [some (.int a)]) (st' := [.int 0]) rfl ?_
    refine g_ret (ins := .ireturn) (len := 1) (r := (some (.int 0))) rfl rfl rfl ?_
    refine g_n 2 (pc' := 35) (L' := [some (.ref 0), some (.int a), some (.int b), some (.int c), some (.int d), some (.int e), none]) (st' := [.int (-1)]) rfl ?_
    refine g_ret (ins := .ireturn) (len := 1) (r := (some (.int (-1)))) rfl rfl rfl ?_
    refine ⟨⟨_, rfl⟩, ?_⟩
    refine g_in (M := x_M663) (L := [some (.ref 281), some (.int a), some (.int b), some (.int c), some (.int d), some (.int e)]) x_pl663 rfl ?_
    refine g_n 2 (pc' := 2) (L' := [some (.ref 281), some (.int a), some (.int b), some (.int c), some (.int d), some (.int e)]) (st' := [.int a, .ref 281]) rfl ?_
    refine g_call (ins := .invokevirtual 1015) (len := 3) (j := 488) (as := [.ref 281, .int a]) (rest := []) rfl rfl rfl rfl (fun _ => rfl) rfl ?_
    refine g_in (M := x_M488) (L := [some (.ref 281), some (.int a)]) x_pl488 rfl ?_
    refine g_n 1 (pc' := 1) (L' := [some (.ref 281), some (.int a)]) (st' := [.int a]) rfl ?_
    refine g_brT (c := a < (0 : Int32)) (t := 13) (f := 4) (L' := [some (.ref 281), some (.int a)]) (st' := []) rfl (x_Tlt (u := -1) (l := 0) p2 (by decide) (by decide)) ?_
    refine g_n 1 (pc' := 14) (L' := [some (.ref 281), some (.int a)]) (st' := [.int 0]) rfl ?_
    refine g_ret (ins := .ireturn) (len := 1) (r := (some (.int 0))) rfl rfl rfl ?_
    refine g_n 2 (pc' := 40) (L' := [some (.ref 281), some (.int a), some (.int b), some (.int c), some (.int d), some (.int e)]) (st' := [.int (-1)]) rfl ?_
    exact g_ret (ins := .ireturn) (len := 1) (r := (some (.int (-1)))) rfl rfl rfl ⟨_, rfl, rfl, (x_sv_rf _)⟩
  · have p3 : 0 ≤ a.toInt := x_lo_le (x_nlt h1) (by decide)
    refine g_n 2 (pc' := 6) (L' := [some (.int a)]) (st' := [.int 4, .int a]) rfl ?_
    refine g_br (c := (4 : Int32) ≤ a) (t := 13) (f := 9) (L' := [some (.int a)]) (st' := []) rfl (fun h4 => ?_) (fun h4 => ?_)
    · have p5 : 4 ≤ a.toInt := x_lo_le h4 (by decide)
      refine g_n 1 (pc' := 14) (L' := [some (.int a)]) (st' := [.int 0]) rfl ?_
      refine g_ret (ins := .ireturn) (len := 1) (r := (some (.int 0))) rfl rfl rfl ?_
      refine g_n 2 (pc' := 35) (L' := [some (.ref 0), some (.int a), some (.int b), some (.int c), some (.int d), some (.int e), none]) (st' := [.int (-1)]) rfl ?_
      refine g_ret (ins := .ireturn) (len := 1) (r := (some (.int (-1)))) rfl rfl rfl ?_
      refine ⟨⟨_, rfl⟩, ?_⟩
      refine g_in (M := x_M663) (L := [some (.ref 281), some (.int a), some (.int b), some (.int c), some (.int d), some (.int e)]) x_pl663 rfl ?_
      refine g_n 2 (pc' := 2) (L' := [some (.ref 281), some (.int a), some (.int b), some (.int c), some (.int d), some (.int e)]) (st' := [.int a, .ref 281]) rfl ?_
      refine g_call (ins := .invokevirtual 1015) (len := 3) (j := 488) (as := [.ref 281, .int a]) (rest := []) rfl rfl rfl rfl (fun _ => rfl) rfl ?_
      refine g_in (M := x_M488) (L := [some (.ref 281), some (.int a)]) x_pl488 rfl ?_
      refine g_n 1 (pc' := 1) (L' := [some (.ref 281), some (.int a)]) (st' := [.int a]) rfl ?_
      refine g_brF (c := a < (0 : Int32)) (t := 13) (f := 4) (L' := [some (.ref 281), some (.int a)]) (st' := []) rfl (x_Flt (l := 4) (u := 0) p5 (by decide) (by decide)) ?_
      refine g_n 2 (pc' := 6) (L' := [some (.ref 281), some (.int a)]) (st' := [.int 4, .int a]) rfl ?_
      refine g_brT (c := (4 : Int32) ≤ a) (t := 13) (f := 9) (L' := [some (.ref 281), some (.int a)]) (st' := []) rfl (x_Tle (u := 4) (l := 4) (by decide) p5 (by decide)) ?_
      refine g_n 1 (pc' := 14) (L' := [some (.ref 281), some (.int a)]) (st' := [.int 0]) rfl ?_
      refine g_ret (ins := .ireturn) (len := 1) (r := (some (.int 0))) rfl rfl rfl ?_
      refine g_n 2 (pc' := 40) (L' := [some (.ref 281), some (.int a), some (.int b), some (.int c), some (.int d), some (.int e)]) (st' := [.int (-1)]) rfl ?_
      exact g_ret (ins := .ireturn) (len := 1) (r := (some (.int (-1)))) rfl rfl rfl ⟨_, rfl, rfl, (x_sv_rf _)⟩
    · have p6 : a.toInt ≤ 3 := x_up_lt (x_nle h4) (by decide)
      refine g_n 2 (pc' := 14) (L' := [some (.int a)]) (st' := [.int 1]) rfl ?_
      refine g_ret (ins := .ireturn) (len := 1) (r := (some (.int 1))) rfl rfl rfl ?_
      refine g_n 2 (pc' := 8) (L' := [some (.ref 0), some (.int a), some (.int b), some (.int c), some (.int d), some (.int e), none]) (st' := [.int b]) rfl ?_
      refine g_br (c := b < (0 : Int32)) (t := 34) (f := 11) (L' := [some (.ref 0), some (.int a), some (.int b), some (.int c), some (.int d), some (.int e), none]) (st' := []) rfl (fun h7 => ?_) (fun h7 => ?_)
      · have p8 : b.toInt ≤ -1 := x_up_lt h7 (by decide)
        refine g_n 1 (pc' := 35) (L' := [some (.ref 0), some (.int a), some (.int b), some (.int c), some (.int d), some (.int e), none]) (st' := [.int (-1)]) rfl ?_
        refine g_ret (ins := .ireturn) (len := 1) (r := (some (.int (-1)))) rfl rfl rfl ?_
        refine ⟨⟨_, rfl⟩, ?_⟩
        refine g_in (M := x_M663) (L := [some (.ref 281), some (.int a), some (.int b), some (.int c), some (.int d), some (.int e)]) x_pl663 rfl ?_
        refine g_n 2 (pc' := 2) (L' := [some (.ref 281), some (.int a), some (.int b), some (.int c), some (.int d), some (.int e)]) (st' := [.int a, .ref 281]) rfl ?_
        refine g_call (ins := .invokevirtual 1015) (len := 3) (j := 488) (as := [.ref 281, .int a]) (rest := []) rfl rfl rfl rfl (fun _ => rfl) rfl ?_
        refine g_in (M := x_M488) (L := [some (.ref 281), some (.int a)]) x_pl488 rfl ?_
        refine g_n 1 (pc' := 1) (L' := [some (.ref 281), some (.int a)]) (st' := [.int a]) rfl ?_
        refine g_brF (c := a < (0 : Int32)) (t := 13) (f := 4) (L' := [some (.ref 281), some (.int a)]) (st' := []) rfl (x_Flt (l := 0) (u := 0) p3 (by decide) (by decide)) ?_
        refine g_n 2 (pc' := 6) (L' := [some (.ref 281), some (.int a)]) (st' := [.int 4, .int a]) rfl ?_
        refine g_brF (c := (4 : Int32) ≤ a) (t := 13) (f := 9) (L' := [some (.ref 281), some (.int a)]) (st' := []) rfl (x_Fle (l := 4) (u := 3) (by decide) p6 (by decide)) ?_
        refine g_n 2 (pc' := 14) (L' := [some (.ref 281), some (.int a)]) (st' := [.int 1]) rfl ?_
        refine g_ret (ins := .ireturn) (len := 1) (r := (some (.int 1))) rfl rfl rfl ?_
        refine g_n 2 (pc' := 9) (L' := [some (.ref 281), some (.int a), some (.int b), some (.int c), some (.int d), some (.int e)]) (st' := [.int c]) rfl ?_
        refine g_br (c := c < (0 : Int32)) (t := 39) (f := 12) (L' := [some (.ref 281), some (.int a), some (.int b), some (.int c), some (.int d), some (.int e)]) (st' := []) rfl (fun h9 => ?_) (fun h9 => ?_)
        · have p10 : c.toInt ≤ -1 := x_up_lt h9 (by decide)
          refine g_n 1 (pc' := 40) (L' := [some (.ref 281), some (.int a), some (.int b), some (.int c), some (.int d), some (.int e)]) (st' := [.int (-1)]) rfl ?_
          exact g_ret (ins := .ireturn) (len := 1) (r := (some (.int (-1)))) rfl rfl rfl ⟨_, rfl, rfl, (x_sv_rf _)⟩
        · have p11 : 0 ≤ c.toInt := x_lo_le (x_nlt h9) (by decide)
          refine g_n 2 (pc' := 14) (L' := [some (.ref 281), some (.int a), some (.int b), some (.int c), some (.int d), some (.int e)]) (st' := [.int 2, .int c]) rfl ?_
          refine g_br (c := (2 : Int32) < c) (t := 39) (f := 17) (L' := [some (.ref 281), some (.int a), some (.int b), some (.int c), some (.int d), some (.int e)]) (st' := []) rfl (fun h12 => ?_) (fun h12 => ?_)
          · have p13 : 3 ≤ c.toInt := x_lo_lt h12 (by decide)
            refine g_n 1 (pc' := 40) (L' := [some (.ref 281), some (.int a), some (.int b), some (.int c), some (.int d), some (.int e)]) (st' := [.int (-1)]) rfl ?_
            exact g_ret (ins := .ireturn) (len := 1) (r := (some (.int (-1)))) rfl rfl rfl ⟨_, rfl, rfl, (x_sv_rf _)⟩
          · have p14 : c.toInt ≤ 2 := x_up_le (x_nlt h12) (by decide)
            refine g_n 2 (pc' := 20) (L' := [some (.ref 281), some (.int a), some (.int b), some (.int c), some (.int d), some (.int e)]) (st' := [.int d, .ref 281]) rfl ?_
            refine g_call (ins := .invokevirtual 671) (len := 3) (j := 411) (as := [.ref 281, .int d]) (rest := []) rfl rfl rfl rfl (fun _ => rfl) rfl ?_
            refine g_in (M := x_M411) (L := [some (.ref 281), some (.int d)]) x_pl411 rfl ?_
            refine g_n 1 (pc' := 1) (L' := [some (.ref 281), some (.int d)]) (st' := [.int d]) rfl ?_
            refine g_br (c := d < (0 : Int32)) (t := 14) (f := 4) (L' := [some (.ref 281), some (.int d)]) (st' := []) rfl (fun h15 => ?_) (fun h15 => ?_)
            · have p16 : d.toInt ≤ -1 := x_up_lt h15 (by decide)
              refine g_n 1 (pc' := 15) (L' := [some (.ref 281), some (.int d)]) (st' := [.int 0]) rfl ?_
              refine g_ret (ins := .ireturn) (len := 1) (r := (some (.int 0))) rfl rfl rfl ?_
              refine g_n 2 (pc' := 40) (L' := [some (.ref 281), some (.int a), some (.int b), some (.int c), some (.int d), some (.int e)]) (st' := [.int (-1)]) rfl ?_
              exact g_ret (ins := .ireturn) (len := 1) (r := (some (.int (-1)))) rfl rfl rfl ⟨_, rfl, rfl, (x_sv_rf _)⟩
            · have p17 : 0 ≤ d.toInt := x_lo_le (x_nlt h15) (by decide)
              refine g_n 2 (pc' := 7) (L' := [some (.ref 281), some (.int d)]) (st' := [.int 8, .int d]) rfl ?_
              refine g_br (c := (8 : Int32) ≤ d) (t := 14) (f := 10) (L' := [some (.ref 281), some (.int d)]) (st' := []) rfl (fun h18 => ?_) (fun h18 => ?_)
              · have p19 : 8 ≤ d.toInt := x_lo_le h18 (by decide)
                refine g_n 1 (pc' := 15) (L' := [some (.ref 281), some (.int d)]) (st' := [.int 0]) rfl ?_
                refine g_ret (ins := .ireturn) (len := 1) (r := (some (.int 0))) rfl rfl rfl ?_
                refine g_n 2 (pc' := 40) (L' := [some (.ref 281), some (.int a), some (.int b), some (.int c), some (.int d), some (.int e)]) (st' := [.int (-1)]) rfl ?_
                exact g_ret (ins := .ireturn) (len := 1) (r := (some (.int (-1)))) rfl rfl rfl ⟨_, rfl, rfl, (x_sv_rf _)⟩
              · have p20 : d.toInt ≤ 7 := x_up_lt (x_nle h18) (by decide)
                refine g_n 2 (pc' := 15) (L' := [some (.ref 281), some (.int d)]) (st' := [.int 1]) rfl ?_
                refine g_ret (ins := .ireturn) (len := 1) (r := (some (.int 1))) rfl rfl rfl ?_
                refine g_n 3 (pc' := 29) (L' := [some (.ref 281), some (.int a), some (.int b), some (.int c), some (.int d), some (.int e)]) (st' := [.int e, .ref 281]) rfl ?_
                refine g_call (ins := .invokevirtual 1213) (len := 3) (j := 541) (as := [.ref 281, .int e]) (rest := []) rfl rfl rfl rfl (fun _ => rfl) rfl ?_
                refine g_in (M := x_M541) (L := [some (.ref 281), some (.int e)]) x_pl541 rfl ?_
                refine g_n 1 (pc' := 1) (L' := [some (.ref 281), some (.int e)]) (st' := [.int e]) rfl ?_
                refine g_br (c := e < (0 : Int32)) (t := 14) (f := 4) (L' := [some (.ref 281), some (.int e)]) (st' := []) rfl (fun h21 => ?_) (fun h21 => ?_)
                · have p22 : e.toInt ≤ -1 := x_up_lt h21 (by decide)
                  refine g_n 1 (pc' := 15) (L' := [some (.ref 281), some (.int e)]) (st' := [.int 0]) rfl ?_
                  refine g_ret (ins := .ireturn) (len := 1) (r := (some (.int 0))) rfl rfl rfl ?_
                  refine g_n 2 (pc' := 40) (L' := [some (.ref 281), some (.int a), some (.int b), some (.int c), some (.int d), some (.int e)]) (st' := [.int (-1)]) rfl ?_
                  exact g_ret (ins := .ireturn) (len := 1) (r := (some (.int (-1)))) rfl rfl rfl ⟨_, rfl, rfl, (x_sv_rf _)⟩
                · have p23 : 0 ≤ e.toInt := x_lo_le (x_nlt h21) (by decide)
                  refine g_n 2 (pc' := 7) (L' := [some (.ref 281), some (.int e)]) (st' := [.int 12, .int e]) rfl ?_
                  refine g_br (c := (12 : Int32) ≤ e) (t := 14) (f := 10) (L' := [some (.ref 281), some (.int e)]) (st' := []) rfl (fun h24 => ?_) (fun h24 => ?_)
                  · have p25 : 12 ≤ e.toInt := x_lo_le h24 (by decide)
                    refine g_n 1 (pc' := 15) (L' := [some (.ref 281), some (.int e)]) (st' := [.int 0]) rfl ?_
                    refine g_ret (ins := .ireturn) (len := 1) (r := (some (.int 0))) rfl rfl rfl ?_
                    refine g_n 2 (pc' := 40) (L' := [some (.ref 281), some (.int a), some (.int b), some (.int c), some (.int d), some (.int e)]) (st' := [.int (-1)]) rfl ?_
                    exact g_ret (ins := .ireturn) (len := 1) (r := (some (.int (-1)))) rfl rfl rfl ⟨_, rfl, rfl, (x_sv_rf _)⟩
                  · have p26 : e.toInt ≤ 11 := x_up_lt (x_nle h24) (by decide)
                    refine g_n 2 (pc' := 15) (L' := [some (.ref 281), some (.int e)]) (st' := [.int 1]) rfl ?_
                    refine g_ret (ins := .ireturn) (len := 1) (r := (some (.int 1))) rfl rfl rfl ?_
                    refine g_n 2 (pc' := 36) (L' := [some (.ref 281), some (.int a), some (.int b), some (.int c), some (.int d), some (.int e)]) (st' := [.int b]) rfl ?_
                    refine g_brF (c := (0 : Int32) ≤ b) (t := 41) (f := 39) (L' := [some (.ref 281), some (.int a), some (.int b), some (.int c), some (.int d), some (.int e)]) (st' := []) rfl (x_Fle (l := 0) (u := -1) (by decide) p8 (by decide)) ?_
                    refine g_n 1 (pc' := 40) (L' := [some (.ref 281), some (.int a), some (.int b), some (.int c), some (.int d), some (.int e)]) (st' := [.int (-1)]) rfl ?_
                    exact g_ret (ins := .ireturn) (len := 1) (r := (some (.int (-1)))) rfl rfl rfl ⟨_, rfl, rfl, (x_sv_rf _)⟩
      · have p27 : 0 ≤ b.toInt := x_lo_le (x_nlt h7) (by decide)
        refine g_n 1 (pc' := 12) (L' := [some (.ref 0), some (.int a), some (.int b), some (.int c), some (.int d), some (.int e), none]) (st' := [.int c]) rfl ?_
        refine g_call (ins := .invokestatic 354) (len := 3) (j := 351) (as := [.int c]) (rest := []) rfl rfl rfl rfl (fun _ => rfl) rfl ?_
        refine g_in (M := x_M351) (L := [some (.int c)]) x_pl351 rfl ?_
        refine g_n 1 (pc' := 1) (L' := [some (.int c)]) (st' := [.int c]) rfl ?_
        refine g_br (c := c < (0 : Int32)) (t := 13) (f := 4) (L' := [some (.int c)]) (st' := []) rfl (fun h28 => ?_) (fun h28 => ?_)
        · have p29 : c.toInt ≤ -1 := x_up_lt h28 (by decide)
          refine g_n 1 (pc' := 14) (L' := [some (.int c)]) (st' := [.int 0]) rfl ?_
          refine g_ret (ins := .ireturn) (len := 1) (r := (some (.int 0))) rfl rfl rfl ?_
          refine g_n 2 (pc' := 35) (L' := [some (.ref 0), some (.int a), some (.int b), some (.int c), some (.int d), some (.int e), none]) (st' := [.int (-1)]) rfl ?_
          refine g_ret (ins := .ireturn) (len := 1) (r := (some (.int (-1)))) rfl rfl rfl ?_
          refine ⟨⟨_, rfl⟩, ?_⟩
          refine g_in (M := x_M663) (L := [some (.ref 281), some (.int a), some (.int b), some (.int c), some (.int d), some (.int e)]) x_pl663 rfl ?_
          refine g_n 2 (pc' := 2) (L' := [some (.ref 281), some (.int a), some (.int b), some (.int c), some (.int d), some (.int e)]) (st' := [.int a, .ref 281]) rfl ?_
          refine g_call (ins := .invokevirtual 1015) (len := 3) (j := 488) (as := [.ref 281, .int a]) (rest := []) rfl rfl rfl rfl (fun _ => rfl) rfl ?_
          refine g_in (M := x_M488) (L := [some (.ref 281), some (.int a)]) x_pl488 rfl ?_
          refine g_n 1 (pc' := 1) (L' := [some (.ref 281), some (.int a)]) (st' := [.int a]) rfl ?_
          refine g_brF (c := a < (0 : Int32)) (t := 13) (f := 4) (L' := [some (.ref 281), some (.int a)]) (st' := []) rfl (x_Flt (l := 0) (u := 0) p3 (by decide) (by decide)) ?_
          refine g_n 2 (pc' := 6) (L' := [some (.ref 281), some (.int a)]) (st' := [.int 4, .int a]) rfl ?_
          refine g_brF (c := (4 : Int32) ≤ a) (t := 13) (f := 9) (L' := [some (.ref 281), some (.int a)]) (st' := []) rfl (x_Fle (l := 4) (u := 3) (by decide) p6 (by decide)) ?_
          refine g_n 2 (pc' := 14) (L' := [some (.ref 281), some (.int a)]) (st' := [.int 1]) rfl ?_
          refine g_ret (ins := .ireturn) (len := 1) (r := (some (.int 1))) rfl rfl rfl ?_
          refine g_n 2 (pc' := 9) (L' := [some (.ref 281), some (.int a), some (.int b), some (.int c), some (.int d), some (.int e)]) (st' := [.int c]) rfl ?_
          refine g_brT (c := c < (0 : Int32)) (t := 39) (f := 12) (L' := [some (.ref 281), some (.int a), some (.int b), some (.int c), some (.int d), some (.int e)]) (st' := []) rfl (x_Tlt (u := -1) (l := 0) p29 (by decide) (by decide)) ?_
          refine g_n 1 (pc' := 40) (L' := [some (.ref 281), some (.int a), some (.int b), some (.int c), some (.int d), some (.int e)]) (st' := [.int (-1)]) rfl ?_
          exact g_ret (ins := .ireturn) (len := 1) (r := (some (.int (-1)))) rfl rfl rfl ⟨_, rfl, rfl, (x_sv_rf _)⟩
        · have p30 : 0 ≤ c.toInt := x_lo_le (x_nlt h28) (by decide)
          refine g_n 2 (pc' := 6) (L' := [some (.int c)]) (st' := [.int 2, .int c]) rfl ?_
          refine g_br (c := (2 : Int32) < c) (t := 13) (f := 9) (L' := [some (.int c)]) (st' := []) rfl (fun h31 => ?_) (fun h31 => ?_)
          · have p32 : 3 ≤ c.toInt := x_lo_lt h31 (by decide)
            refine g_n 1 (pc' := 14) (L' := [some (.int c)]) (st' := [.int 0]) rfl ?_
            refine g_ret (ins := .ireturn) (len := 1) (r := (some (.int 0))) rfl rfl rfl ?_
            refine g_n 2 (pc' := 35) (L' := [some (.ref 0), some (.int a), some (.int b), some (.int c), some (.int d), some (.int e), none]) (st' := [.int (-1)]) rfl ?_
            refine g_ret (ins := .ireturn) (len := 1) (r := (some (.int (-1)))) rfl rfl rfl ?_
            refine ⟨⟨_, rfl⟩, ?_⟩
            refine g_in (M := x_M663) (L := [some (.ref 281), some (.int a), some (.int b), some (.int c), some (.int d), some (.int e)]) x_pl663 rfl ?_
            refine g_n 2 (pc' := 2) (L' := [some (.ref 281), some (.int a), some (.int b), some (.int c), some (.int d), some (.int e)]) (st' := [.int a, .ref 281]) rfl ?_
            refine g_call (ins := .invokevirtual 1015) (len := 3) (j := 488) (as := [.ref 281, .int a]) (rest := []) rfl rfl rfl rfl (fun _ => rfl) rfl ?_
            refine g_in (M := x_M488) (L := [some (.ref 281), some (.int a)]) x_pl488 rfl ?_
            refine g_n 1 (pc' := 1) (L' := [some (.ref 281), some (.int a)]) (st' := [.int a]) rfl ?_
            refine g_brF (c := a < (0 : Int32)) (t := 13) (f := 4) (L' := [some (.ref 281), some (.int a)]) (st' := []) rfl (x_Flt (l := 0) (u := 0) p3 (by decide) (by decide)) ?_
            refine g_n 2 (pc' := 6) (L' := [some (.ref 281), some (.int a)]) (st' := [.int 4, .int a]) rfl ?_
            refine g_brF (c := (4 : Int32) ≤ a) (t := 13) (f := 9) (L' := [some (.ref 281), some (.int a)]) (st' := []) rfl (x_Fle (l := 4) (u := 3) (by decide) p6 (by decide)) ?_
            refine g_n 2 (pc' := 14) (L' := [some (.ref 281), some (.int a)]) (st' := [.int 1]) rfl ?_
            refine g_ret (ins := .ireturn) (len := 1) (r := (some (.int 1))) rfl rfl rfl ?_
            refine g_n 2 (pc' := 9) (L' := [some (.ref 281), some (.int a), some (.int b), some (.int c), some (.int d), some (.int e)]) (st' := [.int c]) rfl ?_
            refine g_brF (c := c < (0 : Int32)) (t := 39) (f := 12) (L' := [some (.ref 281), some (.int a), some (.int b), some (.int c), some (.int d), some (.int e)]) (st' := []) rfl (x_Flt (l := 3) (u := 0) p32 (by decide) (by decide)) ?_
            refine g_n 2 (pc' := 14) (L' := [some (.ref 281), some (.int a), some (.int b), some (.int c), some (.int d), some (.int e)]) (st' := [.int 2, .int c]) rfl ?_
            refine g_brT (c := (2 : Int32) < c) (t := 39) (f := 17) (L' := [some (.ref 281), some (.int a), some (.int b), some (.int c), some (.int d), some (.int e)]) (st' := []) rfl (x_Tlt (u := 2) (l := 3) (by decide) p32 (by decide)) ?_
            refine g_n 1 (pc' := 40) (L' := [some (.ref 281), some (.int a), some (.int b), some (.int c), some (.int d), some (.int e)]) (st' := [.int (-1)]) rfl ?_
            exact g_ret (ins := .ireturn) (len := 1) (r := (some (.int (-1)))) rfl rfl rfl ⟨_, rfl, rfl, (x_sv_rf _)⟩
          · have p33 : c.toInt ≤ 2 := x_up_le (x_nlt h31) (by decide)
            refine g_n 2 (pc' := 14) (L' := [some (.int c)]) (st' := [.int 1]) rfl ?_
            refine g_ret (ins := .ireturn) (len := 1) (r := (some (.int 1))) rfl rfl rfl ?_
            refine g_n 2 (pc' := 20) (L' := [some (.ref 0), some (.int a), some (.int b), some (.int c), some (.int d), some (.int e), none]) (st' := [.int d]) rfl ?_
            refine g_call (ins := .invokestatic 150) (len := 3) (j := 347) (as := [.int d]) (rest := []) rfl rfl rfl rfl (fun _ => rfl) rfl ?_
            refine g_in (M := x_M347) (L := [some (.int d)]) x_pl347 rfl ?_
            refine g_n 1 (pc' := 1) (L' := [some (.int d)]) (st' := [.int d]) rfl ?_
            refine g_br (c := d < (0 : Int32)) (t := 14) (f := 4) (L' := [some (.int d)]) (st' := []) rfl (fun h34 => ?_) (fun h34 => ?_)
            · have p35 : d.toInt ≤ -1 := x_up_lt h34 (by decide)
              refine g_n 1 (pc' := 15) (L' := [some (.int d)]) (st' := [.int 0]) rfl ?_
              refine g_ret (ins := .ireturn) (len := 1) (r := (some (.int 0))) rfl rfl rfl ?_
              refine g_n 2 (pc' := 35) (L' := [some (.ref 0), some (.int a), some (.int b), some (.int c), some (.int d), some (.int e), none]) (st' := [.int (-1)]) rfl ?_
              refine g_ret (ins := .ireturn) (len := 1) (r := (some (.int (-1)))) rfl rfl rfl ?_
              refine ⟨⟨_, rfl⟩, ?_⟩
              refine g_in (M := x_M663) (L := [some (.ref 281), some (.int a), some (.int b), some (.int c), some (.int d), some (.int e)]) x_pl663 rfl ?_
              refine g_n 2 (pc' := 2) (L' := [some (.ref 281), some (.int a), some (.int b), some (.int c), some (.int d), some (.int e)]) (st' := [.int a, .ref 281]) rfl ?_
              refine g_call (ins := .invokevirtual 1015) (len := 3) (j := 488) (as := [.ref 281, .int a]) (rest := []) rfl rfl rfl rfl (fun _ => rfl) rfl ?_
              refine g_in (M := x_M488) (L := [some (.ref 281), some (.int a)]) x_pl488 rfl ?_
              refine g_n 1 (pc' := 1) (L' := [some (.ref 281), some (.int a)]) (st' := [.int a]) rfl ?_
              refine g_brF (c := a < (0 : Int32)) (t := 13) (f := 4) (L' := [some (.ref 281), some (.int a)]) (st' := []) rfl (x_Flt (l := 0) (u := 0) p3 (by decide) (by decide)) ?_
              refine g_n 2 (pc' := 6) (L' := [some (.ref 281), some (.int a)]) (st' := [.int 4, .int a]) rfl ?_
              refine g_brF (c := (4 : Int32) ≤ a) (t := 13) (f := 9) (L' := [some (.ref 281), some (.int a)]) (st' := []) rfl (x_Fle (l := 4) (u := 3) (by decide) p6 (by decide)) ?_
              refine g_n 2 (pc' := 14) (L' := [some (.ref 281), some (.int a)]) (st' := [.int 1]) rfl ?_
              refine g_ret (ins := .ireturn) (len := 1) (r := (some (.int 1))) rfl rfl rfl ?_
              refine g_n 2 (pc' := 9) (L' := [some (.ref 281), some (.int a), some (.int b), some (.int c), some (.int d), some (.int e)]) (st' := [.int c]) rfl ?_
              refine g_brF (c := c < (0 : Int32)) (t := 39) (f := 12) (L' := [some (.ref 281), some (.int a), some (.int b), some (.int c), some (.int d), some (.int e)]) (st' := []) rfl (x_Flt (l := 0) (u := 0) p30 (by decide) (by decide)) ?_
              refine g_n 2 (pc' := 14) (L' := [some (.ref 281), some (.int a), some (.int b), some (.int c), some (.int d), some (.int e)]) (st' := [.int 2, .int c]) rfl ?_
              refine g_brF (c := (2 : Int32) < c) (t := 39) (f := 17) (L' := [some (.ref 281), some (.int a), some (.int b), some (.int c), some (.int d), some (.int e)]) (st' := []) rfl (x_Flt (l := 2) (u := 2) (by decide) p33 (by decide)) ?_
              refine g_n 2 (pc' := 20) (L' := [some (.ref 281), some (.int a), some (.int b), some (.int c), some (.int d), some (.int e)]) (st' := [.int d, .ref 281]) rfl ?_
              refine g_call (ins := .invokevirtual 671) (len := 3) (j := 411) (as := [.ref 281, .int d]) (rest := []) rfl rfl rfl rfl (fun _ => rfl) rfl ?_
              refine g_in (M := x_M411) (L := [some (.ref 281), some (.int d)]) x_pl411 rfl ?_
              refine g_n 1 (pc' := 1) (L' := [some (.ref 281), some (.int d)]) (st' := [.int d]) rfl ?_
              refine g_brT (c := d < (0 : Int32)) (t := 14) (f := 4) (L' := [some (.ref 281), some (.int d)]) (st' := []) rfl (x_Tlt (u := -1) (l := 0) p35 (by decide) (by decide)) ?_
              refine g_n 1 (pc' := 15) (L' := [some (.ref 281), some (.int d)]) (st' := [.int 0]) rfl ?_
              refine g_ret (ins := .ireturn) (len := 1) (r := (some (.int 0))) rfl rfl rfl ?_
              refine g_n 2 (pc' := 40) (L' := [some (.ref 281), some (.int a), some (.int b), some (.int c), some (.int d), some (.int e)]) (st' := [.int (-1)]) rfl ?_
              exact g_ret (ins := .ireturn) (len := 1) (r := (some (.int (-1)))) rfl rfl rfl ⟨_, rfl, rfl, (x_sv_rf _)⟩
            · have p36 : 0 ≤ d.toInt := x_lo_le (x_nlt h34) (by decide)
              refine g_n 2 (pc' := 7) (L' := [some (.int d)]) (st' := [.int 8, .int d]) rfl ?_
              refine g_br (c := (8 : Int32) ≤ d) (t := 14) (f := 10) (L' := [some (.int d)]) (st' := []) rfl (fun h37 => ?_) (fun h37 => ?_)
              · have p38 : 8 ≤ d.toInt := x_lo_le h37 (by decide)
                refine g_n 1 (pc' := 15) (L' := [some (.int d)]) (st' := [.int 0]) rfl ?_
                refine g_ret (ins := .ireturn) (len := 1) (r := (some (.int 0))) rfl rfl rfl ?_
                refine g_n 2 (pc' := 35) (L' := [some (.ref 0), some (.int a), some (.int b), some (.int c), some (.int d), some (.int e), none]) (st' := [.int (-1)]) rfl ?_
                refine g_ret (ins := .ireturn) (len := 1) (r := (some (.int (-1)))) rfl rfl rfl ?_
                refine ⟨⟨_, rfl⟩, ?_⟩
                refine g_in (M := x_M663) (L := [some (.ref 281), some (.int a), some (.int b), some (.int c), some (.int d), some (.int e)]) x_pl663 rfl ?_
                refine g_n 2 (pc' := 2) (L' := [some (.ref 281), some (.int a), some (.int b), some (.int c), some (.int d), some (.int e)]) (st' := [.int a, .ref 281]) rfl ?_
                refine g_call (ins := .invokevirtual 1015) (len := 3) (j := 488) (as := [.ref 281, .int a]) (rest := []) rfl rfl rfl rfl (fun _ => rfl) rfl ?_
                refine g_in (M := x_M488) (L := [some (.ref 281), some (.int a)]) x_pl488 rfl ?_
                refine g_n 1 (pc' := 1) (L' := [some (.ref 281), some (.int a)]) (st' := [.int a]) rfl ?_
                refine g_brF (c := a < (0 : Int32)) (t := 13) (f := 4) (L' := [some (.ref 281), some (.int a)]) (st' := []) rfl (x_Flt (l := 0) (u := 0) p3 (by decide) (by decide)) ?_
                refine g_n 2 (pc' := 6) (L' := [some (.ref 281), some (.int a)]) (st' := [.int 4, .int a]) rfl ?_
                refine g_brF (c := (4 : Int32) ≤ a) (t := 13) (f := 9) (L' := [some (.ref 281), some (.int a)]) (st' := []) rfl (x_Fle (l := 4) (u := 3) (by decide) p6 (by decide)) ?_
                refine g_n 2 (pc' := 14) (L' := [some (.ref 281), some (.int a)]) (st' := [.int 1]) rfl ?_
                refine g_ret (ins := .ireturn) (len := 1) (r := (some (.int 1))) rfl rfl rfl ?_
                refine g_n 2 (pc' := 9) (L' := [some (.ref 281), some (.int a), some (.int b), some (.int c), some (.int d), some (.int e)]) (st' := [.int c]) rfl ?_
                refine g_brF (c := c < (0 : Int32)) (t := 39) (f := 12) (L' := [some (.ref 281), some (.int a), some (.int b), some (.int c), some (.int d), some (.int e)]) (st' := []) rfl (x_Flt (l := 0) (u := 0) p30 (by decide) (by decide)) ?_
                refine g_n 2 (pc' := 14) (L' := [some (.ref 281), some (.int a), some (.int b), some (.int c), some (.int d), some (.int e)]) (st' := [.int 2, .int c]) rfl ?_
                refine g_brF (c := (2 : Int32) < c) (t := 39) (f := 17) (L' := [some (.ref 281), some (.int a), some (.int b), some (.int c), some (.int d), some (.int e)]) (st' := []) rfl (x_Flt (l := 2) (u := 2) (by decide) p33 (by decide)) ?_
                refine g_n 2 (pc' := 20) (L' := [some (.ref 281), some (.int a), some (.int b), some (.int c), some (.int d), some (.int e)]) (st' := [.int d, .ref 281]) rfl ?_
                refine g_call (ins := .invokevirtual 671) (len := 3) (j := 411) (as := [.ref 281, .int d]) (rest := []) rfl rfl rfl rfl (fun _ => rfl) rfl ?_
                refine g_in (M := x_M411) (L := [some (.ref 281), some (.int d)]) x_pl411 rfl ?_
                refine g_n 1 (pc' := 1) (L' := [some (.ref 281), some (.int d)]) (st' := [.int d]) rfl ?_
                refine g_brF (c := d < (0 : Int32)) (t := 14) (f := 4) (L' := [some (.ref 281), some (.int d)]) (st' := []) rfl (x_Flt (l := 8) (u := 0) p38 (by decide) (by decide)) ?_
                refine g_n 2 (pc' := 7) (L' := [some (.ref 281), some (.int d)]) (st' := [.int 8, .int d]) rfl ?_
                refine g_brT (c := (8 : Int32) ≤ d) (t := 14) (f := 10) (L' := [some (.ref 281), some (.int d)]) (st' := []) rfl (x_Tle (u := 8) (l := 8) (by decide) p38 (by decide)) ?_
                refine g_n 1 (pc' := 15) (L' := [some (.ref 281), some (.int d)]) (st' := [.int 0]) rfl ?_
                refine g_ret (ins := .ireturn) (len := 1) (r := (some (.int 0))) rfl rfl rfl ?_
                refine g_n 2 (pc' := 40) (L' := [some (.ref 281), some (.int a), some (.int b), some (.int c), some (.int d), some (.int e)]) (st' := [.int (-1)]) rfl ?_
                exact g_ret (ins := .ireturn) (len := 1) (r := (some (.int (-1)))) rfl rfl rfl ⟨_, rfl, rfl, (x_sv_rf _)⟩
              · have p39 : d.toInt ≤ 7 := x_up_lt (x_nle h37) (by decide)
                refine g_n 2 (pc' := 15) (L' := [some (.int d)]) (st' := [.int 1]) rfl ?_
                refine g_ret (ins := .ireturn) (len := 1) (r := (some (.int 1))) rfl rfl rfl ?_
                refine g_n 2 (pc' := 28) (L' := [some (.ref 0), some (.int a), some (.int b), some (.int c), some (.int d), some (.int e), none]) (st' := [.int e]) rfl ?_
                refine g_call (ins := .invokestatic 280) (len := 3) (j := 349) (as := [.int e]) (rest := []) rfl rfl rfl rfl (fun _ => rfl) rfl ?_
                refine g_in (M := x_M349) (L := [some (.int e)]) x_pl349 rfl ?_
                refine g_n 1 (pc' := 1) (L' := [some (.int e)]) (st' := [.int e]) rfl ?_
                refine g_br (c := e < (0 : Int32)) (t := 14) (f := 4) (L' := [some (.int e)]) (st' := []) rfl (fun h40 => ?_) (fun h40 => ?_)
                · have p41 : e.toInt ≤ -1 := x_up_lt h40 (by decide)
                  refine g_n 1 (pc' := 15) (L' := [some (.int e)]) (st' := [.int 0]) rfl ?_
                  refine g_ret (ins := .ireturn) (len := 1) (r := (some (.int 0))) rfl rfl rfl ?_
                  refine g_n 2 (pc' := 35) (L' := [some (.ref 0), some (.int a), some (.int b), some (.int c), some (.int d), some (.int e), none]) (st' := [.int (-1)]) rfl ?_
                  refine g_ret (ins := .ireturn) (len := 1) (r := (some (.int (-1)))) rfl rfl rfl ?_
                  refine ⟨⟨_, rfl⟩, ?_⟩
                  refine g_in (M := x_M663) (L := [some (.ref 281), some (.int a), some (.int b), some (.int c), some (.int d), some (.int e)]) x_pl663 rfl ?_
                  refine g_n 2 (pc' := 2) (L' := [some (.ref 281), some (.int a), some (.int b), some (.int c), some (.int d), some (.int e)]) (st' := [.int a, .ref 281]) rfl ?_
                  refine g_call (ins := .invokevirtual 1015) (len := 3) (j := 488) (as := [.ref 281, .int a]) (rest := []) rfl rfl rfl rfl (fun _ => rfl) rfl ?_
                  refine g_in (M := x_M488) (L := [some (.ref 281), some (.int a)]) x_pl488 rfl ?_
                  refine g_n 1 (pc' := 1) (L' := [some (.ref 281), some (.int a)]) (st' := [.int a]) rfl ?_
                  refine g_brF (c := a < (0 : Int32)) (t := 13) (f := 4) (L' := [some (.ref 281), some (.int a)]) (st' := []) rfl (x_Flt (l := 0) (u := 0) p3 (by decide) (by decide)) ?_
                  refine g_n 2 (pc' := 6) (L' := [some (.ref 281), some (.int a)]) (st' := [.int 4, .int a]) rfl ?_
                  refine g_brF (c := (4 : Int32) ≤ a) (t := 13) (f := 9) (L' := [some (.ref 281), some (.int a)]) (st' := []) rfl (x_Fle (l := 4) (u := 3) (by decide) p6 (by decide)) ?_
                  refine g_n 2 (pc' := 14) (L' := [some (.ref 281), some (.int a)]) (st' := [.int 1]) rfl ?_
                  refine g_ret (ins := .ireturn) (len := 1) (r := (some (.int 1))) rfl rfl rfl ?_
                  refine g_n 2 (pc' := 9) (L' := [some (.ref 281), some (.int a), some (.int b), some (.int c), some (.int d), some (.int e)]) (st' := [.int c]) rfl ?_
                  refine g_brF (c := c < (0 : Int32)) (t := 39) (f := 12) (L' := [some (.ref 281), some (.int a), some (.int b), some (.int c), some (.int d), some (.int e)]) (st' := []) rfl (x_Flt (l := 0) (u := 0) p30 (by decide) (by decide)) ?_
                  refine g_n 2 (pc' := 14) (L' := [some (.ref 281), some (.int a), some (.int b), some (.int c), some (.int d), some (.int e)]) (st' := [.int 2, .int c]) rfl ?_
                  refine g_brF (c := (2 : Int32) < c) (t := 39) (f := 17) (L' := [some (.ref 281), some (.int a), some (.int b), some (.int c), some (.int d), some (.int e)]) (st' := []) rfl (x_Flt (l := 2) (u := 2) (by decide) p33 (by decide)) ?_
                  refine g_n 2 (pc' := 20) (L' := [some (.ref 281), some (.int a), some (.int b), some (.int c), some (.int d), some (.int e)]) (st' := [.int d, .ref 281]) rfl ?_
                  refine g_call (ins := .invokevirtual 671) (len := 3) (j := 411) (as := [.ref 281, .int d]) (rest := []) rfl rfl rfl rfl (fun _ => rfl) rfl ?_
                  refine g_in (M := x_M411) (L := [some (.ref 281), some (.int d)]) x_pl411 rfl ?_
                  refine g_n 1 (pc' := 1) (L' := [some (.ref 281), some (.int d)]) (st' := [.int d]) rfl ?_
                  refine g_brF (c := d < (0 : Int32)) (t := 14) (f := 4) (L' := [some (.ref 281), some (.int d)]) (st' := []) rfl (x_Flt (l := 0) (u := 0) p36 (by decide) (by decide)) ?_
                  refine g_n 2 (pc' := 7) (L' := [some (.ref 281), some (.int d)]) (st' := [.int 8, .int d]) rfl ?_
                  refine g_brF (c := (8 : Int32) ≤ d) (t := 14) (f := 10) (L' := [some (.ref 281), some (.int d)]) (st' := []) rfl (x_Fle (l := 8) (u := 7) (by decide) p39 (by decide)) ?_
                  refine g_n 2 (pc' := 15) (L' := [some (.ref 281), some (.int d)]) (st' := [.int 1]) rfl ?_
                  refine g_ret (ins := .ireturn) (len := 1) (r := (some (.int 1))) rfl rfl rfl ?_
                  refine g_n 3 (pc' := 29) (L' := [some (.ref 281), some (.int a), some (.int b), some (.int c), some (.int d), some (.int e)]) (st' := [.int e, .ref 281]) rfl ?_
                  refine g_call (ins := .invokevirtual 1213) (len := 3) (j := 541) (as := [.ref 281, .int e]) (rest := []) rfl rfl rfl rfl (fun _ => rfl) rfl ?_
                  refine g_in (M := x_M541) (L := [some (.ref 281), some (.int e)]) x_pl541 rfl ?_
                  refine g_n 1 (pc' := 1) (L' := [some (.ref 281), some (.int e)]) (st' := [.int e]) rfl ?_
                  refine g_brT (c := e < (0 : Int32)) (t := 14) (f := 4) (L' := [some (.ref 281), some (.int e)]) (st' := []) rfl (x_Tlt (u := -1) (l := 0) p41 (by decide) (by decide)) ?_
                  refine g_n 1 (pc' := 15) (L' := [some (.ref 281), some (.int e)]) (st' := [.int 0]) rfl ?_
                  refine g_ret (ins := .ireturn) (len := 1) (r := (some (.int 0))) rfl rfl rfl ?_
                  refine g_n 2 (pc' := 40) (L' := [some (.ref 281), some (.int a), some (.int b), some (.int c), some (.int d), some (.int e)]) (st' := [.int (-1)]) rfl ?_
                  exact g_ret (ins := .ireturn) (len := 1) (r := (some (.int (-1)))) rfl rfl rfl ⟨_, rfl, rfl, (x_sv_rf _)⟩
                · have p42 : 0 ≤ e.toInt := x_lo_le (x_nlt h40) (by decide)
                  refine g_n 2 (pc' := 7) (L' := [some (.int e)]) (st' := [.int 12, .int e]) rfl ?_
                  refine g_br (c := (12 : Int32) ≤ e) (t := 14) (f := 10) (L' := [some (.int e)]) (st' := []) rfl (fun h43 => ?_) (fun h43 => ?_)
                  · have p44 : 12 ≤ e.toInt := x_lo_le h43 (by decide)
                    refine g_n 1 (pc' := 15) (L' := [some (.int e)]) (st' := [.int 0]) rfl ?_
                    refine g_ret (ins := .ireturn) (len := 1) (r := (some (.int 0))) rfl rfl rfl ?_
                    refine g_n 2 (pc' := 35) (L' := [some (.ref 0), some (.int a), some (.int b), some (.int c), some (.int d), some (.int e), none]) (st' := [.int (-1)]) rfl ?_
                    refine g_ret (ins := .ireturn) (len := 1) (r := (some (.int (-1)))) rfl rfl rfl ?_
                    refine ⟨⟨_, rfl⟩, ?_⟩
                    refine g_in (M := x_M663) (L := [some (.ref 281), some (.int a), some (.int b), some (.int c), some (.int d), some (.int e)]) x_pl663 rfl ?_
                    refine g_n 2 (pc' := 2) (L' := [some (.ref 281), some (.int a), some (.int b), some (.int c), some (.int d), some (.int e)]) (st' := [.int a, .ref 281]) rfl ?_
                    refine g_call (ins := .invokevirtual 1015) (len := 3) (j := 488) (as := [.ref 281, .int a]) (rest := []) rfl rfl rfl rfl (fun _ => rfl) rfl ?_
                    refine g_in (M := x_M488) (L := [some (.ref 281), some (.int a)]) x_pl488 rfl ?_
                    refine g_n 1 (pc' := 1) (L' := [some (.ref 281), some (.int a)]) (st' := [.int a]) rfl ?_
                    refine g_brF (c := a < (0 : Int32)) (t := 13) (f := 4) (L' := [some (.ref 281), some (.int a)]) (st' := []) rfl (x_Flt (l := 0) (u := 0) p3 (by decide) (by decide)) ?_
                    refine g_n 2 (pc' := 6) (L' := [some (.ref 281), some (.int a)]) (st' := [.int 4, .int a]) rfl ?_
                    refine g_brF (c := (4 : Int32) ≤ a) (t := 13) (f := 9) (L' := [some (.ref 281), some (.int a)]) (st' := []) rfl (x_Fle (l := 4) (u := 3) (by decide) p6 (by decide)) ?_
                    refine g_n 2 (pc' := 14) (L' := [some (.ref 281), some (.int a)]) (st' := [.int 1]) rfl ?_
                    refine g_ret (ins := .ireturn) (len := 1) (r := (some (.int 1))) rfl rfl rfl ?_
                    refine g_n 2 (pc' := 9) (L' := [some (.ref 281), some (.int a), some (.int b), some (.int c), some (.int d), some (.int e)]) (st' := [.int c]) rfl ?_
                    refine g_brF (c := c < (0 : Int32)) (t := 39) (f := 12) (L' := [some (.ref 281), some (.int a), some (.int b), some (.int c), some (.int d), some (.int e)]) (st' := []) rfl (x_Flt (l := 0) (u := 0) p30 (by decide) (by decide)) ?_
                    refine g_n 2 (pc' := 14) (L' := [some (.ref 281), some (.int a), some (.int b), some (.int c), some (.int d), some (.int e)]) (st' := [.int 2, .int c]) rfl ?_
                    refine g_brF (c := (2 : Int32) < c) (t := 39) (f := 17) (L' := [some (.ref 281), some (.int a), some (.int b), some (.int c), some (.int d), some (.int e)]) (st' := []) rfl (x_Flt (l := 2) (u := 2) (by decide) p33 (by decide)) ?_
                    refine g_n 2 (pc' := 20) (L' := [some (.ref 281), some (.int a), some (.int b), some (.int c), some (.int d), some (.int e)]) (st' := [.int d, .ref 281]) rfl ?_
                    refine g_call (ins := .invokevirtual 671) (len := 3) (j := 411) (as := [.ref 281, .int d]) (rest := []) rfl rfl rfl rfl (fun _ => rfl) rfl ?_
                    refine g_in (M := x_M411) (L := [some (.ref 281), some (.int d)]) x_pl411 rfl ?_
                    refine g_n 1 (pc' := 1) (L' := [some (.ref 281), some (.int d)]) (st' := [.int d]) rfl ?_
                    refine g_brF (c := d < (0 : Int32)) (t := 14) (f := 4) (L' := [some (.ref 281), some (.int d)]) (st' := []) rfl (x_Flt (l := 0) (u := 0) p36 (by decide) (by decide)) ?_
                    refine g_n 2 (pc' := 7) (L' := [some (.ref 281), some (.int d)]) (st' := [.int 8, .int d]) rfl ?_
                    refine g_brF (c := (8 : Int32) ≤ d) (t := 14) (f := 10) (L' := [some (.ref 281), some (.int d)]) (st' := []) rfl (x_Fle (l := 8) (u := 7) (by decide) p39 (by decide)) ?_
                    refine g_n 2 (pc' := 15) (L' := [some (.ref 281), some (.int d)]) (st' := [.int 1]) rfl ?_
                    refine g_ret (ins := .ireturn) (len := 1) (r := (some (.int 1))) rfl rfl rfl ?_
                    refine g_n 3 (pc' := 29) (L' := [some (.ref 281), some (.int a), some (.int b), some (.int c), some (.int d), some (.int e)]) (st' := [.int e, .ref 281]) rfl ?_
                    refine g_call (ins := .invokevirtual 1213) (len := 3) (j := 541) (as := [.ref 281, .int e]) (rest := []) rfl rfl rfl rfl (fun _ => rfl) rfl ?_
                    refine g_in (M := x_M541) (L := [some (.ref 281), some (.int e)]) x_pl541 rfl ?_
                    refine g_n 1 (pc' := 1) (L' := [some (.ref 281), some (.int e)]) (st' := [.int e]) rfl ?_
                    refine g_brF (c := e < (0 : Int32)) (t := 14) (f := 4) (L' := [some (.ref 281), some (.int e)]) (st' := []) rfl (x_Flt (l := 12) (u := 0) p44 (by decide) (by decide)) ?_
                    refine g_n 2 (pc' := 7) (L' := [some (.ref 281), some (.int e)]) (st' := [.int 12, .int e]) rfl ?_
                    refine g_brT (c := (12 : Int32) ≤ e) (t := 14) (f := 10) (L' := [some (.ref 281), some (.int e)]) (st' := []) rfl (x_Tle (u := 12) (l := 12) (by decide) p44 (by decide)) ?_
                    refine g_n 1 (pc' := 15) (L' := [some (.ref 281), some (.int e)]) (st' := [.int 0]) rfl ?_
                    refine g_ret (ins := .ireturn) (len := 1) (r := (some (.int 0))) rfl rfl rfl ?_
                    refine g_n 2 (pc' := 40) (L' := [some (.ref 281), some (.int a), some (.int b), some (.int c), some (.int d), some (.int e)]) (st' := [.int (-1)]) rfl ?_
                    exact g_ret (ins := .ireturn) (len := 1) (r := (some (.int (-1)))) rfl rfl rfl ⟨_, rfl, rfl, (x_sv_rf _)⟩
                  · have p45 : e.toInt ≤ 11 := x_up_lt (x_nle h43) (by decide)
                    refine g_n 2 (pc' := 15) (L' := [some (.int e)]) (st' := [.int 1]) rfl ?_
                    refine g_ret (ins := .ireturn) (len := 1) (r := (some (.int 1))) rfl rfl rfl ?_
                    refine g_n 4 (pc' := 41) (L' := [some (.ref 0), some (.int a), some (.int b), some (.int c), some (.int d), some (.int e), none]) (st' := [.int a, .ref 2]) rfl ?_
                    by_cases h46 : a = 0
                    · have e47 : a = 0 := h46
                      subst e47
                      refine g_aa (i := 0) (a := 2) (n := 4) (v := 27) rfl rfl (by decide) (x_at (x_f2 hF) (k := 0) rfl) ?_
                      refine g_n 3 (pc' := 50) (L' := [some (.ref 0), some (.int 0), some (.int b), some (.int c), some (.int d), some (.int e), none]) (st' := [.int (-2)]) rfl ?_
                      refine g_ret (ins := .ireturn) (len := 1) (r := (some (.int (-2)))) rfl rfl rfl ?_
                      refine ⟨⟨_, rfl⟩, ?_⟩
                      refine g_in (M := x_M663) (L := [some (.ref 281), some (.int 0), some (.int b), some (.int c), some (.int d), some (.int e)]) x_pl663 rfl ?_
                      refine g_n 2 (pc' := 2) (L' := [some (.ref 281), some (.int 0), some (.int b), some (.int c), some (.int d), some (.int e)]) (st' := [.int 0, .ref 281]) rfl ?_
                      refine g_call (ins := .invokevirtual 1015) (len := 3) (j := 488) (as := [.ref 281, .int 0]) (rest := []) rfl rfl rfl rfl (fun _ => rfl) rfl ?_
                      refine g_in (M := x_M488) (L := [some (.ref 281), some (.int 0)]) x_pl488 rfl ?_
                      refine g_n 7 (pc' := 14) (L' := [some (.ref 281), some (.int 0)]) (st' := [.int 1]) rfl ?_
                      refine g_ret (ins := .ireturn) (len := 1) (r := (some (.int 1))) rfl rfl rfl ?_
                      refine g_n 2 (pc' := 9) (L' := [some (.ref 281), some (.int 0), some (.int b), some (.int c), some (.int d), some (.int e)]) (st' := [.int c]) rfl ?_
                      refine g_brF (c := c < (0 : Int32)) (t := 39) (f := 12) (L' := [some (.ref 281), some (.int 0), some (.int b), some (.int c), some (.int d), some (.int e)]) (st' := []) rfl (x_Flt (l := 0) (u := 0) p30 (by decide) (by decide)) ?_
                      refine g_n 2 (pc' := 14) (L' := [some (.ref 281), some (.int 0), some (.int b), some (.int c), some (.int d), some (.int e)]) (st' := [.int 2, .int c]) rfl ?_
                      refine g_brF (c := (2 : Int32) < c) (t := 39) (f := 17) (L' := [some (.ref 281), some (.int 0), some (.int b), some (.int c), some (.int d), some (.int e)]) (st' := []) rfl (x_Flt (l := 2) (u := 2) (by decide) p33 (by decide)) ?_
                      refine g_n 2 (pc' := 20) (L' := [some (.ref 281), some (.int 0), some (.int b), some (.int c), some (.int d), some (.int e)]) (st' := [.int d, .ref 281]) rfl ?_
                      refine g_call (ins := .invokevirtual 671) (len := 3) (j := 411) (as := [.ref 281, .int d]) (rest := []) rfl rfl rfl rfl (fun _ => rfl) rfl ?_
                      refine g_in (M := x_M411) (L := [some (.ref 281), some (.int d)]) x_pl411 rfl ?_
                      refine g_n 1 (pc' := 1) (L' := [some (.ref 281), some (.int d)]) (st' := [.int d]) rfl ?_
                      refine g_brF (c := d < (0 : Int32)) (t := 14) (f := 4) (L' := [some (.ref 281), some (.int d)]) (st' := []) rfl (x_Flt (l := 0) (u := 0) p36 (by decide) (by decide)) ?_
                      refine g_n 2 (pc' := 7) (L' := [some (.ref 281), some (.int d)]) (st' := [.int 8, .int d]) rfl ?_
                      refine g_brF (c := (8 : Int32) ≤ d) (t := 14) (f := 10) (L' := [some (.ref 281), some (.int d)]) (st' := []) rfl (x_Fle (l := 8) (u := 7) (by decide) p39 (by decide)) ?_
                      refine g_n 2 (pc' := 15) (L' := [some (.ref 281), some (.int d)]) (st' := [.int 1]) rfl ?_
                      refine g_ret (ins := .ireturn) (len := 1) (r := (some (.int 1))) rfl rfl rfl ?_
                      refine g_n 3 (pc' := 29) (L' := [some (.ref 281), some (.int 0), some (.int b), some (.int c), some (.int d), some (.int e)]) (st' := [.int e, .ref 281]) rfl ?_
                      refine g_call (ins := .invokevirtual 1213) (len := 3) (j := 541) (as := [.ref 281, .int e]) (rest := []) rfl rfl rfl rfl (fun _ => rfl) rfl ?_
                      refine g_in (M := x_M541) (L := [some (.ref 281), some (.int e)]) x_pl541 rfl ?_
                      refine g_n 1 (pc' := 1) (L' := [some (.ref 281), some (.int e)]) (st' := [.int e]) rfl ?_
                      refine g_brF (c := e < (0 : Int32)) (t := 14) (f := 4) (L' := [some (.ref 281), some (.int e)]) (st' := []) rfl (x_Flt (l := 0) (u := 0) p42 (by decide) (by decide)) ?_
                      refine g_n 2 (pc' := 7) (L' := [some (.ref 281), some (.int e)]) (st' := [.int 12, .int e]) rfl ?_
                      refine g_brF (c := (12 : Int32) ≤ e) (t := 14) (f := 10) (L' := [some (.ref 281), some (.int e)]) (st' := []) rfl (x_Fle (l := 12) (u := 11) (by decide) p45 (by decide)) ?_
                      refine g_n 2 (pc' := 15) (L' := [some (.ref 281), some (.int e)]) (st' := [.int 1]) rfl ?_
                      refine g_ret (ins := .ireturn) (len := 1) (r := (some (.int 1))) rfl rfl rfl ?_
                      refine g_n 2 (pc' := 36) (L' := [some (.ref 281), some (.int 0), some (.int b), some (.int c), some (.int d), some (.int e)]) (st' := [.int b]) rfl ?_
                      refine g_brT (c := (0 : Int32) ≤ b) (t := 41) (f := 39) (L' := [some (.ref 281), some (.int 0), some (.int b), some (.int c), some (.int d), some (.int e)]) (st' := []) rfl (x_Tle (u := 0) (l := 0) (by decide) p27 (by decide)) ?_
                      refine g_n 6 (pc' := 52) (L' := [some (.ref 281), some (.int 0), some (.int b), some (.int c), some (.int d), some (.int e)]) (st' := [.int (-2)]) rfl ?_
                      exact g_ret (ins := .ireturn) (len := 1) (r := (some (.int (-2)))) rfl rfl rfl ⟨_, rfl, rfl, (x_sv_rf _)⟩
                    · have q48 : ¬ a = 0 := h46
                      have p49 : 1 ≤ a.toInt := x_lo_ne q48 p3 (by decide)
                      by_cases h50 : a = 1
                      · have e51 : a = 1 := h50
                        subst e51
                        refine g_aa (i := 1) (a := 2) (n := 4) (v := 50) rfl rfl (by decide) (x_at (x_f2 hF) (k := 1) rfl) ?_
                        refine g_n 3 (pc' := 50) (L' := [some (.ref 0), some (.int 1), some (.int b), some (.int c), some (.int d), some (.int e), none]) (st' := [.int (-2)]) rfl ?_
                        refine g_ret (ins := .ireturn) (len := 1) (r := (some (.int (-2)))) rfl rfl rfl ?_
                        refine ⟨⟨_, rfl⟩, ?_⟩
                        refine g_in (M := x_M663) (L := [some (.ref 281), some (.int 1), some (.int b), some (.int c), some (.int d), some (.int e)]) x_pl663 rfl ?_
                        refine g_n 2 (pc' := 2) (L' := [some (.ref 281), some (.int 1), some (.int b), some (.int c), some (.int d), some (.int e)]) (st' := [.int 1, .ref 281]) rfl ?_
                        refine g_call (ins := .invokevirtual 1015) (len := 3) (j := 488) (as := [.ref 281, .int 1]) (rest := []) rfl rfl rfl rfl (fun _ => rfl) rfl ?_
                        refine g_in (M := x_M488) (L := [some (.ref 281), some (.int 1)]) x_pl488 rfl ?_
                        refine g_n 7 (pc' := 14) (L' := [some (.ref 281), some (.int 1)]) (st' := [.int 1]) rfl ?_
                        refine g_ret (ins := .ireturn) (len := 1) (r := (some (.int 1))) rfl rfl rfl ?_
                        refine g_n 2 (pc' := 9) (L' := [some (.ref 281), some (.int 1), some (.int b), some (.int c), some (.int d), some (.int e)]) (st' := [.int c]) rfl ?_
                        refine g_brF (c := c < (0 : Int32)) (t := 39) (f := 12) (L' := [some (.ref 281), some (.int 1), some (.int b), some (.int c), some (.int d), some (.int e)]) (st' := []) rfl (x_Flt (l := 0) (u := 0) p30 (by decide) (by decide)) ?_
                        refine g_n 2 (pc' := 14) (L' := [some (.ref 281), some (.int 1), some (.int b), some (.int c), some (.int d), some (.int e)]) (st' := [.int 2, .int c]) rfl ?_
                        refine g_brF (c := (2 : Int32) < c) (t := 39) (f := 17) (L' := [some (.ref 281), some (.int 1), some (.int b), some (.int c), some (.int d), some (.int e)]) (st' := []) rfl (x_Flt (l := 2) (u := 2) (by decide) p33 (by decide)) ?_
                        refine g_n 2 (pc' := 20) (L' := [some (.ref 281), some (.int 1), some (.int b), some (.int c), some (.int d), some (.int e)]) (st' := [.int d, .ref 281]) rfl ?_
                        refine g_call (ins := .invokevirtual 671) (len := 3) (j := 411) (as := [.ref 281, .int d]) (rest := []) rfl rfl rfl rfl (fun _ => rfl) rfl ?_
                        refine g_in (M := x_M411) (L := [some (.ref 281), some (.int d)]) x_pl411 rfl ?_
                        refine g_n 1 (pc' := 1) (L' := [some (.ref 281), some (.int d)]) (st' := [.int d]) rfl ?_
                        refine g_brF (c := d < (0 : Int32)) (t := 14) (f := 4) (L' := [some (.ref 281), some (.int d)]) (st' := []) rfl (x_Flt (l := 0) (u := 0) p36 (by decide) (by decide)) ?_
                        refine g_n 2 (pc' := 7) (L' := [some (.ref 281), some (.int d)]) (st' := [.int 8, .int d]) rfl ?_
                        refine g_brF (c := (8 : Int32) ≤ d) (t := 14) (f := 10) (L' := [some (.ref 281), some (.int d)]) (st' := []) rfl (x_Fle (l := 8) (u := 7) (by decide) p39 (by decide)) ?_
                        refine g_n 2 (pc' := 15) (L' := [some (.ref 281), some (.int d)]) (st' := [.int 1]) rfl ?_
                        refine g_ret (ins := .ireturn) (len := 1) (r := (some (.int 1))) rfl rfl rfl ?_
                        refine g_n 3 (pc' := 29) (L' := [some (.ref 281), some (.int 1), some (.int b), some (.int c), some (.int d), some (.int e)]) (st' := [.int e, .ref 281]) rfl ?_
                        refine g_call (ins := .invokevirtual 1213) (len := 3) (j := 541) (as := [.ref 281, .int e]) (rest := []) rfl rfl rfl rfl (fun _ => rfl) rfl ?_
                        refine g_in (M := x_M541) (L := [some (.ref 281), some (.int e)]) x_pl541 rfl ?_
                        refine g_n 1 (pc' := 1) (L' := [some (.ref 281), some (.int e)]) (st' := [.int e]) rfl ?_
                        refine g_brF (c := e < (0 : Int32)) (t := 14) (f := 4) (L' := [some (.ref 281), some (.int e)]) (st' := []) rfl (x_Flt (l := 0) (u := 0) p42 (by decide) (by decide)) ?_
                        refine g_n 2 (pc' := 7) (L' := [some (.ref 281), some (.int e)]) (st' := [.int 12, .int e]) rfl ?_
                        refine g_brF (c := (12 : Int32) ≤ e) (t := 14) (f := 10) (L' := [some (.ref 281), some (.int e)]) (st' := []) rfl (x_Fle (l := 12) (u := 11) (by decide) p45 (by decide)) ?_
                        refine g_n 2 (pc' := 15) (L' := [some (.ref 281), some (.int e)]) (st' := [.int 1]) rfl ?_
                        refine g_ret (ins := .ireturn) (len := 1) (r := (some (.int 1))) rfl rfl rfl ?_
                        refine g_n 2 (pc' := 36) (L' := [some (.ref 281), some (.int 1), some (.int b), some (.int c), some (.int d), some (.int e)]) (st' := [.int b]) rfl ?_
                        refine g_brT (c := (0 : Int32) ≤ b) (t := 41) (f := 39) (L' := [some (.ref 281), some (.int 1), some (.int b), some (.int c), some (.int d), some (.int e)]) (st' := []) rfl (x_Tle (u := 0) (l := 0) (by decide) p27 (by decide)) ?_
                        refine g_n 6 (pc' := 52) (L' := [some (.ref 281), some (.int 1), some (.int b), some (.int c), some (.int d), some (.int e)]) (st' := [.int (-2)]) rfl ?_
                        exact g_ret (ins := .ireturn) (len := 1) (r := (some (.int (-2)))) rfl rfl rfl ⟨_, rfl, rfl, (x_sv_rf _)⟩
                      · have q52 : ¬ a = 1 := h50
                        have p53 : 2 ≤ a.toInt := x_lo_ne q52 p49 (by decide)
                        by_cases h54 : a = 2
                        · have e55 : a = 2 := h54
                          subst e55
                          refine g_aa (i := 2) (a := 2) (n := 4) (v := 73) rfl rfl (by decide) (x_at (x_f2 hF) (k := 2) rfl) ?_
                          refine g_n 3 (pc' := 50) (L' := [some (.ref 0), some (.int 2), some (.int b), some (.int c), some (.int d), some (.int e), none]) (st' := [.int (-2)]) rfl ?_
                          refine g_ret (ins := .ireturn) (len := 1) (r := (some (.int (-2)))) rfl rfl rfl ?_
                          refine ⟨⟨_, rfl⟩, ?_⟩
                          refine g_in (M := x_M663) (L := [some (.ref 281), some (.int 2), some (.int b), some (.int c), some (.int d), some (.int e)]) x_pl663 rfl ?_
                          refine g_n 2 (pc' := 2) (L' := [some (.ref 281), some (.int 2), some (.int b), some (.int c), some (.int d), some (.int e)]) (st' := [.int 2, .ref 281]) rfl ?_
                          refine g_call (ins := .invokevirtual 1015) (len := 3) (j := 488) (as := [.ref 281, .int 2]) (rest := []) rfl rfl rfl rfl (fun _ => rfl) rfl ?_
                          refine g_in (M := x_M488) (L := [some (.ref 281), some (.int 2)]) x_pl488 rfl ?_
                          refine g_n 7 (pc' := 14) (L' := [some (.ref 281), some (.int 2)]) (st' := [.int 1]) rfl ?_
                          refine g_ret (ins := .ireturn) (len := 1) (r := (some (.int 1))) rfl rfl rfl ?_
                          refine g_n 2 (pc' := 9) (L' := [some (.ref 281), some (.int 2), some (.int b), some (.int c), some (.int d), some (.int e)]) (st' := [.int c]) rfl ?_
                          refine g_brF (c := c < (0 : Int32)) (t := 39) (f := 12) (L' := [some (.ref 281), some (.int 2), some (.int b), some (.int c), some (.int d), some (.int e)]) (st' := []) rfl (x_Flt (l := 0) (u := 0) p30 (by decide) (by decide)) ?_
                          refine g_n 2 (pc' := 14) (L' := [some (.ref 281), some (.int 2), some (.int b), some (.int c), some (.int d), some (.int e)]) (st' := [.int 2, .int c]) rfl ?_
                          refine g_brF (c := (2 : Int32) < c) (t := 39) (f := 17) (L' := [some (.ref 281), some (.int 2), some (.int b), some (.int c), some (.int d), some (.int e)]) (st' := []) rfl (x_Flt (l := 2) (u := 2) (by decide) p33 (by decide)) ?_
                          refine g_n 2 (pc' := 20) (L' := [some (.ref 281), some (.int 2), some (.int b), some (.int c), some (.int d), some (.int e)]) (st' := [.int d, .ref 281]) rfl ?_
                          refine g_call (ins := .invokevirtual 671) (len := 3) (j := 411) (as := [.ref 281, .int d]) (rest := []) rfl rfl rfl rfl (fun _ => rfl) rfl ?_
                          refine g_in (M := x_M411) (L := [some (.ref 281), some (.int d)]) x_pl411 rfl ?_
                          refine g_n 1 (pc' := 1) (L' := [some (.ref 281), some (.int d)]) (st' := [.int d]) rfl ?_
                          refine g_brF (c := d < (0 : Int32)) (t := 14) (f := 4) (L' := [some (.ref 281), some (.int d)]) (st' := []) rfl (x_Flt (l := 0) (u := 0) p36 (by decide) (by decide)) ?_
                          refine g_n 2 (pc' := 7) (L' := [some (.ref 281), some (.int d)]) (st' := [.int 8, .int d]) rfl ?_
                          refine g_brF (c := (8 : Int32) ≤ d) (t := 14) (f := 10) (L' := [some (.ref 281), some (.int d)]) (st' := []) rfl (x_Fle (l := 8) (u := 7) (by decide) p39 (by decide)) ?_
                          refine g_n 2 (pc' := 15) (L' := [some (.ref 281), some (.int d)]) (st' := [.int 1]) rfl ?_
                          refine g_ret (ins := .ireturn) (len := 1) (r := (some (.int 1))) rfl rfl rfl ?_
                          refine g_n 3 (pc' := 29) (L' := [some (.ref 281), some (.int 2), some (.int b), some (.int c), some (.int d), some (.int e)]) (st' := [.int e, .ref 281]) rfl ?_
                          refine g_call (ins := .invokevirtual 1213) (len := 3) (j := 541) (as := [.ref 281, .int e]) (rest := []) rfl rfl rfl rfl (fun _ => rfl) rfl ?_
                          refine g_in (M := x_M541) (L := [some (.ref 281), some (.int e)]) x_pl541 rfl ?_
                          refine g_n 1 (pc' := 1) (L' := [some (.ref 281), some (.int e)]) (st' := [.int e]) rfl ?_
                          refine g_brF (c := e < (0 : Int32)) (t := 14) (f := 4) (L' := [some (.ref 281), some (.int e)]) (st' := []) rfl (x_Flt (l := 0) (u := 0) p42 (by decide) (by decide)) ?_
                          refine g_n 2 (pc' := 7) (L' := [some (.ref 281), some (.int e)]) (st' := [.int 12, .int e]) rfl ?_
                          refine g_brF (c := (12 : Int32) ≤ e) (t := 14) (f := 10) (L' := [some (.ref 281), some (.int e)]) (st' := []) rfl (x_Fle (l := 12) (u := 11) (by decide) p45 (by decide)) ?_
                          refine g_n 2 (pc' := 15) (L' := [some (.ref 281), some (.int e)]) (st' := [.int 1]) rfl ?_
                          refine g_ret (ins := .ireturn) (len := 1) (r := (some (.int 1))) rfl rfl rfl ?_
                          refine g_n 2 (pc' := 36) (L' := [some (.ref 281), some (.int 2), some (.int b), some (.int c), some (.int d), some (.int e)]) (st' := [.int b]) rfl ?_
                          refine g_brT (c := (0 : Int32) ≤ b) (t := 41) (f := 39) (L' := [some (.ref 281), some (.int 2), some (.int b), some (.int c), some (.int d), some (.int e)]) (st' := []) rfl (x_Tle (u := 0) (l := 0) (by decide) p27 (by decide)) ?_
                          refine g_n 6 (pc' := 52) (L' := [some (.ref 281), some (.int 2), some (.int b), some (.int c), some (.int d), some (.int e)]) (st' := [.int (-2)]) rfl ?_
                          exact g_ret (ins := .ireturn) (len := 1) (r := (some (.int (-2)))) rfl rfl rfl ⟨_, rfl, rfl, (x_sv_rf _)⟩
                        · have q56 : ¬ a = 2 := h54
                          have p57 : 3 ≤ a.toInt := x_lo_ne q56 p53 (by decide)
                          have e58 : a = 3 := x_sing p57 p6 (by decide)
                          subst e58
                          refine g_aa (i := 3) (a := 2) (n := 4) (v := 96) rfl rfl (by decide) (x_at (x_f2 hF) (k := 3) rfl) ?_
                          refine g_n 3 (pc' := 50) (L' := [some (.ref 0), some (.int 3), some (.int b), some (.int c), some (.int d), some (.int e), none]) (st' := [.int (-2)]) rfl ?_
                          refine g_ret (ins := .ireturn) (len := 1) (r := (some (.int (-2)))) rfl rfl rfl ?_
                          refine ⟨⟨_, rfl⟩, ?_⟩
                          refine g_in (M := x_M663) (L := [some (.ref 281), some (.int 3), some (.int b), some (.int c), some (.int d), some (.int e)]) x_pl663 rfl ?_
                          refine g_n 2 (pc' := 2) (L' := [some (.ref 281), some (.int 3), some (.int b), some (.int c), some (.int d), some (.int e)]) (st' := [.int 3, .ref 281]) rfl ?_
                          refine g_call (ins := .invokevirtual 1015) (len := 3) (j := 488) (as := [.ref 281, .int 3]) (rest := []) rfl rfl rfl rfl (fun _ => rfl) rfl ?_
                          refine g_in (M := x_M488) (L := [some (.ref 281), some (.int 3)]) x_pl488 rfl ?_
                          refine g_n 7 (pc' := 14) (L' := [some (.ref 281), some (.int 3)]) (st' := [.int 1]) rfl ?_
                          refine g_ret (ins := .ireturn) (len := 1) (r := (some (.int 1))) rfl rfl rfl ?_
                          refine g_n 2 (pc' := 9) (L' := [some (.ref 281), some (.int 3), some (.int b), some (.int c), some (.int d), some (.int e)]) (st' := [.int c]) rfl ?_
                          refine g_brF (c := c < (0 : Int32)) (t := 39) (f := 12) (L' := [some (.ref 281), some (.int 3), some (.int b), some (.int c), some (.int d), some (.int e)]) (st' := []) rfl (x_Flt (l := 0) (u := 0) p30 (by decide) (by decide)) ?_
                          refine g_n 2 (pc' := 14) (L' := [some (.ref 281), some (.int 3), some (.int b), some (.int c), some (.int d), some (.int e)]) (st' := [.int 2, .int c]) rfl ?_
                          refine g_brF (c := (2 : Int32) < c) (t := 39) (f := 17) (L' := [some (.ref 281), some (.int 3), some (.int b), some (.int c), some (.int d), some (.int e)]) (st' := []) rfl (x_Flt (l := 2) (u := 2) (by decide) p33 (by decide)) ?_
                          refine g_n 2 (pc' := 20) (L' := [some (.ref 281), some (.int 3), some (.int b), some (.int c), some (.int d), some (.int e)]) (st' := [.int d, .ref 281]) rfl ?_
                          refine g_call (ins := .invokevirtual 671) (len := 3) (j := 411) (as := [.ref 281, .int d]) (rest := []) rfl rfl rfl rfl (fun _ => rfl) rfl ?_
                          refine g_in (M := x_M411) (L := [some (.ref 281), some (.int d)]) x_pl411 rfl ?_
                          refine g_n 1 (pc' := 1) (L' := [some (.ref 281), some (.int d)]) (st' := [.int d]) rfl ?_
                          refine g_brF (c := d < (0 : Int32)) (t := 14) (f := 4) (L' := [some (.ref 281), some (.int d)]) (st' := []) rfl (x_Flt (l := 0) (u := 0) p36 (by decide) (by decide)) ?_
                          refine g_n 2 (pc' := 7) (L' := [some (.ref 281), some (.int d)]) (st' := [.int 8, .int d]) rfl ?_
                          refine g_brF (c := (8 : Int32) ≤ d) (t := 14) (f := 10) (L' := [some (.ref 281), some (.int d)]) (st' := []) rfl (x_Fle (l := 8) (u := 7) (by decide) p39 (by decide)) ?_
                          refine g_n 2 (pc' := 15) (L' := [some (.ref 281), some (.int d)]) (st' := [.int 1]) rfl ?_
                          refine g_ret (ins := .ireturn) (len := 1) (r := (some (.int 1))) rfl rfl rfl ?_
                          refine g_n 3 (pc' := 29) (L' := [some (.ref 281), some (.int 3), some (.int b), some (.int c), some (.int d), some (.int e)]) (st' := [.int e, .ref 281]) rfl ?_
                          refine g_call (ins := .invokevirtual 1213) (len := 3) (j := 541) (as := [.ref 281, .int e]) (rest := []) rfl rfl rfl rfl (fun _ => rfl) rfl ?_
                          refine g_in (M := x_M541) (L := [some (.ref 281), some (.int e)]) x_pl541 rfl ?_
                          refine g_n 1 (pc' := 1) (L' := [some (.ref 281), some (.int e)]) (st' := [.int e]) rfl ?_
                          refine g_brF (c := e < (0 : Int32)) (t := 14) (f := 4) (L' := [some (.ref 281), some (.int e)]) (st' := []) rfl (x_Flt (l := 0) (u := 0) p42 (by decide) (by decide)) ?_
                          refine g_n 2 (pc' := 7) (L' := [some (.ref 281), some (.int e)]) (st' := [.int 12, .int e]) rfl ?_
                          refine g_brF (c := (12 : Int32) ≤ e) (t := 14) (f := 10) (L' := [some (.ref 281), some (.int e)]) (st' := []) rfl (x_Fle (l := 12) (u := 11) (by decide) p45 (by decide)) ?_
                          refine g_n 2 (pc' := 15) (L' := [some (.ref 281), some (.int e)]) (st' := [.int 1]) rfl ?_
                          refine g_ret (ins := .ireturn) (len := 1) (r := (some (.int 1))) rfl rfl rfl ?_
                          refine g_n 2 (pc' := 36) (L' := [some (.ref 281), some (.int 3), some (.int b), some (.int c), some (.int d), some (.int e)]) (st' := [.int b]) rfl ?_
                          refine g_brT (c := (0 : Int32) ≤ b) (t := 41) (f := 39) (L' := [some (.ref 281), some (.int 3), some (.int b), some (.int c), some (.int d), some (.int e)]) (st' := []) rfl (x_Tle (u := 0) (l := 0) (by decide) p27 (by decide)) ?_
                          refine g_n 6 (pc' := 52) (L' := [some (.ref 281), some (.int 3), some (.int b), some (.int c), some (.int d), some (.int e)]) (st' := [.int (-2)]) rfl ?_
                          exact g_ret (ins := .ireturn) (len := 1) (r := (some (.int (-2)))) rfl rfl rfl ⟨_, rfl, rfl, (x_sv_rf _)⟩
