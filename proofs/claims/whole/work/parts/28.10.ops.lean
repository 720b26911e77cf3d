/-! First calls on the fresh objects. -/
set_option maxRecDepth 100000 in
set_option maxHeartbeats 4000000 in
theorem x_op31 {fi : Nat → Nat → Int32} {fl : Nat → Nat → Int64} {fr : Nat → Nat → Option Nat} (hF : x_F fl fr) (a b : Int32) : x_ev 30 390 [.ref 0, .int a, .int b] (x_W fi fl fr) fun r S1 => (∃ fs, x_obj S1 281 = some (12, fs)) ∧ x_ev 30 685 [.ref 281, .int a, .int b] S1 (x_finI (x_W fi fl fr) r) := by
  refine g_in (M := x_M390) (L := [some (.ref 0), some (.int a), some (.int b)]) x_pl390 rfl ?_
  refine g_n 1 (pc' := 1) (L' := [some (.ref 0), some (.int a), some (.int b)]) (st' := [.int b]) rfl ?_
  refine g_call (ins := .invokestatic 150) (len := 3) (j := 347) (as := [.int b]) (rest := []) rfl rfl rfl rfl (fun _ => rfl) rfl ?_
  refine g_in (M := x_M347) (L := [some (.int b)]) x_pl347 rfl ?_
  refine g_n 1 (pc' := 1) (L' := [some (.int b)]) (st' := [.int b]) rfl ?_
  refine g_br (c := b < (0 : Int32)) (t := 14) (f := 4) (L' := [some (.int b)]) (st' := []) rfl (fun h1 => ?_) (fun h1 => ?_)
  · have p2 : b.toInt ≤ -1 := x_up_lt h1 (by decide)
    refine g_n 1 (pc' := 15) (L' := [some (.int b)]) (st' := [.int 0]) rfl ?_
    refine g_ret (ins := .ireturn) (len := 1) (r := (some (.int 0))) rfl rfl rfl ?_
    refine g_n 2 (pc' := 19) (L' := [some (.ref 0), some (.int a), some (.int b)]) (st' := [.int (-1)]) rfl ?_
    refine g_ret (ins := .ireturn) (len := 1) (r := (some (.int (-1)))) rfl rfl rfl ?_
    refine ⟨⟨_, rfl⟩, ?_⟩
    refine g_in (M := x_M685) (L := [some (.ref 281), some (.int a), some (.int b), none]) x_pl685 rfl ?_
    refine g_n 1 (pc' := 1) (L' := [some (.ref 281), some (.int a), some (.int b), none]) (st' := [.int a]) rfl ?_
    refine g_br (c := a < (0 : Int32)) (t := 20) (f := 4) (L' := [some (.ref 281), some (.int a), some (.int b), none]) (st' := []) rfl (fun h3 => ?_) (fun h3 => ?_)
    · have p4 : a.toInt ≤ -1 := x_up_lt h3 (by decide)
      refine g_n 1 (pc' := 21) (L' := [some (.ref 281), some (.int a), some (.int b), none]) (st' := [.int (-1)]) rfl ?_
      exact g_ret (ins := .ireturn) (len := 1) (r := (some (.int (-1)))) rfl rfl rfl ⟨_, rfl, rfl, (x_sv_rf _)⟩
    · have p5 : 0 ≤ a.toInt := x_lo_le (x_nlt h3) (by decide)
      refine g_n 3 (pc' := 9) (L' := [some (.ref 281), some (.int a), some (.int b), none]) (st' := [.int 0, .int a]) rfl ?_
      refine g_brT (c := (0 : Int32) ≤ a) (t := 20) (f := 12) (L' := [some (.ref 281), some (.int a), some (.int b), none]) (st' := []) rfl (x_Tle (u := 0) (l := 0) (by decide) p5 (by decide)) ?_
      refine g_n 1 (pc' := 21) (L' := [some (.ref 281), some (.int a), some (.int b), none]) (st' := [.int (-1)]) rfl ?_
      exact g_ret (ins := .ireturn) (len := 1) (r := (some (.int (-1)))) rfl rfl rfl ⟨_, rfl, rfl, (x_sv_rf _)⟩
  · have p6 : 0 ≤ b.toInt := x_lo_le (x_nlt h1) (by decide)
    refine g_n 2 (pc' := 7) (L' := [some (.int b)]) (st' := [.int 8, .int b]) rfl ?_
    refine g_br (c := (8 : Int32) ≤ b) (t := 14) (f := 10) (L' := [some (.int b)]) (st' := []) rfl (fun h7 => ?_) (fun h7 => ?_)
    · have p8 : 8 ≤ b.toInt := x_lo_le h7 (by decide)
      refine g_n 1 (pc' := 15) (L' := [some (.int b)]) (st' := [.int 0]) rfl ?_
      refine g_ret (ins := .ireturn) (len := 1) (r := (some (.int 0))) rfl rfl rfl ?_
      refine g_n 2 (pc' := 19) (L' := [some (.ref 0), some (.int a), some (.int b)]) (st' := [.int (-1)]) rfl ?_
      refine g_ret (ins := .ireturn) (len := 1) (r := (some (.int (-1)))) rfl rfl rfl ?_
      refine ⟨⟨_, rfl⟩, ?_⟩
      refine g_in (M := x_M685) (L := [some (.ref 281), some (.int a), some (.int b), none]) x_pl685 rfl ?_
      refine g_n 1 (pc' := 1) (L' := [some (.ref 281), some (.int a), some (.int b), none]) (st' := [.int a]) rfl ?_
      refine g_br (c := a < (0 : Int32)) (t := 20) (f := 4) (L' := [some (.ref 281), some (.int a), some (.int b), none]) (st' := []) rfl (fun h9 => ?_) (fun h9 => ?_)
      · have p10 : a.toInt ≤ -1 := x_up_lt h9 (by decide)
        refine g_n 1 (pc' := 21) (L' := [some (.ref 281), some (.int a), some (.int b), none]) (st' := [.int (-1)]) rfl ?_
        exact g_ret (ins := .ireturn) (len := 1) (r := (some (.int (-1)))) rfl rfl rfl ⟨_, rfl, rfl, (x_sv_rf _)⟩
      · have p11 : 0 ≤ a.toInt := x_lo_le (x_nlt h9) (by decide)
        refine g_n 3 (pc' := 9) (L' := [some (.ref 281), some (.int a), some (.int b), none]) (st' := [.int 0, .int a]) rfl ?_
        refine g_brT (c := (0 : Int32) ≤ a) (t := 20) (f := 12) (L' := [some (.ref 281), some (.int a), some (.int b), none]) (st' := []) rfl (x_Tle (u := 0) (l := 0) (by decide) p11 (by decide)) ?_
        refine g_n 1 (pc' := 21) (L' := [some (.ref 281), some (.int a), some (.int b), none]) (st' := [.int (-1)]) rfl ?_
        exact g_ret (ins := .ireturn) (len := 1) (r := (some (.int (-1)))) rfl rfl rfl ⟨_, rfl, rfl, (x_sv_rf _)⟩
    · have p12 : b.toInt ≤ 7 := x_up_lt (x_nle h7) (by decide)
      refine g_n 2 (pc' := 15) (L' := [some (.int b)]) (st' := [.int 1]) rfl ?_
      refine g_ret (ins := .ireturn) (len := 1) (r := (some (.int 1))) rfl rfl rfl ?_
      refine g_n 4 (pc' := 12) (L' := [some (.ref 0), some (.int a), some (.int b)]) (st' := [.int a, .ref 240]) rfl ?_
      refine g_call (ins := .invokevirtual 388) (len := 3) (j := 42) (as := [.ref 240, .int a]) (rest := []) rfl rfl rfl rfl (fun _ => rfl) rfl ?_
      refine g_in (M := x_M42) (L := [some (.ref 240), some (.int a)]) x_pl42 rfl ?_
      refine g_n 1 (pc' := 1) (L' := [some (.ref 240), some (.int a)]) (st' := [.int a]) rfl ?_
      refine g_br (c := a < (0 : Int32)) (t := 16) (f := 4) (L' := [some (.ref 240), some (.int a)]) (st' := []) rfl (fun h13 => ?_) (fun h13 => ?_)
      · have p14 : a.toInt ≤ -1 := x_up_lt h13 (by decide)
        refine g_n 1 (pc' := 17) (L' := [some (.ref 240), some (.int a)]) (st' := [.int 0]) rfl ?_
        refine g_ret (ins := .ireturn) (len := 1) (r := (some (.int 0))) rfl rfl rfl ?_
        refine g_n 2 (pc' := 19) (L' := [some (.ref 0), some (.int a), some (.int b)]) (st' := [.int (-1)]) rfl ?_
        refine g_ret (ins := .ireturn) (len := 1) (r := (some (.int (-1)))) rfl rfl rfl ?_
        refine ⟨⟨_, rfl⟩, ?_⟩
        refine g_in (M := x_M685) (L := [some (.ref 281), some (.int a), some (.int b), none]) x_pl685 rfl ?_
        refine g_n 1 (pc' := 1) (L' := [some (.ref 281), some (.int a), some (.int b), none]) (st' := [.int a]) rfl ?_
        refine g_brT (c := a < (0 : Int32)) (t := 20) (f := 4) (L' := [some (.ref 281), some (.int a), some (.int b), none]) (st' := []) rfl (x_Tlt (u := -1) (l := 0) p14 (by decide) (by decide)) ?_
        refine g_n 1 (pc' := 21) (L' := [some (.ref 281), some (.int a), some (.int b), none]) (st' := [.int (-1)]) rfl ?_
        exact g_ret (ins := .ireturn) (len := 1) (r := (some (.int (-1)))) rfl rfl rfl ⟨_, rfl, rfl, (x_sv_rf _)⟩
      · have p15 : 0 ≤ a.toInt := x_lo_le (x_nlt h13) (by decide)
        refine g_n 3 (pc' := 9) (L' := [some (.ref 240), some (.int a)]) (st' := [.int 0, .int a]) rfl ?_
        refine g_brT (c := (0 : Int32) ≤ a) (t := 16) (f := 12) (L' := [some (.ref 240), some (.int a)]) (st' := []) rfl (x_Tle (u := 0) (l := 0) (by decide) p15 (by decide)) ?_
        refine g_n 1 (pc' := 17) (L' := [some (.ref 240), some (.int a)]) (st' := [.int 0]) rfl ?_
        refine g_ret (ins := .ireturn) (len := 1) (r := (some (.int 0))) rfl rfl rfl ?_
        refine g_n 2 (pc' := 19) (L' := [some (.ref 0), some (.int a), some (.int b)]) (st' := [.int (-1)]) rfl ?_
        refine g_ret (ins := .ireturn) (len := 1) (r := (some (.int (-1)))) rfl rfl rfl ?_
        refine ⟨⟨_, rfl⟩, ?_⟩
        refine g_in (M := x_M685) (L := [some (.ref 281), some (.int a), some (.int b), none]) x_pl685 rfl ?_
        refine g_n 1 (pc' := 1) (L' := [some (.ref 281), some (.int a), some (.int b), none]) (st' := [.int a]) rfl ?_
        refine g_brF (c := a < (0 : Int32)) (t := 20) (f := 4) (L' := [some (.ref 281), some (.int a), some (.int b), none]) (st' := []) rfl (x_Flt (l := 0) (u := 0) p15 (by decide) (by decide)) ?_
        refine g_n 3 (pc' := 9) (L' := [some (.ref 281), some (.int a), some (.int b), none]) (st' := [.int 0, .int a]) rfl ?_
        refine g_brT (c := (0 : Int32) ≤ a) (t := 20) (f := 12) (L' := [some (.ref 281), some (.int a), some (.int b), none]) (st' := []) rfl (x_Tle (u := 0) (l := 0) (by decide) p15 (by decide)) ?_
        refine g_n 1 (pc' := 21) (L' := [some (.ref 281), some (.int a), some (.int b), none]) (st' := [.int (-1)]) rfl ?_
        exact g_ret (ins := .ireturn) (len := 1) (r := (some (.int (-1)))) rfl rfl rfl ⟨_, rfl, rfl, (x_sv_rf _)⟩
set_option maxRecDepth 100000 in
set_option maxHeartbeats 4000000 in
theorem x_op32 {fi : Nat → Nat → Int32} {fl : Nat → Nat → Int64} {fr : Nat → Nat → Option Nat} (hF : x_F fl fr) (a b c d e : Int32) : x_ev 30 391 [.ref 0, .int a, .int b, .int c, .int d, .int e] (x_W fi fl fr) fun r S1 => (∃ fs, x_obj S1 281 = some (12, fs)) ∧ x_ev 30 688 [.ref 281, .int a, .int b, .int c, .int d, .int e] S1 (x_finI (x_W fi fl fr) r) := by
  refine g_in (M := x_M391) (L := [some (.ref 0), some (.int a), some (.int b), some (.int c), some (.int d), some (.int e), none]) x_pl391 rfl ?_
  refine g_n 1 (pc' := 1) (L' := [some (.ref 0), some (.int a), some (.int b), some (.int c), some (.int d), some (.int e), none]) (st' := [.int a]) rfl ?_
  refine g_call (ins := .invokestatic 173) (len := 3) (j := 348) (as := [.int a]) (rest := []) rfl rfl rfl rfl (fun _ => rfl) rfl ?_
  refine g_in (M := x_M348) (L := [some (.int a)]) x_pl348 rfl ?_
  refine g_n 1 (pc' := 1) (L' := [some (.int a)]) (st' := [.int a]) rfl ?_
  refine g_br (c := a < (0 : Int32)) (t := 13) (f := 4) (L' := [some (.int a)]) (st' := []) rfl (fun h1 => ?_) (fun h1 => ?_)
  · have p2 : a.toInt ≤ -1 := x_up_lt h1 (by decide)
    refine g_n 1 (pc' := 14) (L' := [some (.int a)]) (st' := [.int 0]) rfl ?_
    refine g_ret (ins := .ireturn) (len := 1) (r := (some (.int 0))) rfl rfl rfl ?_
    refine g_n 2 (pc' := 32) (L' := [some (.ref 0), some (.int a), some (.int b), some (.int c), some (.int d), some (.int e), none]) (st' := [.int (-1)]) rfl ?_
    refine g_ret (ins := .ireturn) (len := 1) (r := (some (.int (-1)))) rfl rfl rfl ?_
    refine ⟨⟨_, rfl⟩, ?_⟩
    refine g_in (M := x_M688) (L := [some (.ref 281), some (.int a), some (.int b), some (.int c), some (.int d), some (.int e), none, none, none, none, none, none, none]) x_pl688 rfl ?_
    refine g_n 2 (pc' := 2) (L' := [some (.ref 281), some (.int a), some (.int b), some (.int c), some (.int d), some (.int e), none, none, none, none, none, none, none]) (st' := [.int a, .ref 281]) rfl ?_
    refine g_call (ins := .invokevirtual 1015) (len := 3) (j := 488) (as := [.ref 281, .int a]) (rest := []) rfl rfl rfl rfl (fun _ => rfl) rfl ?_
    refine g_in (M := x_M488) (L := [some (.ref 281), some (.int a)]) x_pl488 rfl ?_
    refine g_n 1 (pc' := 1) (L' := [some (.ref 281), some (.int a)]) (st' := [.int a]) rfl ?_
    refine g_brT (c := a < (0 : Int32)) (t := 13) (f := 4) (L' := [some (.ref 281), some (.int a)]) (st' := []) rfl (x_Tlt (u := -1) (l := 0) p2 (by decide) (by decide)) ?_
    refine g_n 1 (pc' := 14) (L' := [some (.ref 281), some (.int a)]) (st' := [.int 0]) rfl ?_
    refine g_ret (ins := .ireturn) (len := 1) (r := (some (.int 0))) rfl rfl rfl ?_
    refine g_n 2 (pc' := 37) (L' := [some (.ref 281), some (.int a), some (.int b), some (.int c), some (.int d), some (.int e), none, none, none, none, none, none, none]) (st' := [.int (-1)]) rfl ?_
    exact g_ret (ins := .ireturn) (len := 1) (r := (some (.int (-1)))) rfl rfl rfl ⟨_, rfl, rfl, (x_sv_rf _)⟩
  · have p3 : 0 ≤ a.toInt := x_lo_le (x_nlt h1) (by decide)
    refine g_n 2 (pc' := 6) (L' := [some (.int a)]) (st' := [.int 4, .int a]) rfl ?_
    refine g_br (c := (4 : Int32) ≤ a) (t := 13) (f := 9) (L' := [some (.int a)]) (st' := []) rfl (fun h4 => ?_) (fun h4 => ?_)
    · have p5 : 4 ≤ a.toInt := x_lo_le h4 (by decide)
      refine g_n 1 (pc' := 14) (L' := [some (.int a)]) (st' := [.int 0]) rfl ?_
      refine g_ret (ins := .ireturn) (len := 1) (r := (some (.int 0))) rfl rfl rfl ?_
      refine g_n 2 (pc' := 32) (L' := [some (.ref 0), some (.int a), some (.int b), some (.int c), some (.int d), some (.int e), none]) (st' := [.int (-1)]) rfl ?_
      refine g_ret (ins := .ireturn) (len := 1) (r := (some (.int (-1)))) rfl rfl rfl ?_
      refine ⟨⟨_, rfl⟩, ?_⟩
      refine g_in (M := x_M688) (L := [some (.ref 281), some (.int a), some (.int b), some (.int c), some (.int d), some (.int e), none, none, none, none, none, none, none]) x_pl688 rfl ?_
      refine g_n 2 (pc' := 2) (L' := [some (.ref 281), some (.int a), some (.int b), some (.int c), some (.int d), some (.int e), none, none, none, none, none, none, none]) (st' := [.int a, .ref 281]) rfl ?_
      refine g_call (ins := .invokevirtual 1015) (len := 3) (j := 488) (as := [.ref 281, .int a]) (rest := []) rfl rfl rfl rfl (fun _ => rfl) rfl ?_
      refine g_in (M := x_M488) (L := [some (.ref 281), some (.int a)]) x_pl488 rfl ?_
      refine g_n 1 (pc' := 1) (L' := [some (.ref 281), some (.int a)]) (st' := [.int a]) rfl ?_
      refine g_brF (c := a < (0 : Int32)) (t := 13) (f := 4) (L' := [some (.ref 281), some (.int a)]) (st' := []) rfl (x_Flt (l := 4) (u := 0) p5 (by decide) (by decide)) ?_
      refine g_n 2 (pc' := 6) (L' := [some (.ref 281), some (.int a)]) (st' := [.int 4, .int a]) rfl ?_
      refine g_brT (c := (4 : Int32) ≤ a) (t := 13) (f := 9) (L' := [some (.ref 281), some (.int a)]) (st' := []) rfl (x_Tle (u := 4) (l := 4) (by decide) p5 (by decide)) ?_
      refine g_n 1 (pc' := 14) (L' := [some (.ref 281), some (.int a)]) (st' := [.int 0]) rfl ?_
      refine g_ret (ins := .ireturn) (len := 1) (r := (some (.int 0))) rfl rfl rfl ?_
      refine g_n 2 (pc' := 37) (L' := [some (.ref 281), some (.int a), some (.int b), some (.int c), some (.int d), some (.int e), none, none, none, none, none, none, none]) (st' := [.int (-1)]) rfl ?_
      exact g_ret (ins := .ireturn) (len := 1) (r := (some (.int (-1)))) rfl rfl rfl ⟨_, rfl, rfl, (x_sv_rf _)⟩
    · have p6 : a.toInt ≤ 3 := x_up_lt (x_nle h4) (by decide)
      refine g_n 2 (pc' := 14) (L' := [some (.int a)]) (st' := [.int 1]) rfl ?_
      refine g_ret (ins := .ireturn) (len := 1) (r := (some (.int 1))) rfl rfl rfl ?_
      refine g_n 2 (pc' := 8) (L' := [some (.ref 0), some (.int a), some (.int b), some (.int c), some (.int d), some (.int e), none]) (st' := [.int c]) rfl ?_
      refine g_call (ins := .invokestatic 173) (len := 3) (j := 348) (as := [.int c]) (rest := []) rfl rfl rfl rfl (fun _ => rfl) rfl ?_
      refine g_in (M := x_M348) (L := [some (.int c)]) x_pl348 rfl ?_
      refine g_n 1 (pc' := 1) (L' := [some (.int c)]) (st' := [.int c]) rfl ?_
      refine g_br (c := c < (0 : Int32)) (t := 13) (f := 4) (L' := [some (.int c)]) (st' := []) rfl (fun h7 => ?_) (fun h7 => ?_)
      · have p8 : c.toInt ≤ -1 := x_up_lt h7 (by decide)
        refine g_n 1 (pc' := 14) (L' := [some (.int c)]) (st' := [.int 0]) rfl ?_
        refine g_ret (ins := .ireturn) (len := 1) (r := (some (.int 0))) rfl rfl rfl ?_
        refine g_n 2 (pc' := 32) (L' := [some (.ref 0), some (.int a), some (.int b), some (.int c), some (.int d), some (.int e), none]) (st' := [.int (-1)]) rfl ?_
        refine g_ret (ins := .ireturn) (len := 1) (r := (some (.int (-1)))) rfl rfl rfl ?_
        refine ⟨⟨_, rfl⟩, ?_⟩
        refine g_in (M := x_M688) (L := [some (.ref 281), some (.int a), some (.int b), some (.int c), some (.int d), some (.int e), none, none, none, none, none, none, none]) x_pl688 rfl ?_
        refine g_n 2 (pc' := 2) (L' := [some (.ref 281), some (.int a), some (.int b), some (.int c), some (.int d), some (.int e), none, none, none, none, none, none, none]) (st' := [.int a, .ref 281]) rfl ?_
        refine g_call (ins := .invokevirtual 1015) (len := 3) (j := 488) (as := [.ref 281, .int a]) (rest := []) rfl rfl rfl rfl (fun _ => rfl) rfl ?_
        refine g_in (M := x_M488) (L := [some (.ref 281), some (.int a)]) x_pl488 rfl ?_
        refine g_n 1 (pc' := 1) (L' := [some (.ref 281), some (.int a)]) (st' := [.int a]) rfl ?_
        refine g_brF (c := a < (0 : Int32)) (t := 13) (f := 4) (L' := [some (.ref 281), some (.int a)]) (st' := []) rfl (x_Flt (l := 0) (u := 0) p3 (by decide) (by decide)) ?_
        refine g_n 2 (pc' := 6) (L' := [some (.ref 281), some (.int a)]) (st' := [.int 4, .int a]) rfl ?_
        refine g_brF (c := (4 : Int32) ≤ a) (t := 13) (f := 9) (L' := [some (.ref 281), some (.int a)]) (st' := []) rfl (x_Fle (l := 4) (u := 3) (by decide) p6 (by decide)) ?_
        refine g_n 2 (pc' := 14) (L' := [some (.ref 281), some (.int a)]) (st' := [.int 1]) rfl ?_
        refine g_ret (ins := .ireturn) (len := 1) (r := (some (.int 1))) rfl rfl rfl ?_
        refine g_n 3 (pc' := 10) (L' := [some (.ref 281), some (.int a), some (.int b), some (.int c), some (.int d), some (.int e), none, none, none, none, none, none, none]) (st' := [.int c, .ref 281]) rfl ?_
        refine g_call (ins := .invokevirtual 1015) (len := 3) (j := 488) (as := [.ref 281, .int c]) (rest := []) rfl rfl rfl rfl (fun _ => rfl) rfl ?_
        refine g_in (M := x_M488) (L := [some (.ref 281), some (.int c)]) x_pl488 rfl ?_
        refine g_n 1 (pc' := 1) (L' := [some (.ref 281), some (.int c)]) (st' := [.int c]) rfl ?_
        refine g_brT (c := c < (0 : Int32)) (t := 13) (f := 4) (L' := [some (.ref 281), some (.int c)]) (st' := []) rfl (x_Tlt (u := -1) (l := 0) p8 (by decide) (by decide)) ?_
        refine g_n 1 (pc' := 14) (L' := [some (.ref 281), some (.int c)]) (st' := [.int 0]) rfl ?_
        refine g_ret (ins := .ireturn) (len := 1) (r := (some (.int 0))) rfl rfl rfl ?_
        refine g_n 2 (pc' := 37) (L' := [some (.ref 281), some (.int a), some (.int b), some (.int c), some (.int d), some (.int e), none, none, none, none, none, none, none]) (st' := [.int (-1)]) rfl ?_
        exact g_ret (ins := .ireturn) (len := 1) (r := (some (.int (-1)))) rfl rfl rfl ⟨_, rfl, rfl, (x_sv_rf _)⟩
      · have p9 : 0 ≤ c.toInt := x_lo_le (x_nlt h7) (by decide)
        refine g_n 2 (pc' := 6) (L' := [some (.int c)]) (st' := [.int 4, .int c]) rfl ?_
        refine g_br (c := (4 : Int32) ≤ c) (t := 13) (f := 9) (L' := [some (.int c)]) (st' := []) rfl (fun h10 => ?_) (fun h10 => ?_)
        · have p11 : 4 ≤ c.toInt := x_lo_le h10 (by decide)
          refine g_n 1 (pc' := 14) (L' := [some (.int c)]) (st' := [.int 0]) rfl ?_
          refine g_ret (ins := .ireturn) (len := 1) (r := (some (.int 0))) rfl rfl rfl ?_
          refine g_n 2 (pc' := 32) (L' := [some (.ref 0), some (.int a), some (.int b), some (.int c), some (.int d), some (.int e), none]) (st' := [.int (-1)]) rfl ?_
          refine g_ret (ins := .ireturn) (len := 1) (r := (some (.int (-1)))) rfl rfl rfl ?_
          refine ⟨⟨_, rfl⟩, ?_⟩
          refine g_in (M := x_M688) (L := [some (.ref 281), some (.int a), some (.int b), some (.int c), some (.int d), some (.int e), none, none, none, none, none, none, none]) x_pl688 rfl ?_
          refine g_n 2 (pc' := 2) (L' := [some (.ref 281), some (.int a), some (.int b), some (.int c), some (.int d), some (.int e), none, none, none, none, none, none, none]) (st' := [.int a, .ref 281]) rfl ?_
          refine g_call (ins := .invokevirtual 1015) (len := 3) (j := 488) (as := [.ref 281, .int a]) (rest := []) rfl rfl rfl rfl (fun _ => rfl) rfl ?_
          refine g_in (M := x_M488) (L := [some (.ref 281), some (.int a)]) x_pl488 rfl ?_
          refine g_n 1 (pc' := 1) (L' := [some (.ref 281), some (.int a)]) (st' := [.int a]) rfl ?_
          refine g_brF (c := a < (0 : Int32)) (t := 13) (f := 4) (L' := [some (.ref 281), some (.int a)]) (st' := []) rfl (x_Flt (l := 0) (u := 0) p3 (by decide) (by decide)) ?_
          refine g_n 2 (pc' := 6) (L' := [some (.ref 281), some (.int a)]) (st' := [.int 4, .int a]) rfl ?_
          refine g_brF (c := (4 : Int32) ≤ a) (t := 13) (f := 9) (L' := [some (.ref 281), some (.int a)]) (st' := []) rfl (x_Fle (l := 4) (u := 3) (by decide) p6 (by decide)) ?_
          refine g_n 2 (pc' := 14) (L' := [some (.ref 281), some (.int a)]) (st' := [.int 1]) rfl ?_
          refine g_ret (ins := .ireturn) (len := 1) (r := (some (.int 1))) rfl rfl rfl ?_
          refine g_n 3 (pc' := 10) (L' := [some (.ref 281), some (.int a), some (.int b), some (.int c), some (.int d), some (.int e), none, none, none, none, none, none, none]) (st' := [.int c, .ref 281]) rfl ?_
          refine g_call (ins := .invokevirtual 1015) (len := 3) (j := 488) (as := [.ref 281, .int c]) (rest := []) rfl rfl rfl rfl (fun _ => rfl) rfl ?_
          refine g_in (M := x_M488) (L := [some (.ref 281), some (.int c)]) x_pl488 rfl ?_
          refine g_n 1 (pc' := 1) (L' := [some (.ref 281), some (.int c)]) (st' := [.int c]) rfl ?_
          refine g_brF (c := c < (0 : Int32)) (t := 13) (f := 4) (L' := [some (.ref 281), some (.int c)]) (st' := []) rfl (x_Flt (l := 4) (u := 0) p11 (by decide) (by decide)) ?_
          refine g_n 2 (pc' := 6) (L' := [some (.ref 281), some (.int c)]) (st' := [.int 4, .int c]) rfl ?_
          refine g_brT (c := (4 : Int32) ≤ c) (t := 13) (f := 9) (L' := [some (.ref 281), some (.int c)]) (st' := []) rfl (x_Tle (u := 4) (l := 4) (by decide) p11 (by decide)) ?_
          refine g_n 1 (pc' := 14) (L' := [some (.ref 281), some (.int c)]) (st' := [.int 0]) rfl ?_
          refine g_ret (ins := .ireturn) (len := 1) (r := (some (.int 0))) rfl rfl rfl ?_
          refine g_n 2 (pc' := 37) (L' := [some (.ref 281), some (.int a), some (.int b), some (.int c), some (.int d), some (.int e), none, none, none, none, none, none, none]) (st' := [.int (-1)]) rfl ?_
          exact g_ret (ins := .ireturn) (len := 1) (r := (some (.int (-1)))) rfl rfl rfl ⟨_, rfl, rfl, (x_sv_rf _)⟩
        · have p12 : c.toInt ≤ 3 := x_up_lt (x_nle h10) (by decide)
          refine g_n 2 (pc' := 14) (L' := [some (.int c)]) (st' := [.int 1]) rfl ?_
          refine g_ret (ins := .ireturn) (len := 1) (r := (some (.int 1))) rfl rfl rfl ?_
          refine g_n 2 (pc' := 15) (L' := [some (.ref 0), some (.int a), some (.int b), some (.int c), some (.int d), some (.int e), none]) (st' := [.int b]) rfl ?_
          refine g_br (c := b < (0 : Int32)) (t := 31) (f := 18) (L' := [some (.ref 0), some (.int a), some (.int b), some (.int c), some (.int d), some (.int e), none]) (st' := []) rfl (fun h13 => ?_) (fun h13 => ?_)
          · have p14 : b.toInt ≤ -1 := x_up_lt h13 (by decide)
            refine g_n 1 (pc' := 32) (L' := [some (.ref 0), some (.int a), some (.int b), some (.int c), some (.int d), some (.int e), none]) (st' := [.int (-1)]) rfl ?_
            refine g_ret (ins := .ireturn) (len := 1) (r := (some (.int (-1)))) rfl rfl rfl ?_
            refine ⟨⟨_, rfl⟩, ?_⟩
            refine g_in (M := x_M688) (L := [some (.ref 281), some (.int a), some (.int b), some (.int c), some (.int d), some (.int e), none, none, none, none, none, none, none]) x_pl688 rfl ?_
            refine g_n 2 (pc' := 2) (L' := [some (.ref 281), some (.int a), some (.int b), some (.int c), some (.int d), some (.int e), none, none, none, none, none, none, none]) (st' := [.int a, .ref 281]) rfl ?_
            refine g_call (ins := .invokevirtual 1015) (len := 3) (j := 488) (as := [.ref 281, .int a]) (rest := []) rfl rfl rfl rfl (fun _ => rfl) rfl ?_
            refine g_in (M := x_M488) (L := [some (.ref 281), some (.int a)]) x_pl488 rfl ?_
            refine g_n 1 (pc' := 1) (L' := [some (.ref 281), some (.int a)]) (st' := [.int a]) rfl ?_
            refine g_brF (c := a < (0 : Int32)) (t := 13) (f := 4) (L' := [some (.ref 281), some (.int a)]) (st' := []) rfl (x_Flt (l := 0) (u := 0) p3 (by decide) (by decide)) ?_
            refine g_n 2 (pc' := 6) (L' := [some (.ref 281), some (.int a)]) (st' := [.int 4, .int a]) rfl ?_
            refine g_brF (c := (4 : Int32) ≤ a) (t := 13) (f := 9) (L' := [some (.ref 281), some (.int a)]) (st' := []) rfl (x_Fle (l := 4) (u := 3) (by decide) p6 (by decide)) ?_
            refine g_n 2 (pc' := 14) (L' := [some (.ref 281), some (.int a)]) (st' := [.int 1]) rfl ?_
            refine g_ret (ins := .ireturn) (len := 1) (r := (some (.int 1))) rfl rfl rfl ?_
            refine g_n 3 (pc' := 10) (L' := [some (.ref 281), some (.int a), some (.int b), some (.int c), some (.int d), some (.int e), none, none, none, none, none, none, none]) (st' := [.int c, .ref 281]) rfl ?_
            refine g_call (ins := .invokevirtual 1015) (len := 3) (j := 488) (as := [.ref 281, .int c]) (rest := []) rfl rfl rfl rfl (fun _ => rfl) rfl ?_
            refine g_in (M := x_M488) (L := [some (.ref 281), some (.int c)]) x_pl488 rfl ?_
            refine g_n 1 (pc' := 1) (L' := [some (.ref 281), some (.int c)]) (st' := [.int c]) rfl ?_
            refine g_brF (c := c < (0 : Int32)) (t := 13) (f := 4) (L' := [some (.ref 281), some (.int c)]) (st' := []) rfl (x_Flt (l := 0) (u := 0) p9 (by decide) (by decide)) ?_
            refine g_n 2 (pc' := 6) (L' := [some (.ref 281), some (.int c)]) (st' := [.int 4, .int c]) rfl ?_
            refine g_brF (c := (4 : Int32) ≤ c) (t := 13) (f := 9) (L' := [some (.ref 281), some (.int c)]) (st' := []) rfl (x_Fle (l := 4) (u := 3) (by decide) p12 (by decide)) ?_
            refine g_n 2 (pc' := 14) (L' := [some (.ref 281), some (.int c)]) (st' := [.int 1]) rfl ?_
            refine g_ret (ins := .ireturn) (len := 1) (r := (some (.int 1))) rfl rfl rfl ?_
            refine g_n 2 (pc' := 18) (L' := [some (.ref 281), some (.int a), some (.int b), some (.int c), some (.int d), some (.int e), none, none, none, none, none, none, none]) (st' := [.int e]) rfl ?_
            refine g_br (c := e < (0 : Int32)) (t := 36) (f := 21) (L' := [some (.ref 281), some (.int a), some (.int b), some (.int c), some (.int d), some (.int e), none, none, none, none, none, none, none]) (st' := []) rfl (fun h15 => ?_) (fun h15 => ?_)
            · have p16 : e.toInt ≤ -1 := x_up_lt h15 (by decide)
              refine g_n 1 (pc' := 37) (L' := [some (.ref 281), some (.int a), some (.int b), some (.int c), some (.int d), some (.int e), none, none, none, none, none, none, none]) (st' := [.int (-1)]) rfl ?_
              exact g_ret (ins := .ireturn) (len := 1) (r := (some (.int (-1)))) rfl rfl rfl ⟨_, rfl, rfl, (x_sv_rf _)⟩
            · have p17 : 0 ≤ e.toInt := x_lo_le (x_nlt h15) (by decide)
              refine g_n 2 (pc' := 24) (L' := [some (.ref 281), some (.int a), some (.int b), some (.int c), some (.int d), some (.int e), none, none, none, none, none, none, none]) (st' := [.int 2, .int e]) rfl ?_
              refine g_br (c := (2 : Int32) < e) (t := 36) (f := 27) (L' := [some (.ref 281), some (.int a), some (.int b), some (.int c), some (.int d), some (.int e), none, none, none, none, none, none, none]) (st' := []) rfl (fun h18 => ?_) (fun h18 => ?_)
              · have p19 : 3 ≤ e.toInt := x_lo_lt h18 (by decide)
                refine g_n 1 (pc' := 37) (L' := [some (.ref 281), some (.int a), some (.int b), some (.int c), some (.int d), some (.int e), none, none, none, none, none, none, none]) (st' := [.int (-1)]) rfl ?_
                exact g_ret (ins := .ireturn) (len := 1) (r := (some (.int (-1)))) rfl rfl rfl ⟨_, rfl, rfl, (x_sv_rf _)⟩
              · have p20 : e.toInt ≤ 2 := x_up_le (x_nlt h18) (by decide)
                refine g_n 1 (pc' := 28) (L' := [some (.ref 281), some (.int a), some (.int b), some (.int c), some (.int d), some (.int e), none, none, none, none, none, none, none]) (st' := [.int b]) rfl ?_
                refine g_brT (c := b < (0 : Int32)) (t := 36) (f := 31) (L' := [some (.ref 281), some (.int a), some (.int b), some (.int c), some (.int d), some (.int e), none, none, none, none, none, none, none]) (st' := []) rfl (x_Tlt (u := -1) (l := 0) p14 (by decide) (by decide)) ?_
                refine g_n 1 (pc' := 37) (L' := [some (.ref 281), some (.int a), some (.int b), some (.int c), some (.int d), some (.int e), none, none, none, none, none, none, none]) (st' := [.int (-1)]) rfl ?_
                exact g_ret (ins := .ireturn) (len := 1) (r := (some (.int (-1)))) rfl rfl rfl ⟨_, rfl, rfl, (x_sv_rf _)⟩
          · have p21 : 0 ≤ b.toInt := x_lo_le (x_nlt h13) (by decide)
            refine g_n 1 (pc' := 20) (L' := [some (.ref 0), some (.int a), some (.int b), some (.int c), some (.int d), some (.int e), none]) (st' := [.int d]) rfl ?_
            refine g_br (c := d < (0 : Int32)) (t := 31) (f := 23) (L' := [some (.ref 0), some (.int a), some (.int b), some (.int c), some (.int d), some (.int e), none]) (st' := []) rfl (fun h22 => ?_) (fun h22 => ?_)
            · have p23 : d.toInt ≤ -1 := x_up_lt h22 (by decide)
              refine g_n 1 (pc' := 32) (L' := [some (.ref 0), some (.int a), some (.int b), some (.int c), some (.int d), some (.int e), none]) (st' := [.int (-1)]) rfl ?_
              refine g_ret (ins := .ireturn) (len := 1) (r := (some (.int (-1)))) rfl rfl rfl ?_
              refine ⟨⟨_, rfl⟩, ?_⟩
              refine g_in (M := x_M688) (L := [some (.ref 281), some (.int a), some (.int b), some (.int c), some (.int d), some (.int e), none, none, none, none, none, none, none]) x_pl688 rfl ?_
              refine g_n 2 (pc' := 2) (L' := [some (.ref 281), some (.int a), some (.int b), some (.int c), some (.int d), some (.int e), none, none, none, none, none, none, none]) (st' := [.int a, .ref 281]) rfl ?_
              refine g_call (ins := .invokevirtual 1015) (len := 3) (j := 488) (as := [.ref 281, .int a]) (rest := []) rfl rfl rfl rfl (fun _ => rfl) rfl ?_
              refine g_in (M := x_M488) (L := [some (.ref 281), some (.int a)]) x_pl488 rfl ?_
              refine g_n 1 (pc' := 1) (L' := [some (.ref 281), some (.int a)]) (st' := [.int a]) rfl ?_
              refine g_brF (c := a < (0 : Int32)) (t := 13) (f := 4) (L' := [some (.ref 281), some (.int a)]) (st' := []) rfl (x_Flt (l := 0) (u := 0) p3 (by decide) (by decide)) ?_
              refine g_n 2 (pc' := 6) (L' := [some (.ref 281), some (.int a)]) (st' := [.int 4, .int a]) rfl ?_
              refine g_brF (c := (4 : Int32) ≤ a) (t := 13) (f := 9) (L' := [some (.ref 281), some (.int a)]) (st' := []) rfl (x_Fle (l := 4) (u := 3) (by decide) p6 (by decide)) ?_
              refine g_n 2 (pc' := 14) (L' := [some (.ref 281), some (.int a)]) (st' := [.int 1]) rfl ?_
              refine g_ret (ins := .ireturn) (len := 1) (r := (some (.int 1))) rfl rfl rfl ?_
              refine g_n 3 (pc' := 10) (L' := [some (.ref 281), some (.int a), some (.int b), some (.int c), some (.int d), some (.int e), none, none, none, none, none, none, none]) (st' := [.int c, .ref 281]) rfl ?_
              refine g_call (ins := .invokevirtual 1015) (len := 3) (j := 488) (as := [.ref 281, .int c]) (rest := []) rfl rfl rfl rfl (fun _ => rfl) rfl ?_
              refine g_in (M := x_M488) (L := [some (.ref 281), some (.int c)]) x_pl488 rfl ?_
              refine g_n 1 (pc' := 1) (L' := [some (.ref 281), some (.int c)]) (st' := [.int c]) rfl ?_
              refine g_brF (c := c < (0 : Int32)) (t := 13) (f := 4) (L' := [some (.ref 281), some (.int c)]) (st' := []) rfl (x_Flt (l := 0) (u := 0) p9 (by decide) (by decide)) ?_
              refine g_n 2 (pc' := 6) (L' := [some (.ref 281), some (.int c)]) (st' := [.int 4, .int c]) rfl ?_
              refine g_brF (c := (4 : Int32) ≤ c) (t := 13) (f := 9) (L' := [some (.ref 281), some (.int c)]) (st' := []) rfl (x_Fle (l := 4) (u := 3) (by decide) p12 (by decide)) ?_
              refine g_n 2 (pc' := 14) (L' := [some (.ref 281), some (.int c)]) (st' := [.int 1]) rfl ?_
              refine g_ret (ins := .ireturn) (len := 1) (r := (some (.int 1))) rfl rfl rfl ?_
              refine g_n 2 (pc' := 18) (L' := [some (.ref 281), some (.int a), some (.int b), some (.int c), some (.int d), some (.int e), none, none, none, none, none, none, none]) (st' := [.int e]) rfl ?_
              refine g_br (c := e < (0 : Int32)) (t := 36) (f := 21) (L' := [some (.ref 281), some (.int a), some (.int b), some (.int c), some (.int d), some (.int e), none, none, none, none, none, none, none]) (st' := []) rfl (fun h24 => ?_) (fun h24 => ?_)
              · have p25 : e.toInt ≤ -1 := x_up_lt h24 (by decide)
                refine g_n 1 (pc' := 37) (L' := [some (.ref 281), some (.int a), some (.int b), some (.int c), some (.int d), some (.int e), none, none, none, none, none, none, none]) (st' := [.int (-1)]) rfl ?_
                exact g_ret (ins := .ireturn) (len := 1) (r := (some (.int (-1)))) rfl rfl rfl ⟨_, rfl, rfl, (x_sv_rf _)⟩
              · have p26 : 0 ≤ e.toInt := x_lo_le (x_nlt h24) (by decide)
                refine g_n 2 (pc' := 24) (L' := [some (.ref 281), some (.int a), some (.int b), some (.int c), some (.int d), some (.int e), none, none, none, none, none, none, none]) (st' := [.int 2, .int e]) rfl ?_
                refine g_br (c := (2 : Int32) < e) (t := 36) (f := 27) (L' := [some (.ref 281), some (.int a), some (.int b), some (.int c), some (.int d), some (.int e), none, none, none, none, none, none, none]) (st' := []) rfl (fun h27 => ?_) (fun h27 => ?_)
                · have p28 : 3 ≤ e.toInt := x_lo_lt h27 (by decide)
                  refine g_n 1 (pc' := 37) (L' := [some (.ref 281), some (.int a), some (.int b), some (.int c), some (.int d), some (.int e), none, none, none, none, none, none, none]) (st' := [.int (-1)]) rfl ?_
                  exact g_ret (ins := .ireturn) (len := 1) (r := (some (.int (-1)))) rfl rfl rfl ⟨_, rfl, rfl, (x_sv_rf _)⟩
                · have p29 : e.toInt ≤ 2 := x_up_le (x_nlt h27) (by decide)
                  refine g_n 1 (pc' := 28) (L' := [some (.ref 281), some (.int a), some (.int b), some (.int c), some (.int d), some (.int e), none, none, none, none, none, none, none]) (st' := [.int b]) rfl ?_
                  refine g_brF (c := b < (0 : Int32)) (t := 36) (f := 31) (L' := [some (.ref 281), some (.int a), some (.int b), some (.int c), some (.int d), some (.int e), none, none, none, none, none, none, none]) (st' := []) rfl (x_Flt (l := 0) (u := 0) p21 (by decide) (by decide)) ?_
                  refine g_n 1 (pc' := 33) (L' := [some (.ref 281), some (.int a), some (.int b), some (.int c), some (.int d), some (.int e), none, none, none, none, none, none, none]) (st' := [.int d]) rfl ?_
                  refine g_brF (c := (0 : Int32) ≤ d) (t := 38) (f := 36) (L' := [some (.ref 281), some (.int a), some (.int b), some (.int c), some (.int d), some (.int e), none, none, none, none, none, none, none]) (st' := []) rfl (x_Fle (l := 0) (u := -1) (by decide) p23 (by decide)) ?_
                  refine g_n 1 (pc' := 37) (L' := [some (.ref 281), some (.int a), some (.int b), some (.int c), some (.int d), some (.int e), none, none, none, none, none, none, none]) (st' := [.int (-1)]) rfl ?_
                  exact g_ret (ins := .ireturn) (len := 1) (r := (some (.int (-1)))) rfl rfl rfl ⟨_, rfl, rfl, (x_sv_rf _)⟩
            · have p30 : 0 ≤ d.toInt := x_lo_le (x_nlt h22) (by decide)
              refine g_n 1 (pc' := 25) (L' := [some (.ref 0), some (.int a), some (.int b), some (.int c), some (.int d), some (.int e), none]) (st' := [.int e]) rfl ?_
              refine g_call (ins := .invokestatic 354) (len := 3) (j := 351) (as := [.int e]) (rest := []) rfl rfl rfl rfl (fun _ => rfl) rfl ?_
              refine g_in (M := x_M351) (L := [some (.int e)]) x_pl351 rfl ?_
              refine g_n 1 (pc' := 1) (L' := [some (.int e)]) (st' := [.int e]) rfl ?_
              refine g_br (c := e < (0 : Int32)) (t := 13) (f := 4) (L' := [some (.int e)]) (st' := []) rfl (fun h31 => ?_) (fun h31 => ?_)
              · have p32 : e.toInt ≤ -1 := x_up_lt h31 (by decide)
                refine g_n 1 (pc' := 14) (L' := [some (.int e)]) (st' := [.int 0]) rfl ?_
                refine g_ret (ins := .ireturn) (len := 1) (r := (some (.int 0))) rfl rfl rfl ?_
                refine g_n 2 (pc' := 32) (L' := [some (.ref 0), some (.int a), some (.int b), some (.int c), some (.int d), some (.int e), none]) (st' := [.int (-1)]) rfl ?_
                refine g_ret (ins := .ireturn) (len := 1) (r := (some (.int (-1)))) rfl rfl rfl ?_
                refine ⟨⟨_, rfl⟩, ?_⟩
                refine g_in (M := x_M688) (L := [some (.ref 281), some (.int a), some (.int b), some (.int c), some (.int d), some (.int e), none, none, none, none, none, none, none]) x_pl688 rfl ?_
                refine g_n 2 (pc' := 2) (L' := [some (.ref 281), some (.int a), some (.int b), some (.int c), some (.int d), some (.int e), none, none, none, none, none, none, none]) (st' := [.int a, .ref 281]) rfl ?_
                refine g_call (ins := .invokevirtual 1015) (len := 3) (j := 488) (as := [.ref 281, .int a]) (rest := []) rfl rfl rfl rfl (fun _ => rfl) rfl ?_
                refine g_in (M := x_M488) (L := [some (.ref 281), some (.int a)]) x_pl488 rfl ?_
                refine g_n 1 (pc' := 1) (L' := [some (.ref 281), some (.int a)]) (st' := [.int a]) rfl ?_
                refine g_brF (c := a < (0 : Int32)) (t := 13) (f := 4) (L' := [some (.ref 281), some (.int a)]) (st' := []) rfl (x_Flt (l := 0) (u := 0) p3 (by decide) (by decide)) ?_
                refine g_n 2 (pc' := 6) (L' := [some (.ref 281), some (.int a)]) (st' := [.int 4, .int a]) rfl ?_
                refine g_brF (c := (4 : Int32) ≤ a) (t := 13) (f := 9) (L' := [some (.ref 281), some (.int a)]) (st' := []) rfl (x_Fle (l := 4) (u := 3) (by decide) p6 (by decide)) ?_
                refine g_n 2 (pc' := 14) (L' := [some (.ref 281), some (.int a)]) (st' := [.int 1]) rfl ?_
                refine g_ret (ins := .ireturn) (len := 1) (r := (some (.int 1))) rfl rfl rfl ?_
                refine g_n 3 (pc' := 10) (L' := [some (.ref 281), some (.int a), some (.int b), some (.int c), some (.int d), some (.int e), none, none, none, none, none, none, none]) (st' := [.int c, .ref 281]) rfl ?_
                refine g_call (ins := .invokevirtual 1015) (len := 3) (j := 488) (as := [.ref 281, .int c]) (rest := []) rfl rfl rfl rfl (fun _ => rfl) rfl ?_
                refine g_in (M := x_M488) (L := [some (.ref 281), some (.int c)]) x_pl488 rfl ?_
                refine g_n 1 (pc' := 1) (L' := [some (.ref 281), some (.int c)]) (st' := [.int c]) rfl ?_
                refine g_brF (c := c < (0 : Int32)) (t := 13) (f := 4) (L' := [some (.ref 281), some (.int c)]) (st' := []) rfl (x_Flt (l := 0) (u := 0) p9 (by decide) (by decide)) ?_
                refine g_n 2 (pc' := 6) (L' := [some (.ref 281), some (.int c)]) (st' := [.int 4, .int c]) rfl ?_
                refine g_brF (c := (4 : Int32) ≤ c) (t := 13) (f := 9) (L' := [some (.ref 281), some (.int c)]) (st' := []) rfl (x_Fle (l := 4) (u := 3) (by decide) p12 (by decide)) ?_
                refine g_n 2 (pc' := 14) (L' := [some (.ref 281), some (.int c)]) (st' := [.int 1]) rfl ?_
                refine g_ret (ins := .ireturn) (len := 1) (r := (some (.int 1))) rfl rfl rfl ?_
                refine g_n 2 (pc' := 18) (L' := [some (.ref 281), some (.int a), some (.int b), some (.int c), some (.int d), some (.int e), none, none, none, none, none, none, none]) (st' := [.int e]) rfl ?_
                refine g_brT (c := e < (0 : Int32)) (t := 36) (f := 21) (L' := [some (.ref 281), some (.int a), some (.int b), some (.int c), some (.int d), some (.int e), none, none, none, none, none, none, none]) (st' := []) rfl (x_Tlt (u := -1) (l := 0) p32 (by decide) (by decide)) ?_
                refine g_n 1 (pc' := 37) (L' := [some (.ref 281), some (.int a), some (.int b), some (.int c), some (.int d), some (.int e), none, none, none, none, none, none, none]) (st' := [.int (-1)]) rfl ?_
                exact g_ret (ins := .ireturn) (len := 1) (r := (some (.int (-1)))) rfl rfl rfl ⟨_, rfl, rfl, (x_sv_rf _)⟩
              · have p33 : 0 ≤ e.toInt := x_lo_le (x_nlt h31) (by decide)
                refine g_n 2 (pc' := 6) (L' := [some (.int e)]) (st' := [.int 2, .int e]) rfl ?_
                refine g_br (c := (2 : Int32) < e) (t := 13) (f := 9) (L' := [some (.int e)]) (st' := []) rfl (fun h34 => ?_) (fun h34 => ?_)
                · have p35 : 3 ≤ e.toInt := x_lo_lt h34 (by decide)
                  refine g_n 1 (pc' := 14) (L' := [some (.int e)]) (st' := [.int 0]) rfl ?_
                  refine g_ret (ins := .ireturn) (len := 1) (r := (some (.int 0))) rfl rfl rfl ?_
                  refine g_n 2 (pc' := 32) (L' := [some (.ref 0), some (.int a), some (.int b), some (.int c), some (.int d), some (.int e), none]) (st' := [.int (-1)]) rfl ?_
                  refine g_ret (ins := .ireturn) (len := 1) (r := (some (.int (-1)))) rfl rfl rfl ?_
                  refine ⟨⟨_, rfl⟩, ?_⟩
                  refine g_in (M := x_M688) (L := [some (.ref 281), some (.int a), some (.int b), some (.int c), some (.int d), some (.int e), none, none, none, none, none, none, none]) x_pl688 rfl ?_
                  refine g_n 2 (pc' := 2) (L' := [some (.ref 281), some (.int a), some (.int b), some (.int c), some (.int d), some (.int e), none, none, none, none, none, none, none]) (st' := [.int a, .ref 281]) rfl ?_
                  refine g_call (ins := .invokevirtual 1015) (len := 3) (j := 488) (as := [.ref 281, .int a]) (rest := []) rfl rfl rfl rfl (fun _ => rfl) rfl ?_
                  refine g_in (M := x_M488) (L := [some (.ref 281), some (.int a)]) x_pl488 rfl ?_
                  refine g_n 1 (pc' := 1) (L' := [some (.ref 281), some (.int a)]) (st' := [.int a]) rfl ?_
                  refine g_brF (c := a < (0 : Int32)) (t := 13) (f := 4) (L' := [some (.ref 281), some (.int a)]) (st' := []) rfl (x_Flt (l := 0) (u := 0) p3 (by decide) (by decide)) ?_
                  refine g_n 2 (pc' := 6) (L' := [some (.ref 281), some (.int a)]) (st' := [.int 4, .int a]) rfl ?_
                  refine g_brF (c := (4 : Int32) ≤ a) (t := 13) (f := 9) (L' := [some (.ref 281), some (.int a)]) (st' := []) rfl (x_Fle (l := 4) (u := 3) (by decide) p6 (by decide)) ?_
                  refine g_n 2 (pc' := 14) (L' := [some (.ref 281), some (.int a)]) (st' := [.int 1]) rfl ?_
                  refine g_ret (ins := .ireturn) (len := 1) (r := (some (.int 1))) rfl rfl rfl ?_
                  refine g_n 3 (pc' := 10) (L' := [some (.ref 281), some (.int a), some (.int b), some (.int c), some (.int d), some (.int e), none, none, none, none, none, none, none]) (st' := [.int c, .ref 281]) rfl ?_
                  refine g_call (ins := .invokevirtual 1015) (len := 3) (j := 488) (as := [.ref 281, .int c]) (rest := []) rfl rfl rfl rfl (fun _ => rfl) rfl ?_
                  refine g_in (M := x_M488) (L := [some (.ref 281), some (.int c)]) x_pl488 rfl ?_
                  refine g_n 1 (pc' := 1) (L' := [some (.ref 281), some (.int c)]) (st' := [.int c]) rfl ?_
                  refine g_brF (c := c < (0 : Int32)) (t := 13) (f := 4) (L' := [some (.ref 281), some (.int c)]) (st' := []) rfl (x_Flt (l := 0) (u := 0) p9 (by decide) (by decide)) ?_
                  refine g_n 2 (pc' := 6) (L' := [some (.ref 281), some (.int c)]) (st' := [.int 4, .int c]) rfl ?_
                  refine g_brF (c := (4 : Int32) ≤ c) (t := 13) (f := 9) (L' := [some (.ref 281), some (.int c)]) (st' := []) rfl (x_Fle (l := 4) (u := 3) (by decide) p12 (by decide)) ?_
                  refine g_n 2 (pc' := 14) (L' := [some (.ref 281), some (.int c)]) (st' := [.int 1]) rfl ?_
                  refine g_ret (ins := .ireturn) (len := 1) (r := (some (.int 1))) rfl rfl rfl ?_
                  refine g_n 2 (pc' := 18) (L' := [some (.ref 281), some (.int a), some (.int b), some (.int c), some (.int d), some (.int e), none, none, none, none, none, none, none]) (st' := [.int e]) rfl ?_
                  refine g_brF (c := e < (0 : Int32)) (t := 36) (f := 21) (L' := [some (.ref 281), some (.int a), some (.int b), some (.int c), some (.int d), some (.int e), none, none, none, none, none, none, none]) (st' := []) rfl (x_Flt (l := 3) (u := 0) p35 (by decide) (by decide)) ?_
                  refine g_n 2 (pc' := 24) (L' := [some (.ref 281), some (.int a), some (.int b), some (.int c), some (.int d), some (.int e), none, none, none, none, none, none, none]) (st' := [.int 2, .int e]) rfl ?_
                  refine g_brT (c := (2 : Int32) < e) (t := 36) (f := 27) (L' := [some (.ref 281), some (.int a), some (.int b), some (.int c), some (.int d), some (.int e), none, none, none, none, none, none, none]) (st' := []) rfl (x_Tlt (u := 2) (l := 3) (by decide) p35 (by decide)) ?_
                  refine g_n 1 (pc' := 37) (L' := [some (.ref 281), some (.int a), some (.int b), some (.int c), some (.int d), some (.int e), none, none, none, none, none, none, none]) (st' := [.int (-1)]) rfl ?_
                  exact g_ret (ins := .ireturn) (len := 1) (r := (some (.int (-1)))) rfl rfl rfl ⟨_, rfl, rfl, (x_sv_rf _)⟩
                · have p36 : e.toInt ≤ 2 := x_up_le (x_nlt h34) (by decide)
                  refine g_n 2 (pc' := 14) (L' := [some (.int e)]) (st' := [.int 1]) rfl ?_
                  refine g_ret (ins := .ireturn) (len := 1) (r := (some (.int 1))) rfl rfl rfl ?_
                  refine g_n 4 (pc' := 38) (L' := [some (.ref 0), some (.int a), some (.int b), some (.int c), some (.int d), some (.int e), none]) (st' := [.int a, .ref 2]) rfl ?_
                  by_cases h37 : a = 0
                  · have e38 : a = 0 := h37
                    subst e38
                    refine g_aa (i := 0) (a := 2) (n := 4) (v := 27) rfl rfl (by decide) (x_at (x_f2 hF) (k := 0) rfl) ?_
                    refine g_n 9 (pc' := 75) (L' := [some (.ref 0), some (.int 0), some (.int b), some (.int c), some (.int d), some (.int e), some (.int 0)]) (st' := [.int c, .ref 2]) rfl ?_
                    by_cases h39 : c = 0
                    · have e40 : c = 0 := h39
                      subst e40
                      refine g_aa (i := 0) (a := 2) (n := 4) (v := 27) rfl rfl (by decide) (x_at (x_f2 hF) (k := 0) rfl) ?_
                      refine g_n 5 (pc' := 103) (L' := [some (.ref 0), some (.int 0), some (.int b), some (.int 0), some (.int d), some (.int e), some (.int 0)]) (st' := [.int 0, .ref 2]) rfl ?_
                      refine g_aa (i := 0) (a := 2) (n := 4) (v := 27) rfl rfl (by decide) (x_at (x_f2 hF) (k := 0) rfl) ?_
                      refine g_n 3 (pc' := 124) (L' := [some (.ref 0), some (.int 0), some (.int b), some (.int 0), some (.int d), some (.int e), some (.int 0)]) (st' := [.int (-2)]) rfl ?_
                      refine g_ret (ins := .ireturn) (len := 1) (r := (some (.int (-2)))) rfl rfl rfl ?_
                      refine ⟨⟨_, rfl⟩, ?_⟩
                      refine g_in (M := x_M688) (L := [some (.ref 281), some (.int 0), some (.int b), some (.int 0), some (.int d), some (.int e), none, none, none, none, none, none, none]) x_pl688 rfl ?_
                      refine g_n 2 (pc' := 2) (L' := [some (.ref 281), some (.int 0), some (.int b), some (.int 0), some (.int d), some (.int e), none, none, none, none, none, none, none]) (st' := [.int 0, .ref 281]) rfl ?_
                      refine g_call (ins := .invokevirtual 1015) (len := 3) (j := 488) (as := [.ref 281, .int 0]) (rest := []) rfl rfl rfl rfl (fun _ => rfl) rfl ?_
                      refine g_in (M := x_M488) (L := [some (.ref 281), some (.int 0)]) x_pl488 rfl ?_
                      refine g_n 7 (pc' := 14) (L' := [some (.ref 281), some (.int 0)]) (st' := [.int 1]) rfl ?_
                      refine g_ret (ins := .ireturn) (len := 1) (r := (some (.int 1))) rfl rfl rfl ?_
                      refine g_n 3 (pc' := 10) (L' := [some (.ref 281), some (.int 0), some (.int b), some (.int 0), some (.int d), some (.int e), none, none, none, none, none, none, none]) (st' := [.int 0, .ref 281]) rfl ?_
                      refine g_call (ins := .invokevirtual 1015) (len := 3) (j := 488) (as := [.ref 281, .int 0]) (rest := []) rfl rfl rfl rfl (fun _ => rfl) rfl ?_
                      refine g_in (M := x_M488) (L := [some (.ref 281), some (.int 0)]) x_pl488 rfl ?_
                      refine g_n 7 (pc' := 14) (L' := [some (.ref 281), some (.int 0)]) (st' := [.int 1]) rfl ?_
                      refine g_ret (ins := .ireturn) (len := 1) (r := (some (.int 1))) rfl rfl rfl ?_
                      refine g_n 2 (pc' := 18) (L' := [some (.ref 281), some (.int 0), some (.int b), some (.int 0), some (.int d), some (.int e), none, none, none, none, none, none, none]) (st' := [.int e]) rfl ?_
                      refine g_brF (c := e < (0 : Int32)) (t := 36) (f := 21) (L' := [some (.ref 281), some (.int 0), some (.int b), some (.int 0), some (.int d), some (.int e), none, none, none, none, none, none, none]) (st' := []) rfl (x_Flt (l := 0) (u := 0) p33 (by decide) (by decide)) ?_
                      refine g_n 2 (pc' := 24) (L' := [some (.ref 281), some (.int 0), some (.int b), some (.int 0), some (.int d), some (.int e), none, none, none, none, none, none, none]) (st' := [.int 2, .int e]) rfl ?_
                      refine g_brF (c := (2 : Int32) < e) (t := 36) (f := 27) (L' := [some (.ref 281), some (.int 0), some (.int b), some (.int 0), some (.int d), some (.int e), none, none, none, none, none, none, none]) (st' := []) rfl (x_Flt (l := 2) (u := 2) (by decide) p36 (by decide)) ?_
                      refine g_n 1 (pc' := 28) (L' := [some (.ref 281), some (.int 0), some (.int b), some (.int 0), some (.int d), some (.int e), none, none, none, none, none, none, none]) (st' := [.int b]) rfl ?_
                      refine g_brF (c := b < (0 : Int32)) (t := 36) (f := 31) (L' := [some (.ref 281), some (.int 0), some (.int b), some (.int 0), some (.int d), some (.int e), none, none, none, none, none, none, none]) (st' := []) rfl (x_Flt (l := 0) (u := 0) p21 (by decide) (by decide)) ?_
                      refine g_n 1 (pc' := 33) (L' := [some (.ref 281), some (.int 0), some (.int b), some (.int 0), some (.int d), some (.int e), none, none, none, none, none, none, none]) (st' := [.int d]) rfl ?_
                      refine g_brT (c := (0 : Int32) ≤ d) (t := 38) (f := 36) (L' := [some (.ref 281), some (.int 0), some (.int b), some (.int 0), some (.int d), some (.int e), none, none, none, none, none, none, none]) (st' := []) rfl (x_Tle (u := 0) (l := 0) (by decide) p30 (by decide)) ?_
                      refine g_n 16 (pc' := 97) (L' := [some (.ref 281), some (.int 0), some (.int b), some (.int 0), some (.int d), some (.int e), none, none, none, none, none, none, none]) (st' := [.int (-2)]) rfl ?_
                      exact g_ret (ins := .ireturn) (len := 1) (r := (some (.int (-2)))) rfl rfl rfl ⟨_, rfl, rfl, (x_sv_rf _)⟩
                    · have q41 : ¬ c = 0 := h39
                      have p42 : 1 ≤ c.toInt := x_lo_ne q41 p9 (by decide)
                      by_cases h43 : c = 1
                      · have e44 : c = 1 := h43
                        subst e44
                        refine g_aa (i := 1) (a := 2) (n := 4) (v := 50) rfl rfl (by decide) (x_at (x_f2 hF) (k := 1) rfl) ?_
                        refine g_n 5 (pc' := 103) (L' := [some (.ref 0), some (.int 0), some (.int b), some (.int 1), some (.int d), some (.int e), some (.int 0)]) (st' := [.int 0, .ref 2]) rfl ?_
                        refine g_aa (i := 0) (a := 2) (n := 4) (v := 27) rfl rfl (by decide) (x_at (x_f2 hF) (k := 0) rfl) ?_
                        refine g_n 3 (pc' := 124) (L' := [some (.ref 0), some (.int 0), some (.int b), some (.int 1), some (.int d), some (.int e), some (.int 0)]) (st' := [.int (-2)]) rfl ?_
                        refine g_ret (ins := .ireturn) (len := 1) (r := (some (.int (-2)))) rfl rfl rfl ?_
                        refine ⟨⟨_, rfl⟩, ?_⟩
                        refine g_in (M := x_M688) (L := [some (.ref 281), some (.int 0), some (.int b), some (.int 1), some (.int d), some (.int e), none, none, none, none, none, none, none]) x_pl688 rfl ?_
                        refine g_n 2 (pc' := 2) (L' := [some (.ref 281), some (.int 0), some (.int b), some (.int 1), some (.int d), some (.int e), none, none, none, none, none, none, none]) (st' := [.int 0, .ref 281]) rfl ?_
                        refine g_call (ins := .invokevirtual 1015) (len := 3) (j := 488) (as := [.ref 281, .int 0]) (rest := []) rfl rfl rfl rfl (fun _ => rfl) rfl ?_
                        refine g_in (M := x_M488) (L := [some (.ref 281), some (.int 0)]) x_pl488 rfl ?_
                        refine g_n 7 (pc' := 14) (L' := [some (.ref 281), some (.int 0)]) (st' := [.int 1]) rfl ?_
                        refine g_ret (ins := .ireturn) (len := 1) (r := (some (.int 1))) rfl rfl rfl ?_
                        refine g_n 3 (pc' := 10) (L' := [some (.ref 281), some (.int 0), some (.int b), some (.int 1), some (.int d), some (.int e), none, none, none, none, none, none, none]) (st' := [.int 1, .ref 281]) rfl ?_
                        refine g_call (ins := .invokevirtual 1015) (len := 3) (j := 488) (as := [.ref 281, .int 1]) (rest := []) rfl rfl rfl rfl (fun _ => rfl) rfl ?_
                        refine g_in (M := x_M488) (L := [some (.ref 281), some (.int 1)]) x_pl488 rfl ?_
                        refine g_n 7 (pc' := 14) (L' := [some (.ref 281), some (.int 1)]) (st' := [.int 1]) rfl ?_
                        refine g_ret (ins := .ireturn) (len := 1) (r := (some (.int 1))) rfl rfl rfl ?_
                        refine g_n 2 (pc' := 18) (L' := [some (.ref 281), some (.int 0), some (.int b), some (.int 1), some (.int d), some (.int e), none, none, none, none, none, none, none]) (st' := [.int e]) rfl ?_
                        refine g_brF (c := e < (0 : Int32)) (t := 36) (f := 21) (L' := [some (.ref 281), some (.int 0), some (.int b), some (.int 1), some (.int d), some (.int e), none, none, none, none, none, none, none]) (st' := []) rfl (x_Flt (l := 0) (u := 0) p33 (by decide) (by decide)) ?_
                        refine g_n 2 (pc' := 24) (L' := [some (.ref 281), some (.int 0), some (.int b), some (.int 1), some (.int d), some (.int e), none, none, none, none, none, none, none]) (st' := [.int 2, .int e]) rfl ?_
                        refine g_brF (c := (2 : Int32) < e) (t := 36) (f := 27) (L' := [some (.ref 281), some (.int 0), some (.int b), some (.int 1), some (.int d), some (.int e), none, none, none, none, none, none, none]) (st' := []) rfl (x_Flt (l := 2) (u := 2) (by decide) p36 (by decide)) ?_
                        refine g_n 1 (pc' := 28) (L' := [some (.ref 281), some (.int 0), some (.int b), some (.int 1), some (.int d), some (.int e), none, none, none, none, none, none, none]) (st' := [.int b]) rfl ?_
                        refine g_brF (c := b < (0 : Int32)) (t := 36) (f := 31) (L' := [some (.ref 281), some (.int 0), some (.int b), some (.int 1), some (.int d), some (.int e), none, none, none, none, none, none, none]) (st' := []) rfl (x_Flt (l := 0) (u := 0) p21 (by decide) (by decide)) ?_
                        refine g_n 1 (pc' := 33) (L' := [some (.ref 281), some (.int 0), some (.int b), some (.int 1), some (.int d), some (.int e), none, none, none, none, none, none, none]) (st' := [.int d]) rfl ?_
                        refine g_brT (c := (0 : Int32) ≤ d) (t := 38) (f := 36) (L' := [some (.ref 281), some (.int 0), some (.int b), some (.int 1), some (.int d), some (.int e), none, none, none, none, none, none, none]) (st' := []) rfl (x_Tle (u := 0) (l := 0) (by decide) p30 (by decide)) ?_
                        refine g_n 16 (pc' := 97) (L' := [some (.ref 281), some (.int 0), some (.int b), some (.int 1), some (.int d), some (.int e), none, none, none, none, none, none, none]) (st' := [.int (-2)]) rfl ?_
                        exact g_ret (ins := .ireturn) (len := 1) (r := (some (.int (-2)))) rfl rfl rfl ⟨_, rfl, rfl, (x_sv_rf _)⟩
                      · have q45 : ¬ c = 1 := h43
                        have p46 : 2 ≤ c.toInt := x_lo_ne q45 p42 (by decide)
                        by_cases h47 : c = 2
                        · have e48 : c = 2 := h47
                          subst e48
                          refine g_aa (i := 2) (a := 2) (n := 4) (v := 73) rfl rfl (by decide) (x_at (x_f2 hF) (k := 2) rfl) ?_
                          refine g_n 5 (pc' := 103) (L' := [some (.ref 0), some (.int 0), some (.int b), some (.int 2), some (.int d), some (.int e), some (.int 0)]) (st' := [.int 0, .ref 2]) rfl ?_
                          refine g_aa (i := 0) (a := 2) (n := 4) (v := 27) rfl rfl (by decide) (x_at (x_f2 hF) (k := 0) rfl) ?_
                          refine g_n 3 (pc' := 124) (L' := [some (.ref 0), some (.int 0), some (.int b), some (.int 2), some (.int d), some (.int e), some (.int 0)]) (st' := [.int (-2)]) rfl ?_
                          refine g_ret (ins := .ireturn) (len := 1) (r := (some (.int (-2)))) rfl rfl rfl ?_
                          refine ⟨⟨_, rfl⟩, ?_⟩
                          refine g_in (M := x_M688) (L := [some (.ref 281), some (.int 0), some (.int b), some (.int 2), some (.int d), some (.int e), none, none, none, none, none, none, none]) x_pl688 rfl ?_
                          refine g_n 2 (pc' := 2) (L' := [some (.ref 281), some (.int 0), some (.int b), some (.int 2), some (.int d), some (.int e), none, none, none, none, none, none, none]) (st' := [.int 0, .ref 281]) rfl ?_
                          refine g_call (ins := .invokevirtual 1015) (len := 3) (j := 488) (as := [.ref 281, .int 0]) (rest := []) rfl rfl rfl rfl (fun _ => rfl) rfl ?_
                          refine g_in (M := x_M488) (L := [some (.ref 281), some (.int 0)]) x_pl488 rfl ?_
                          refine g_n 7 (pc' := 14) (L' := [some (.ref 281), some (.int 0)]) (st' := [.int 1]) rfl ?_
                          refine g_ret (ins := .ireturn) (len := 1) (r := (some (.int 1))) rfl rfl rfl ?_
                          refine g_n 3 (pc' := 10) (L' := [some (.ref 281), some (.int 0), some (.int b), some (.int 2), some (.int d), some (.int e), none, none, none, none, none, none, none]) (st' := [.int 2, .ref 281]) rfl ?_
                          refine g_call (ins := .invokevirtual 1015) (len := 3) (j := 488) (as := [.ref 281, .int 2]) (rest := []) rfl rfl rfl rfl (fun _ => rfl) rfl ?_
                          refine g_in (M := x_M488) (L := [some (.ref 281), some (.int 2)]) x_pl488 rfl ?_
                          refine g_n 7 (pc' := 14) (L' := [some (.ref 281), some (.int 2)]) (st' := [.int 1]) rfl ?_
                          refine g_ret (ins := .ireturn) (len := 1) (r := (some (.int 1))) rfl rfl rfl ?_
                          refine g_n 2 (pc' := 18) (L' := [some (.ref 281), some (.int 0), some (.int b), some (.int 2), some (.int d), some (.int e), none, none, none, none, none, none, none]) (st' := [.int e]) rfl ?_
                          refine g_brF (c := e < (0 : Int32)) (t := 36) (f := 21) (L' := [some (.ref 281), some (.int 0), some (.int b), some (.int 2), some (.int d), some (.int e), none, none, none, none, none, none, none]) (st' := []) rfl (x_Flt (l := 0) (u := 0) p33 (by decide) (by decide)) ?_
                          refine g_n 2 (pc' := 24) (L' := [some (.ref 281), some (.int 0), some (.int b), some (.int 2), some (.int d), some (.int e), none, none, none, none, none, none, none]) (st' := [.int 2, .int e]) rfl ?_
                          refine g_brF (c := (2 : Int32) < e) (t := 36) (f := 27) (L' := [some (.ref 281), some (.int 0), some (.int b), some (.int 2), some (.int d), some (.int e), none, none, none, none, none, none, none]) (st' := []) rfl (x_Flt (l := 2) (u := 2) (by decide) p36 (by decide)) ?_
                          refine g_n 1 (pc' := 28) (L' := [some (.ref 281), some (.int 0), some (.int b), some (.int 2), some (.int d), some (.int e), none, none, none, none, none, none, none]) (st' := [.int b]) rfl ?_
                          refine g_brF (c := b < (0 : Int32)) (t := 36) (f := 31) (L' := [some (.ref 281), some (.int 0), some (.int b), some (.int 2), some (.int d), some (.int e), none, none, none, none, none, none, none]) (st' := []) rfl (x_Flt (l := 0) (u := 0) p21 (by decide) (by decide)) ?_
                          refine g_n 1 (pc' := 33) (L' := [some (.ref 281), some (.int 0), some (.int b), some (.int 2), some (.int d), some (.int e), none, none, none, none, none, none, none]) (st' := [.int d]) rfl ?_
                          refine g_brT (c := (0 : Int32) ≤ d) (t := 38) (f := 36) (L' := [some (.ref 281), some (.int 0), some (.int b), some (.int 2), some (.int d), some (.int e), none, none, none, none, none, none, none]) (st' := []) rfl (x_Tle (u := 0) (l := 0) (by decide) p30 (by decide)) ?_
                          refine g_n 16 (pc' := 97) (L' := [some (.ref 281), some (.int 0), some (.int b), some (.int 2), some (.int d), some (.int e), none, none, none, none, none, none, none]) (st' := [.int (-2)]) rfl ?_
                          exact g_ret (ins := .ireturn) (len := 1) (r := (some (.int (-2)))) rfl rfl rfl ⟨_, rfl, rfl, (x_sv_rf _)⟩
                        · have q49 : ¬ c = 2 := h47
                          have p50 : 3 ≤ c.toInt := x_lo_ne q49 p46 (by decide)
                          have e51 : c = 3 := x_sing p50 p12 (by decide)
                          subst e51
                          refine g_aa (i := 3) (a := 2) (n := 4) (v := 96) rfl rfl (by decide) (x_at (x_f2 hF) (k := 3) rfl) ?_
                          refine g_n 5 (pc' := 103) (L' := [some (.ref 0), some (.int 0), some (.int b), some (.int 3), some (.int d), some (.int e), some (.int 0)]) (st' := [.int 0, .ref 2]) rfl ?_
                          refine g_aa (i := 0) (a := 2) (n := 4) (v := 27) rfl rfl (by decide) (x_at (x_f2 hF) (k := 0) rfl) ?_
                          refine g_n 3 (pc' := 124) (L' := [some (.ref 0), some (.int 0), some (.int b), some (.int 3), some (.int d), some (.int e), some (.int 0)]) (st' := [.int (-2)]) rfl ?_
                          refine g_ret (ins := .ireturn) (len := 1) (r := (some (.int (-2)))) rfl rfl rfl ?_
                          refine ⟨⟨_, rfl⟩, ?_⟩
                          refine g_in (M := x_M688) (L := [some (.ref 281), some (.int 0), some (.int b), some (.int 3), some (.int d), some (.int e), none, none, none, none, none, none, none]) x_pl688 rfl ?_
                          refine g_n 2 (pc' := 2) (L' := [some (.ref 281), some (.int 0), some (.int b), some (.int 3), some (.int d), some (.int e), none, none, none, none, none, none, none]) (st' := [.int 0, .ref 281]) rfl ?_
                          refine g_call (ins := .invokevirtual 1015) (len := 3) (j := 488) (as := [.ref 281, .int 0]) (rest := []) rfl rfl rfl rfl (fun _ => rfl) rfl ?_
                          refine g_in (M := x_M488) (L := [some (.ref 281), some (.int 0)]) x_pl488 rfl ?_
                          refine g_n 7 (pc' := 14) (L' := [some (.ref 281), some (.int 0)]) (st' := [.int 1]) rfl ?_
                          refine g_ret (ins := .ireturn) (len := 1) (r := (some (.int 1))) rfl rfl rfl ?_
                          refine g_n 3 (pc' := 10) (L' := [some (.ref 281), some (.int 0), some (.int b), some (.int 3), some (.int d), some (.int e), none, none, none, none, none, none, none]) (st' := [.int 3, .ref 281]) rfl ?_
                          refine g_call (ins := .invokevirtual 1015) (len := 3) (j := 488) (as := [.ref 281, .int 3]) (rest := []) rfl rfl rfl rfl (fun _ => rfl) rfl ?_
                          refine g_in (M := x_M488) (L := [some (.ref 281), some (.int 3)]) x_pl488 rfl ?_
                          refine g_n 7 (pc' := 14) (L' := [some (.ref 281), some (.int 3)]) (st' := [.int 1]) rfl ?_
                          refine g_ret (ins := .ireturn) (len := 1) (r := (some (.int 1))) rfl rfl rfl ?_
                          refine g_n 2 (pc' := 18) (L' := [some (.ref 281), some (.int 0), some (.int b), some (.int 3), some (.int d), some (.int e), none, none, none, none, none, none, none]) (st' := [.int e]) rfl ?_
                          refine g_brF (c := e < (0 : Int32)) (t := 36) (f := 21) (L' := [some (.ref 281), some (.int 0), some (.int b), some (.int 3), some (.int d), some (.int e), none, none, none, none, none, none, none]) (st' := []) rfl (x_Flt (l := 0) (u := 0) p33 (by decide) (by decide)) ?_
                          refine g_n 2 (pc' := 24) (L' := [some (.ref 281), some (.int 0), some (.int b), some (.int 3), some (.int d), some (.int e), none, none, none, none, none, none, none]) (st' := [.int 2, .int e]) rfl ?_
                          refine g_brF (c := (2 : Int32) < e) (t := 36) (f := 27) (L' := [some (.ref 281), some (.int 0), some (.int b), some (.int 3), some (.int d), some (.int e), none, none, none, none, none, none, none]) (st' := []) rfl (x_Flt (l := 2) (u := 2) (by decide) p36 (by decide)) ?_
                          refine g_n 1 (pc' := 28) (L' := [some (.ref 281), some (.int 0), some (.int b), some (.int 3), some (.int d), some (.int e), none, none, none, none, none, none, none]) (st' := [.int b]) rfl ?_
                          refine g_brF (c := b < (0 : Int32)) (t := 36) (f := 31) (L' := [some (.ref 281), some (.int 0), some (.int b), some (.int 3), some (.int d), some (.int e), none, none, none, none, none, none, none]) (st' := []) rfl (x_Flt (l := 0) (u := 0) p21 (by decide) (by decide)) ?_
                          refine g_n 1 (pc' := 33) (L' := [some (.ref 281), some (.int 0), some (.int b), some (.int 3), some (.int d), some (.int e), none, none, none, none, none, none, none]) (st' := [.int d]) rfl ?_
                          refine g_brT (c := (0 : Int32) ≤ d) (t := 38) (f := 36) (L' := [some (.ref 281), some (.int 0), some (.int b), some (.int 3), some (.int d), some (.int e), none, none, none, none, none, none, none]) (st' := []) rfl (x_Tle (u := 0) (l := 0) (by decide) p30 (by decide)) ?_
                          refine g_n 16 (pc' := 97) (L' := [some (.ref 281), some (.int 0), some (.int b), some (.int 3), some (.int d), some (.int e), none, none, none, none, none, none, none]) (st' := [.int (-2)]) rfl ?_
                          exact g_ret (ins := .ireturn) (len := 1) (r := (some (.int (-2)))) rfl rfl rfl ⟨_, rfl, rfl, (x_sv_rf _)⟩
                  · have q52 : ¬ a = 0 := h37
                    have p53 : 1 ≤ a.toInt := x_lo_ne q52 p3 (by decide)
                    by_cases h54 : a = 1
                    · have e55 : a = 1 := h54
                      subst e55
                      refine g_aa (i := 1) (a := 2) (n := 4) (v := 50) rfl rfl (by decide) (x_at (x_f2 hF) (k := 1) rfl) ?_
                      refine g_n 9 (pc' := 75) (L' := [some (.ref 0), some (.int 1), some (.int b), some (.int c), some (.int d), some (.int e), some (.int 0)]) (st' := [.int c, .ref 2]) rfl ?_
                      by_cases h56 : c = 0
                      · have e57 : c = 0 := h56
                        subst e57
                        refine g_aa (i := 0) (a := 2) (n := 4) (v := 27) rfl rfl (by decide) (x_at (x_f2 hF) (k := 0) rfl) ?_
                        refine g_n 5 (pc' := 103) (L' := [some (.ref 0), some (.int 1), some (.int b), some (.int 0), some (.int d), some (.int e), some (.int 0)]) (st' := [.int 1, .ref 2]) rfl ?_
                        refine g_aa (i := 1) (a := 2) (n := 4) (v := 50) rfl rfl (by decide) (x_at (x_f2 hF) (k := 1) rfl) ?_
                        refine g_n 3 (pc' := 124) (L' := [some (.ref 0), some (.int 1), some (.int b), some (.int 0), some (.int d), some (.int e), some (.int 0)]) (st' := [.int (-2)]) rfl ?_
                        refine g_ret (ins := .ireturn) (len := 1) (r := (some (.int (-2)))) rfl rfl rfl ?_
                        refine ⟨⟨_, rfl⟩, ?_⟩
                        refine g_in (M := x_M688) (L := [some (.ref 281), some (.int 1), some (.int b), some (.int 0), some (.int d), some (.int e), none, none, none, none, none, none, none]) x_pl688 rfl ?_
                        refine g_n 2 (pc' := 2) (L' := [some (.ref 281), some (.int 1), some (.int b), some (.int 0), some (.int d), some (.int e), none, none, none, none, none, none, none]) (st' := [.int 1, .ref 281]) rfl ?_
                        refine g_call (ins := .invokevirtual 1015) (len := 3) (j := 488) (as := [.ref 281, .int 1]) (rest := []) rfl rfl rfl rfl (fun _ => rfl) rfl ?_
                        refine g_in (M := x_M488) (L := [some (.ref 281), some (.int 1)]) x_pl488 rfl ?_
                        refine g_n 7 (pc' := 14) (L' := [some (.ref 281), some (.int 1)]) (st' := [.int 1]) rfl ?_
                        refine g_ret (ins := .ireturn) (len := 1) (r := (some (.int 1))) rfl rfl rfl ?_
                        refine g_n 3 (pc' := 10) (L' := [some (.ref 281), some (.int 1), some (.int b), some (.int 0), some (.int d), some (.int e), none, none, none, none, none, none, none]) (st' := [.int 0, .ref 281]) rfl ?_
                        refine g_call (ins := .invokevirtual 1015) (len := 3) (j := 488) (as := [.ref 281, .int 0]) (rest := []) rfl rfl rfl rfl (fun _ => rfl) rfl ?_
                        refine g_in (M := x_M488) (L := [some (.ref 281), some (.int 0)]) x_pl488 rfl ?_
                        refine g_n 7 (pc' := 14) (L' := [some (.ref 281), some (.int 0)]) (st' := [.int 1]) rfl ?_
                        refine g_ret (ins := .ireturn) (len := 1) (r := (some (.int 1))) rfl rfl rfl ?_
                        refine g_n 2 (pc' := 18) (L' := [some (.ref 281), some (.int 1), some (.int b), some (.int 0), some (.int d), some (.int e), none, none, none, none, none, none, none]) (st' := [.int e]) rfl ?_
                        refine g_brF (c := e < (0 : Int32)) (t := 36) (f := 21) (L' := [some (.ref 281), some (.int 1), some (.int b), some (.int 0), some (.int d), some (.int e), none, none, none, none, none, none, none]) (st' := []) rfl (x_Flt (l := 0) (u := 0) p33 (by decide) (by decide)) ?_
                        refine g_n 2 (pc' := 24) (L' := [some (.ref 281), some (.int 1), some (.int b), some (.int 0), some (.int d), some (.int e), none, none, none, none, none, none, none]) (st' := [.int 2, .int e]) rfl ?_
                        refine g_brF (c := (2 : Int32) < e) (t := 36) (f := 27) (L' := [some (.ref 281), some (.int 1), some (.int b), some (.int 0), some (.int d), some (.int e), none, none, none, none, none, none, none]) (st' := []) rfl (x_Flt (l := 2) (u := 2) (by decide) p36 (by decide)) ?_
                        refine g_n 1 (pc' := 28) (L' := [some (.ref 281), some (.int 1), some (.int b), some (.int 0), some (.int d), some (.int e), none, none, none, none, none, none, none]) (st' := [.int b]) rfl ?_
                        refine g_brF (c := b < (0 : Int32)) (t := 36) (f := 31) (L' := [some (.ref 281), some (.int 1), some (.int b), some (.int 0), some (.int d), some (.int e), none, none, none, none, none, none, none]) (st' := []) rfl (x_Flt (l := 0) (u := 0) p21 (by decide) (by decide)) ?_
                        refine g_n 1 (pc' := 33) (L' := [some (.ref 281), some (.int 1), some (.int b), some (.int 0), some (.int d), some (.int e), none, none, none, none, none, none, none]) (st' := [.int d]) rfl ?_
                        refine g_brT (c := (0 : Int32) ≤ d) (t := 38) (f := 36) (L' := [some (.ref 281), some (.int 1), some (.int b), some (.int 0), some (.int d), some (.int e), none, none, none, none, none, none, none]) (st' := []) rfl (x_Tle (u := 0) (l := 0) (by decide) p30 (by decide)) ?_
                        refine g_n 16 (pc' := 97) (L' := [some (.ref 281), some (.int 1), some (.int b), some (.int 0), some (.int d), some (.int e), none, none, none, none, none, none, none]) (st' := [.int (-2)]) rfl ?_
                        exact g_ret (ins := .ireturn) (len := 1) (r := (some (.int (-2)))) rfl rfl rfl ⟨_, rfl, rfl, (x_sv_rf _)⟩
                      · have q58 : ¬ c = 0 := h56
                        have p59 : 1 ≤ c.toInt := x_lo_ne q58 p9 (by decide)
                        by_cases h60 : c = 1
                        · have e61 : c = 1 := h60
                          subst e61
                          refine g_aa (i := 1) (a := 2) (n := 4) (v := 50) rfl rfl (by decide) (x_at (x_f2 hF) (k := 1) rfl) ?_
                          refine g_n 5 (pc' := 103) (L' := [some (.ref 0), some (.int 1), some (.int b), some (.int 1), some (.int d), some (.int e), some (.int 0)]) (st' := [.int 1, .ref 2]) rfl ?_
                          refine g_aa (i := 1) (a := 2) (n := 4) (v := 50) rfl rfl (by decide) (x_at (x_f2 hF) (k := 1) rfl) ?_
                          refine g_n 3 (pc' := 124) (L' := [some (.ref 0), some (.int 1), some (.int b), some (.int 1), some (.int d), some (.int e), some (.int 0)]) (st' := [.int (-2)]) rfl ?_
                          refine g_ret (ins := .ireturn) (len := 1) (r := (some (.int (-2)))) rfl rfl rfl ?_
                          refine ⟨⟨_, rfl⟩, ?_⟩
                          refine g_in (M := x_M688) (L := [some (.ref 281), some (.int 1), some (.int b), some (.int 1), some (.int d), some (.int e), none, none, none, none, none, none, none]) x_pl688 rfl ?_
                          refine g_n 2 (pc' := 2) (L' := [some (.ref 281), some (.int 1), some (.int b), some (.int 1), some (.int d), some (.int e), none, none, none, none, none, none, none]) (st' := [.int 1, .ref 281]) rfl ?_
                          refine g_call (ins := .invokevirtual 1015) (len := 3) (j := 488) (as := [.ref 281, .int 1]) (rest := []) rfl rfl rfl rfl (fun _ => rfl) rfl ?_
                          refine g_in (M := x_M488) (L := [some (.ref 281), some (.int 1)]) x_pl488 rfl ?_
                          refine g_n 7 (pc' := 14) (L' := [some (.ref 281), some (.int 1)]) (st' := [.int 1]) rfl ?_
                          refine g_ret (ins := .ireturn) (len := 1) (r := (some (.int 1))) rfl rfl rfl ?_
                          refine g_n 3 (pc' := 10) (L' := [some (.ref 281), some (.int 1), some (.int b), some (.int 1), some (.int d), some (.int e), none, none, none, none, none, none, none]) (st' := [.int 1, .ref 281]) rfl ?_
                          refine g_call (ins := .invokevirtual 1015) (len := 3) (j := 488) (as := [.ref 281, .int 1]) (rest := []) rfl rfl rfl rfl (fun _ => rfl) rfl ?_
                          refine g_in (M := x_M488) (L := [some (.ref 281), some (.int 1)]) x_pl488 rfl ?_
                          refine g_n 7 (pc' := 14) (L' := [some (.ref 281), some (.int 1)]) (st' := [.int 1]) rfl ?_
                          refine g_ret (ins := .ireturn) (len := 1) (r := (some (.int 1))) rfl rfl rfl ?_
                          refine g_n 2 (pc' := 18) (L' := [some (.ref 281), some (.int 1), some (.int b), some (.int 1), some (.int d), some (.int e), none, none, none, none, none, none, none]) (st' := [.int e]) rfl ?_
                          refine g_brF (c := e < (0 : Int32)) (t := 36) (f := 21) (L' := [some (.ref 281), some (.int 1), some (.int b), some (.int 1), some (.int d), some (.int e), none, none, none, none, none, none, none]) (st' := []) rfl (x_Flt (l := 0) (u := 0) p33 (by decide) (by decide)) ?_
                          refine g_n 2 (pc' := 24) (L' := [some (.ref 281), some (.int 1), some (.int b), some (.int 1), some (.int d), some (.int e), none, none, none, none, none, none, none]) (st' := [.int 2, .int e]) rfl ?_
                          refine g_brF (c := (2 : Int32) < e) (t := 36) (f := 27) (L' := [some (.ref 281), some (.int 1), some (.int b), some (.int 1), some (.int d), some (.int e), none, none, none, none, none, none, none]) (st' := []) rfl (x_Flt (l := 2) (u := 2) (by decide) p36 (by decide)) ?_
                          refine g_n 1 (pc' := 28) (L' := [some (.ref 281), some (.int 1), some (.int b), some (.int 1), some (.int d), some (.int e), none, none, none, none, none, none, none]) (st' := [.int b]) rfl ?_
                          refine g_brF (c := b < (0 : Int32)) (t := 36) (f := 31) (L' := [some (.ref 281), some (.int 1), some (.int b), some (.int 1), some (.int d), some (.int e), none, none, none, none, none, none, none]) (st' := []) rfl (x_Flt (l := 0) (u := 0) p21 (by decide) (by decide)) ?_
                          refine g_n 1 (pc' := 33) (L' := [some (.ref 281), some (.int 1), some (.int b), some (.int 1), some (.int d), some (.int e), none, none, none, none, none, none, none]) (st' := [.int d]) rfl ?_
                          refine g_brT (c := (0 : Int32) ≤ d) (t := 38) (f := 36) (L' := [some (.ref 281), some (.int 1), some (.int b), some (.int 1), some (.int d), some (.int e), none, none, none, none, none, none, none]) (st' := []) rfl (x_Tle (u := 0) (l := 0) (by decide) p30 (by decide)) ?_
                          refine g_n 16 (pc' := 97) (L' := [some (.ref 281), some (.int 1), some (.int b), some (.int 1), some (.int d), some (.int e), none, none, none, none, none, none, none]) (st' := [.int (-2)]) rfl ?_
                          exact g_ret (ins := .ireturn) (len := 1) (r := (some (.int (-2)))) rfl rfl rfl ⟨_, rfl, rfl, (x_sv_rf _)⟩
                        · have q62 : ¬ c = 1 := h60
                          have p63 : 2 ≤ c.toInt := x_lo_ne q62 p59 (by decide)
                          by_cases h64 : c = 2
                          · have e65 : c = 2 := h64
                            subst e65
                            refine g_aa (i := 2) (a := 2) (n := 4) (v := 73) rfl rfl (by decide) (x_at (x_f2 hF) (k := 2) rfl) ?_
                            refine g_n 5 (pc' := 103) (L' := [some (.ref 0), some (.int 1), some (.int b), some (.int 2), some (.int d), some (.int e), some (.int 0)]) (st' := [.int 1, .ref 2]) rfl ?_
                            refine g_aa (i := 1) (a := 2) (n := 4) (v := 50) rfl rfl (by decide) (x_at (x_f2 hF) (k := 1) rfl) ?_
                            refine g_n 3 (pc' := 124) (L' := [some (.ref 0), some (.int 1), some (.int b), some (.int 2), some (.int d), some (.int e), some (.int 0)]) (st' := [.int (-2)]) rfl ?_
                            refine g_ret (ins := .ireturn) (len := 1) (r := (some (.int (-2)))) rfl rfl rfl ?_
                            refine ⟨⟨_, rfl⟩, ?_⟩
                            refine g_in (M := x_M688) (L := [some (.ref 281), some (.int 1), some (.int b), some (.int 2), some (.int d), some (.int e), none, none, none, none, none, none, none]) x_pl688 rfl ?_
                            refine g_n 2 (pc' := 2) (L' := [some (.ref 281), some (.int 1), some (.int b), some (.int 2), some (.int d), some (.int e), none, none, none, none, none, none, none]) (st' := [.int 1, .ref 281]) rfl ?_
                            refine g_call (ins := .invokevirtual 1015) (len := 3) (j := 488) (as := [.ref 281, .int 1]) (rest := []) rfl rfl rfl rfl (fun _ => rfl) rfl ?_
                            refine g_in (M := x_M488) (L := [some (.ref 281), some (.int 1)]) x_pl488 rfl ?_
                            refine g_n 7 (pc' := 14) (L' := [some (.ref 281), some (.int 1)]) (st' := [.int 1]) rfl ?_
                            refine g_ret (ins := .ireturn) (len := 1) (r := (some (.int 1))) rfl rfl rfl ?_
                            refine g_n 3 (pc' := 10) (L' := [some (.ref 281), some (.int 1), some (.int b), some (.int 2), some (.int d), some (.int e), none, none, none, none, none, none, none]) (st' := [.int 2, .ref 281]) rfl ?_
                            refine g_call (ins := .invokevirtual 1015) (len := 3) (j := 488) (as := [.ref 281, .int 2]) (rest := []) rfl rfl rfl rfl (fun _ => rfl) rfl ?_
                            refine g_in (M := x_M488) (L := [some (.ref 281), some (.int 2)]) x_pl488 rfl ?_
                            refine g_n 7 (pc' := 14) (L' := [some (.ref 281), some (.int 2)]) (st' := [.int 1]) rfl ?_
                            refine g_ret (ins := .ireturn) (len := 1) (r := (some (.int 1))) rfl rfl rfl ?_
                            refine g_n 2 (pc' := 18) (L' := [some (.ref 281), some (.int 1), some (.int b), some (.int 2), some (.int d), some (.int e), none, none, none, none, none, none, none]) (st' := [.int e]) rfl ?_
                            refine g_brF (c := e < (0 : Int32)) (t := 36) (f := 21) (L' := [some (.ref 281), some (.int 1), some (.int b), some (.int 2), some (.int d), some (.int e), none, none, none, none, none, none, none]) (st' := []) rfl (x_Flt (l := 0) (u := 0) p33 (by decide) (by decide)) ?_
                            refine g_n 2 (pc' := 24) (L' := [some (.ref 281), some (.int 1), some (.int b), some (.int 2), some (.int d), some (.int e), none, none, none, none, none, none, none]) (st' := [.int 2, .int e]) rfl ?_
                            refine g_brF (c := (2 : Int32) < e) (t := 36) (f := 27) (L' := [some (.ref 281), some (.int 1), some (.int b), some (.int 2), some (.int d), some (.int e), none, none, none, none, none, none, none]) (st' := []) rfl (x_Flt (l := 2) (u := 2) (by decide) p36 (by decide)) ?_
                            refine g_n 1 (pc' := 28) (L' := [some (.ref 281), some (.int 1), some (.int b), some (.int 2), some (.int d), some (.int e), none, none, none, none, none, none, none]) (st' := [.int b]) rfl ?_
                            refine g_brF (c := b < (0 : Int32)) (t := 36) (f := 31) (L' := [some (.ref 281), some (.int 1), some (.int b), some (.int 2), some (.int d), some (.int e), none, none, none, none, none, none, none]) (st' := []) rfl (x_Flt (l := 0) (u := 0) p21 (by decide) (by decide)) ?_
                            refine g_n 1 (pc' := 33) (L' := [some (.ref 281), some (.int 1), some (.int b), some (.int 2), some (.int d), some (.int e), none, none, none, none, none, none, none]) (st' := [.int d]) rfl ?_
                            refine g_brT (c := (0 : Int32) ≤ d) (t := 38) (f := 36) (L' := [some (.ref 281), some (.int 1), some (.int b), some (.int 2), some (.int d), some (.int e), none, none, none, none, none, none, none]) (st' := []) rfl (x_Tle (u := 0) (l := 0) (by decide) p30 (by decide)) ?_
                            refine g_n 16 (pc' := 97) (L' := [some (.ref 281), some (.int 1), some (.int b), some (.int 2), some (.int d), some (.int e), none, none, none, none, none, none, none]) (st' := [.int (-2)]) rfl ?_
                            exact g_ret (ins := .ireturn) (len := 1) (r := (some (.int (-2)))) rfl rfl rfl ⟨_, rfl, rfl, (x_sv_rf _)⟩
                          · have q66 : ¬ c = 2 := h64
                            have p67 : 3 ≤ c.toInt := x_lo_ne q66 p63 (by decide)
                            have e68 : c = 3 := x_sing p67 p12 (by decide)
                            subst e68
                            refine g_aa (i := 3) (a := 2) (n := 4) (v := 96) rfl rfl (by decide) (x_at (x_f2 hF) (k := 3) rfl) ?_
                            refine g_n 5 (pc' := 103) (L' := [some (.ref 0), some (.int 1), some (.int b), some (.int 3), some (.int d), some (.int e), some (.int 0)]) (st' := [.int 1, .ref 2]) rfl ?_
                            refine g_aa (i := 1) (a := 2) (n := 4) (v := 50) rfl rfl (by decide) (x_at (x_f2 hF) (k := 1) rfl) ?_
                            refine g_n 3 (pc' := 124) (L' := [some (.ref 0), some (.int 1), some (.int b), some (.int 3), some (.int d), some (.int e), some (.int 0)]) (st' := [.int (-2)]) rfl ?_
                            refine g_ret (ins := .ireturn) (len := 1) (r := (some (.int (-2)))) rfl rfl rfl ?_
                            refine ⟨⟨_, rfl⟩, ?_⟩
                            refine g_in (M := x_M688) (L := [some (.ref 281), some (.int 1), some (.int b), some (.int 3), some (.int d), some (.int e), none, none, none, none, none, none, none]) x_pl688 rfl ?_
                            refine g_n 2 (pc' := 2) (L' := [some (.ref 281), some (.int 1), some (.int b), some (.int 3), some (.int d), some (.int e), none, none, none, none, none, none, none]) (st' := [.int 1, .ref 281]) rfl ?_
                            refine g_call (ins := .invokevirtual 1015) (len := 3) (j := 488) (as := [.ref 281, .int 1]) (rest := []) rfl rfl rfl rfl (fun _ => rfl) rfl ?_
                            refine g_in (M := x_M488) (L := [some (.ref 281), some (.int 1)]) x_pl488 rfl ?_
                            refine g_n 7 (pc' := 14) (L' := [some (.ref 281), some (.int 1)]) (st' := [.int 1]) rfl ?_
                            refine g_ret (ins := .ireturn) (len := 1) (r := (some (.int 1))) rfl rfl rfl ?_
                            refine g_n 3 (pc' := 10) (L' := [some (.ref 281), some (.int 1), some (.int b), some (.int 3), some (.int d), some (.int e), none, none, none, none, none, none, none]) (st' := [.int 3, .ref 281]) rfl ?_
                            refine g_call (ins := .invokevirtual 1015) (len := 3) (j := 488) (as := [.ref 281, .int 3]) (rest := []) rfl rfl rfl rfl (fun _ => rfl) rfl ?_
                            refine g_in (M := x_M488) (L := [some (.ref 281), some (.int 3)]) x_pl488 rfl ?_
                            refine g_n 7 (pc' := 14) (L' := [some (.ref 281), some (.int 3)]) (st' := [.int 1]) rfl ?_
                            refine g_ret (ins := .ireturn) (len := 1) (r := (some (.int 1))) rfl rfl rfl ?_
                            refine g_n 2 (pc' := 18) (L' := [some (.ref 281), some (.int 1), some (.int b), some (.int 3), some (.int d), some (.int e), none, none, none, none, none, none, none]) (st' := [.int e]) rfl ?_
                            refine g_brF (c := e < (0 : Int32)) (t := 36) (f := 21) (L' := [some (.ref 281), some (.int 1), some (.int b), some (.int 3), some (.int d), some (.int e), none, none, none, none, none, none, none]) (st' := []) rfl (x_Flt (l := 0) (u := 0) p33 (by decide) (by decide)) ?_
                            refine g_n 2 (pc' := 24) (L' := [some (.ref 281), some (.int 1), some (.int b), some (.int 3), some (.int d), some (.int e), none, none, none, none, none, none, none]) (st' := [.int 2, .int e]) rfl ?_
                            refine g_brF (c := (2 : Int32) < e) (t := 36) (f := 27) (L' := [some (.ref 281), some (.int 1), some (.int b), some (.int 3), some (.int d), some (.int e), none, none, none, none, none, none, none]) (st' := []) rfl (x_Flt (l := 2) (u := 2) (by decide) p36 (by decide)) ?_
                            refine g_n 1 (pc' := 28) (L' := [some (.ref 281), some (.int 1), some (.int b), some (.int 3), some (.int d), some (.int e), none, none, none, none, none, none, none]) (st' := [.int b]) rfl ?_
                            refine g_brF (c := b < (0 : Int32)) (t := 36) (f := 31) (L' := [some (.ref 281), some (.int 1), some (.int b), some (.int 3), some (.int d), some (.int e), none, none, none, none, none, none, none]) (st' := []) rfl (x_Flt (l := 0) (u := 0) p21 (by decide) (by decide)) ?_
                            refine g_n 1 (pc' := 33) (L' := [some (.ref 281), some (.int 1), some (.int b), some (.int 3), some (.int d), some (.int e), none, none, none, none, none, none, none]) (st' := [.int d]) rfl ?_
                            refine g_brT (c := (0 : Int32) ≤ d) (t := 38) (f := 36) (L' := [some (.ref 281), some (.int 1), some (.int b), some (.int 3), some (.int d), some (.int e), none, none, none, none, none, none, none]) (st' := []) rfl (x_Tle (u := 0) (l := 0) (by decide) p30 (by decide)) ?_
                            refine g_n 16 (pc' := 97) (L' := [some (.ref 281), some (.int 1), some (.int b), some (.int 3), some (.int d), some (.int e), none, none, none, none, none, none, none]) (st' := [.int (-2)]) rfl ?_
                            exact g_ret (ins := .ireturn) (len := 1) (r := (some (.int (-2)))) rfl rfl rfl ⟨_, rfl, rfl, (x_sv_rf _)⟩
                    · have q69 : ¬ a = 1 := h54
                      have p70 : 2 ≤ a.toInt := x_lo_ne q69 p53 (by decide)
                      by_cases h71 : a = 2
                      · have e72 : a = 2 := h71
                        subst e72
                        refine g_aa (i := 2) (a := 2) (n := 4) (v := 73) rfl rfl (by decide) (x_at (x_f2 hF) (k := 2) rfl) ?_
                        refine g_n 9 (pc' := 75) (L' := [some (.ref 0), some (.int 2), some (.int b), some (.int c), some (.int d), some (.int e), some (.int 0)]) (st' := [.int c, .ref 2]) rfl ?_
                        by_cases h73 : c = 0
                        · have e74 : c = 0 := h73
                          subst e74
                          refine g_aa (i := 0) (a := 2) (n := 4) (v := 27) rfl rfl (by decide) (x_at (x_f2 hF) (k := 0) rfl) ?_
                          refine g_n 5 (pc' := 103) (L' := [some (.ref 0), some (.int 2), some (.int b), some (.int 0), some (.int d), some (.int e), some (.int 0)]) (st' := [.int 2, .ref 2]) rfl ?_
                          refine g_aa (i := 2) (a := 2) (n := 4) (v := 73) rfl rfl (by decide) (x_at (x_f2 hF) (k := 2) rfl) ?_
                          refine g_n 3 (pc' := 124) (L' := [some (.ref 0), some (.int 2), some (.int b), some (.int 0), some (.int d), some (.int e), some (.int 0)]) (st' := [.int (-2)]) rfl ?_
                          refine g_ret (ins := .ireturn) (len := 1) (r := (some (.int (-2)))) rfl rfl rfl ?_
                          refine ⟨⟨_, rfl⟩, ?_⟩
                          refine g_in (M := x_M688) (L := [some (.ref 281), some (.int 2), some (.int b), some (.int 0), some (.int d), some (.int e), none, none, none, none, none, none, none]) x_pl688 rfl ?_
                          refine g_n 2 (pc' := 2) (L' := [some (.ref 281), some (.int 2), some (.int b), some (.int 0), some (.int d), some (.int e), none, none, none, none, none, none, none]) (st' := [.int 2, .ref 281]) rfl ?_
                          refine g_call (ins := .invokevirtual 1015) (len := 3) (j := 488) (as := [.ref 281, .int 2]) (rest := []) rfl rfl rfl rfl (fun _ => rfl) rfl ?_
                          refine g_in (M := x_M488) (L := [some (.ref 281), some (.int 2)]) x_pl488 rfl ?_
                          refine g_n 7 (pc' := 14) (L' := [some (.ref 281), some (.int 2)]) (st' := [.int 1]) rfl ?_
                          refine g_ret (ins := .ireturn) (len := 1) (r := (some (.int 1))) rfl rfl rfl ?_
                          refine g_n 3 (pc' := 10) (L' := [some (.ref 281), some (.int 2), some (.int b), some (.int 0), some (.int d), some (.int e), none, none, none, none, none, none, none]) (st' := [.int 0, .ref 281]) rfl ?_
                          refine g_call (ins := .invokevirtual 1015) (len := 3) (j := 488) (as := [.ref 281, .int 0]) (rest := []) rfl rfl rfl rfl (fun _ => rfl) rfl ?_
                          refine g_in (M := x_M488) (L := [some (.ref 281), some (.int 0)]) x_pl488 rfl ?_
                          refine g_n 7 (pc' := 14) (L' := [some (.ref 281), some (.int 0)]) (st' := [.int 1]) rfl ?_
                          refine g_ret (ins := .ireturn) (len := 1) (r := (some (.int 1))) rfl rfl rfl ?_
                          refine g_n 2 (pc' := 18) (L' := [some (.ref 281), some (.int 2), some (.int b), some (.int 0), some (.int d), some (.int e), none, none, none, none, none, none, none]) (st' := [.int e]) rfl ?_
                          refine g_brF (c := e < (0 : Int32)) (t := 36) (f := 21) (L' := [some (.ref 281), some (.int 2), some (.int b), some (.int 0), some (.int d), some (.int e), none, none, none, none, none, none, none]) (st' := []) rfl (x_Flt (l := 0) (u := 0) p33 (by decide) (by decide)) ?_
                          refine g_n 2 (pc' := 24) (L' := [some (.ref 281), some (.int 2), some (.int b), some (.int 0), some (.int d), some (.int e), none, none, none, none, none, none, none]) (st' := [.int 2, .int e]) rfl ?_
                          refine g_brF (c := (2 : Int32) < e) (t := 36) (f := 27) (L' := [some (.ref 281), some (.int 2), some (.int b), some (.int 0), some (.int d), some (.int e), none, none, none, none, none, none, none]) (st' := []) rfl (x_Flt (l := 2) (u := 2) (by decide) p36 (by decide)) ?_
                          refine g_n 1 (pc' := 28) (L' := [some (.ref 281), some (.int 2), some (.int b), some (.int 0), some (.int d), some (.int e), none, none, none, none, none, none, none]) (st' := [.int b]) rfl ?_
                          refine g_brF (c := b < (0 : Int32)) (t := 36) (f := 31) (L' := [some (.ref 281), some (.int 2), some (.int b), some (.int 0), some (.int d), some (.int e), none, none, none, none, none, none, none]) (st' := []) rfl (x_Flt (l := 0) (u := 0) p21 (by decide) (by decide)) ?_
                          refine g_n 1 (pc' := 33) (L' := [some (.ref 281), some (.int 2), some (.int b), some (.int 0), some (.int d), some (.int e), none, none, none, none, none, none, none]) (st' := [.int d]) rfl ?_
                          refine g_brT (c := (0 : Int32) ≤ d) (t := 38) (f := 36) (L' := [some (.ref 281), some (.int 2), some (.int b), some (.int 0), some (.int d), some (.int e), none, none, none, none, none, none, none]) (st' := []) rfl (x_Tle (u := 0) (l := 0) (by decide) p30 (by decide)) ?_
                          refine g_n 16 (pc' := 97) (L' := [some (.ref 281), some (.int 2), some (.int b), some (.int 0), some (.int d), some (.int e), none, none, none, none, none, none, none]) (st' := [.int (-2)]) rfl ?_
                          exact g_ret (ins := .ireturn) (len := 1) (r := (some (.int (-2)))) rfl rfl rfl ⟨_, rfl, rfl, (x_sv_rf _)⟩
                        · have q75 : ¬ c = 0 := h73
                          have p76 : 1 ≤ c.toInt := x_lo_ne q75 p9 (by decide)
                          by_cases h77 : c = 1
                          · have e78 : c = 1 := h77
                            subst e78
                            refine g_aa (i := 1) (a := 2) (n := 4) (v := 50) rfl rfl (by decide) (x_at (x_f2 hF) (k := 1) rfl) ?_
                            refine g_n 5 (pc' := 103) (L' := [some (.ref 0), some (.int 2), some (.int b), some (.int 1), some (.int d), some (.int e), some (.int 0)]) (st' := [.int 2, .ref 2]) rfl ?_
                            refine g_aa (i := 2) (a := 2) (n := 4) (v := 73) rfl rfl (by decide) (x_at (x_f2 hF) (k := 2) rfl) ?_
                            refine g_n 3 (pc' := 124) (L' := [some (.ref 0), some (.int 2), some (.int b), some (.int 1), some (.int d), some (.int e), some (.int 0)]) (st' := [.int (-2)]) rfl ?_
                            refine g_ret (ins := .ireturn) (len := 1) (r := (some (.int (-2)))) rfl rfl rfl ?_
                            refine ⟨⟨_, rfl⟩, ?_⟩
                            refine g_in (M := x_M688) (L := [some (.ref 281), some (.int 2), some (.int b), some (.int 1), some (.int d), some (.int e), none, none, none, none, none, none, none]) x_pl688 rfl ?_
                            refine g_n 2 (pc' := 2) (L' := [some (.ref 281), some (.int 2), some (.int b), some (.int 1), some (.int d), some (.int e), none, none, none, none, none, none, none]) (st' := [.int 2, .ref 281]) rfl ?_
                            refine g_call (ins := .invokevirtual 1015) (len := 3) (j := 488) (as := [.ref 281, .int 2]) (rest := []) rfl rfl rfl rfl (fun _ => rfl) rfl ?_
                            refine g_in (M := x_M488) (L := [some (.ref 281), some (.int 2)]) x_pl488 rfl ?_
                            refine g_n 7 (pc' := 14) (L' := [some (.ref 281), some (.int 2)]) (st' := [.int 1]) rfl ?_
                            refine g_ret (ins := .ireturn) (len := 1) (r := (some (.int 1))) rfl rfl rfl ?_
                            refine g_n 3 (pc' := 10) (L' := [some (.ref 281), some (.int 2), some (.int b), some (.int 1), some (.int d), some (.int e), none, none, none, none, none, none, none]) (st' := [.int 1, .ref 281]) rfl ?_
                            refine g_call (ins := .invokevirtual 1015) (len := 3) (j := 488) (as := [.ref 281, .int 1]) (rest := []) rfl rfl rfl rfl (fun _ => rfl) rfl ?_
                            refine g_in (M := x_M488) (L := [some (.ref 281), some (.int 1)]) x_pl488 rfl ?_
                            refine g_n 7 (pc' := 14) (L' := [some (.ref 281), some (.int 1)]) (st' := [.int 1]) rfl ?_
                            refine g_ret (ins := .ireturn) (len := 1) (r := (some (.int 1))) rfl rfl rfl ?_
                            refine g_n 2 (pc' := 18) (L' := [some (.ref 281), some (.int 2), some (.int b), some (.int 1), some (.int d), some (.int e), none, none, none, none, none, none, none]) (st' := [.int e]) rfl ?_
                            refine g_brF (c := e < (0 : Int32)) (t := 36) (f := 21) (L' := [some (.ref 281), some (.int 2), some (.int b), some (.int 1), some (.int d), some (.int e), none, none, none, none, none, none, none]) (st' := []) rfl (x_Flt (l := 0) (u := 0) p33 (by decide) (by decide)) ?_
                            refine g_n 2 (pc' := 24) (L' := [some (.ref 281), some (.int 2), some (.int b), some (.int 1), some (.int d), some (.int e), none, none, none, none, none, none, none]) (st' := [.int 2, .int e]) rfl ?_
                            refine g_brF (c := (2 : Int32) < e) (t := 36) (f := 27) (L' := [some (.ref 281), some (.int 2), some (.int b), some (.int 1), some (.int d), some (.int e), none, none, none, none, none, none, none]) (st' := []) rfl (x_Flt (l := 2) (u := 2) (by decide) p36 (by decide)) ?_
                            refine g_n 1 (pc' := 28) (L' := [some (.ref 281), some (.int 2), some (.int b), some (.int 1), some (.int d), some (.int e), none, none, none, none, none, none, none]) (st' := [.int b]) rfl ?_
                            refine g_brF (c := b < (0 : Int32)) (t := 36) (f := 31) (L' := [some (.ref 281), some (.int 2), some (.int b), some (.int 1), some (.int d), some (.int e), none, none, none, none, none, none, none]) (st' := []) rfl (x_Flt (l := 0) (u := 0) p21 (by decide) (by decide)) ?_
                            refine g_n 1 (pc' := 33) (L' := [some (.ref 281), some (.int 2), some (.int b), some (.int 1), some (.int d), some (.int e), none, none, none, none, none, none, none]) (st' := [.int d]) rfl ?_
                            refine g_brT (c := (0 : Int32) ≤ d) (t := 38) (f := 36) (L' := [some (.ref 281), some (.int 2), some (.int b), some (.int 1), some (.int d), some (.int e), none, none, none, none, none, none, none]) (st' := []) rfl (x_Tle (u := 0) (l := 0) (by decide) p30 (by decide)) ?_
                            refine g_n 16 (pc' := 97) (L' := [some (.ref 281), some (.int 2), some (.int b), some (.int 1), some (.int d), some (.int e), none, none, none, none, none, none, none]) (st' := [.int (-2)]) rfl ?_
                            exact g_ret (ins := .ireturn) (len := 1) (r := (some (.int (-2)))) rfl rfl rfl ⟨_, rfl, rfl, (x_sv_rf _)⟩
                          · have q79 : ¬ c = 1 := h77
                            have p80 : 2 ≤ c.toInt := x_lo_ne q79 p76 (by decide)
                            by_cases h81 : c = 2
                            · have e82 : c = 2 := h81
                              subst e82
                              refine g_aa (i := 2) (a := 2) (n := 4) (v := 73) rfl rfl (by decide) (x_at (x_f2 hF) (k := 2) rfl) ?_
                              refine g_n 5 (pc' := 103) (L' := [some (.ref 0), some (.int 2), some (.int b), some (.int 2), some (.int d), some (.int e), some (.int 0)]) (st' := [.int 2, .ref 2]) rfl ?_
                              refine g_aa (i := 2) (a := 2) (n := 4) (v := 73) rfl rfl (by decide) (x_at (x_f2 hF) (k := 2) rfl) ?_
                              refine g_n 3 (pc' := 124) (L' := [some (.ref 0), some (.int 2), some (.int b), some (.int 2), some (.int d), some (.int e), some (.int 0)]) (st' := [.int (-2)]) rfl ?_
                              refine g_ret (ins := .ireturn) (len := 1) (r := (some (.int (-2)))) rfl rfl rfl ?_
                              refine ⟨⟨_, rfl⟩, ?_⟩
                              refine g_in (M := x_M688) (L := [some (.ref 281), some (.int 2), some (.int b), some (.int 2), some (.int d), some (.int e), none, none, none, none, none, none, none]) x_pl688 rfl ?_
                              refine g_n 2 (pc' := 2) (L' := [some (.ref 281), some (.int 2), some (.int b), some (.int 2), some (.int d), some (.int e), none, none, none, none, none, none, none]) (st' := [.int 2, .ref 281]) rfl ?_
                              refine g_call (ins := .invokevirtual 1015) (len := 3) (j := 488) (as := [.ref 281, .int 2]) (rest := []) rfl rfl rfl rfl (fun _ => rfl) rfl ?_
                              refine g_in (M := x_M488) (L := [some (.ref 281), some (.int 2)]) x_pl488 rfl ?_
                              refine g_n 7 (pc' := 14) (L' := [some (.ref 281), some (.int 2)]) (st' := [.int 1]) rfl ?_
                              refine g_ret (ins := .ireturn) (len := 1) (r := (some (.int 1))) rfl rfl rfl ?_
                              refine g_n 3 (pc' := 10) (L' := [some (.ref 281), some (.int 2), some (.int b), some (.int 2), some (.int d), some (.int e), none, none, none, none, none, none, none]) (st' := [.int 2, .ref 281]) rfl ?_
                              refine g_call (ins := .invokevirtual 1015) (len := 3) (j := 488) (as := [.ref 281, .int 2]) (rest := []) rfl rfl rfl rfl (fun _ => rfl) rfl ?_
                              refine g_in (M := x_M488) (L := [some (.ref 281), some (.int 2)]) x_pl488 rfl ?_
                              refine g_n 7 (pc' := 14) (L' := [some (.ref 281), some (.int 2)]) (st' := [.int 1]) rfl ?_
                              refine g_ret (ins := .ireturn) (len := 1) (r := (some (.int 1))) rfl rfl rfl ?_
                              refine g_n 2 (pc' := 18) (L' := [some (.ref 281), some (.int 2), some (.int b), some (.int 2), some (.int d), some (.int e), none, none, none, none, none, none, none]) (st' := [.int e]) rfl ?_
                              refine g_brF (c := e < (0 : Int32)) (t := 36) (f := 21) (L' := [some (.ref 281), some (.int 2), some (.int b), some (.int 2), some (.int d), some (.int e), none, none, none, none, none, none, none]) (st' := []) rfl (x_Flt (l := 0) (u := 0) p33 (by decide) (by decide)) ?_
                              refine g_n 2 (pc' := 24) (L' := [some (.ref 281), some (.int 2), some (.int b), some (.int 2), some (.int d), some (.int e), none, none, none, none, none, none, none]) (st' := [.int 2, .int e]) rfl ?_
                              refine g_brF (c := (2 : Int32) < e) (t := 36) (f := 27) (L' := [some (.ref 281), some (.int 2), some (.int b), some (.int 2), some (.int d), some (.int e), none, none, none, none, none, none, none]) (st' := []) rfl (x_Flt (l := 2) (u := 2) (by decide) p36 (by decide)) ?_
                              refine g_n 1 (pc' := 28) (L' := [some (.ref 281), some (.int 2), some (.int b), some (.int 2), some (.int d), some (.int e), none, none, none, none, none, none, none]) (st' := [.int b]) rfl ?_
                              refine g_brF (c := b < (0 : Int32)) (t := 36) (f := 31) (L' := [some (.ref 281), some (.int 2), some (.int b), some (.int 2), some (.int d), some (.int e), none, none, none, none, none, none, none]) (st' := []) rfl (x_Flt (l := 0) (u := 0) p21 (by decide) (by decide)) ?_
                              refine g_n 1 (pc' := 33) (L' := [some (.ref 281), some (.int 2), some (.int b), some (.int 2), some (.int d), some (.int e), none, none, none, none, none, none, none]) (st' := [.int d]) rfl ?_
                              refine g_brT (c := (0 : Int32) ≤ d) (t := 38) (f := 36) (L' := [some (.ref 281), some (.int 2), some (.int b), some (.int 2), some (.int d), some (.int e), none, none, none, none, none, none, none]) (st' := []) rfl (x_Tle (u := 0) (l := 0) (by decide) p30 (by decide)) ?_
                              refine g_n 16 (pc' := 97) (L' := [some (.ref 281), some (.int 2), some (.int b), some (.int 2), some (.int d), some (.int e), none, none, none, none, none, none, none]) (st' := [.int (-2)]) rfl ?_
                              exact g_ret (ins := .ireturn) (len := 1) (r := (some (.int (-2)))) rfl rfl rfl ⟨_, rfl, rfl, (x_sv_rf _)⟩
                            · have q83 : ¬ c = 2 := h81
                              have p84 : 3 ≤ c.toInt := x_lo_ne q83 p80 (by decide)
                              have e85 : c = 3 := x_sing p84 p12 (by decide)
                              subst e85
                              refine g_aa (i := 3) (a := 2) (n := 4) (v := 96) rfl rfl (by decide) (x_at (x_f2 hF) (k := 3) rfl) ?_
                              refine g_n 5 (pc' := 103) (L' := [some (.ref 0), some (.int 2), some (.int b), some (.int 3), some (.int d), some (.int e), some (.int 0)]) (st' := [.int 2, .ref 2]) rfl ?_
                              refine g_aa (i := 2) (a := 2) (n := 4) (v := 73) rfl rfl (by decide) (x_at (x_f2 hF) (k := 2) rfl) ?_
                              refine g_n 3 (pc' := 124) (L' := [some (.ref 0), some (.int 2), some (.int b), some (.int 3), some (.int d), some (.int e), some (.int 0)]) (st' := [.int (-2)]) rfl ?_
                              refine g_ret (ins := .ireturn) (len := 1) (r := (some (.int (-2)))) rfl rfl rfl ?_
                              refine ⟨⟨_, rfl⟩, ?_⟩
                              refine g_in (M := x_M688) (L := [some (.ref 281), some (.int 2), some (.int b), some (.int 3), some (.int d), some (.int e), none, none, none, none, none, none, none]) x_pl688 rfl ?_
                              refine g_n 2 (pc' := 2) (L' := [some (.ref 281), some (.int 2), some (.int b), some (.int 3), some (.int d), some (.int e), none, none, none, none, none, none, none]) (st' := [.int 2, .ref 281]) rfl ?_
                              refine g_call (ins := .invokevirtual 1015) (len := 3) (j := 488) (as := [.ref 281, .int 2]) (rest := []) rfl rfl rfl rfl (fun _ => rfl) rfl ?_
                              refine g_in (M := x_M488) (L := [some (.ref 281), some (.int 2)]) x_pl488 rfl ?_
                              refine g_n 7 (pc' := 14) (L' := [some (.ref 281), some (.int 2)]) (st' := [.int 1]) rfl ?_
                              refine g_ret (ins := .ireturn) (len := 1) (r := (some (.int 1))) rfl rfl rfl ?_
                              refine g_n 3 (pc' := 10) (L' := [some (.ref 281), some (.int 2), some (.int b), some (.int 3), some (.int d), some (.int e), none, none, none, none, none, none, none]) (st' := [.int 3, .ref 281]) rfl ?_
                              refine g_call (ins := .invokevirtual 1015) (len := 3) (j := 488) (as := [.ref 281, .int 3]) (rest := []) rfl rfl rfl rfl (fun _ => rfl) rfl ?_
                              refine g_in (M := x_M488) (L := [some (.ref 281), some (.int 3)]) x_pl488 rfl ?_
                              refine g_n 7 (pc' := 14) (L' := [some (.ref 281), some (.int 3)]) (st' := [.int 1]) rfl ?_
                              refine g_ret (ins := .ireturn) (len := 1) (r := (some (.int 1))) rfl rfl rfl ?_
                              refine g_n 2 (pc' := 18) (L' := [some (.ref 281), some (.int 2), some (.int b), some (.int 3), some (.int d), some (.int e), none, none, none, none, none, none, none]) (st' := [.int e]) rfl ?_
                              refine g_brF (c := e < (0 : Int32)) (t := 36) (f := 21) (L' := [some (.ref 281), some (.int 2), some (.int b), some (.int 3), some (.int d), some (.int e), none, none, none, none, none, none, none]) (st' := []) rfl (x_Flt (l := 0) (u := 0) p33 (by decide) (by decide)) ?_
                              refine g_n 2 (pc' := 24) (L' := [some (.ref 281), some (.int 2), some (.int b), some (.int 3), some (.int d), some (.int e), none, none, none, none, none, none, none]) (st' := [.int 2, .int e]) rfl ?_
                              refine g_brF (c := (2 : Int32) < e) (t := 36) (f := 27) (L' := [some (.ref 281), some (.int 2), some (.int b), some (.int 3), some (.int d), some (.int e), none, none, none, none, none, none, none]) (st' := []) rfl (x_Flt (l := 2) (u := 2) (by decide) p36 (by decide)) ?_
                              refine g_n 1 (pc' := 28) (L' := [some (.ref 281), some (.int 2), some (.int b), some (.int 3), some (.int d), some (.int e), none, none, none, none, none, none, none]) (st' := [.int b]) rfl ?_
                              refine g_brF (c := b < (0 : Int32)) (t := 36) (f := 31) (L' := [some (.ref 281), some (.int 2), some (.int b), some (.int 3), some (.int d), some (.int e), none, none, none, none, none, none, none]) (st' := []) rfl (x_Flt (l := 0) (u := 0) p21 (by decide) (by decide)) ?_
                              refine g_n 1 (pc' := 33) (L' := [some (.ref 281), some (.int 2), some (.int b), some (.int 3), some (.int d), some (.int e), none, none, none, none, none, none, none]) (st' := [.int d]) rfl ?_
                              refine g_brT (c := (0 : Int32) ≤ d) (t := 38) (f := 36) (L' := [some (.ref 281), some (.int 2), some (.int b), some (.int 3), some (.int d), some (.int e), none, none, none, none, none, none, none]) (st' := []) rfl (x_Tle (u := 0) (l := 0) (by decide) p30 (by decide)) ?_
                              refine g_n 16 (pc' := 97) (L' := [some (.ref 281), some (.int 2), some (.int b), some (.int 3), some (.int d), some (.int e), none, none, none, none, none, none, none]) (st' := [.int (-2)]) rfl ?_
                              exact g_ret (ins := .ireturn) (len := 1) (r := (some (.int (-2)))) rfl rfl rfl ⟨_, rfl, rfl, (x_sv_rf _)⟩
                      · have q86 : ¬ a = 2 := h71
                        have p87 : 3 ≤ a.toInt := x_lo_ne q86 p70 (by decide)
                        have e88 : a = 3 := x_sing p87 p6 (by decide)
                        subst e88
                        refine g_aa (i := 3) (a := 2) (n := 4) (v := 96) rfl rfl (by decide) (x_at (x_f2 hF) (k := 3) rfl) ?_
                        refine g_n 9 (pc' := 75) (L' := [some (.ref 0), some (.int 3), some (.int b), some (.int c), some (.int d), some (.int e), some (.int 0)]) (st' := [.int c, .ref 2]) rfl ?_
                        by_cases h89 : c = 0
                        · have e90 : c = 0 := h89
                          subst e90
                          refine g_aa (i := 0) (a := 2) (n := 4) (v := 27) rfl rfl (by decide) (x_at (x_f2 hF) (k := 0) rfl) ?_
                          refine g_n 5 (pc' := 103) (L' := [some (.ref 0), some (.int 3), some (.int b), some (.int 0), some (.int d), some (.int e), some (.int 0)]) (st' := [.int 3, .ref 2]) rfl ?_
                          refine g_aa (i := 3) (a := 2) (n := 4) (v := 96) rfl rfl (by decide) (x_at (x_f2 hF) (k := 3) rfl) ?_
                          refine g_n 3 (pc' := 124) (L' := [some (.ref 0), some (.int 3), some (.int b), some (.int 0), some (.int d), some (.int e), some (.int 0)]) (st' := [.int (-2)]) rfl ?_
                          refine g_ret (ins := .ireturn) (len := 1) (r := (some (.int (-2)))) rfl rfl rfl ?_
                          refine ⟨⟨_, rfl⟩, ?_⟩
                          refine g_in (M := x_M688) (L := [some (.ref 281), some (.int 3), some (.int b), some (.int 0), some (.int d), some (.int e), none, none, none, none, none, none, none]) x_pl688 rfl ?_
                          refine g_n 2 (pc' := 2) (L' := [some (.ref 281), some (.int 3), some (.int b), some (.int 0), some (.int d), some (.int e), none, none, none, none, none, none, none]) (st' := [.int 3, .ref 281]) rfl ?_
                          refine g_call (ins := .invokevirtual 1015) (len := 3) (j := 488) (as := [.ref 281, .int 3]) (rest := []) rfl rfl rfl rfl (fun _ => rfl) rfl ?_
                          refine g_in (M := x_M488) (L := [some (.ref 281), some (.int 3)]) x_pl488 rfl ?_
                          refine g_n 7 (pc' := 14) (L' := [some (.ref 281), some (.int 3)]) (st' := [.int 1]) rfl ?_
                          refine g_ret (ins := .ireturn) (len := 1) (r := (some (.int 1))) rfl rfl rfl ?_
                          refine g_n 3 (pc' := 10) (L' := [some (.ref 281), some (.int 3), some (.int b), some (.int 0), some (.int d), some (.int e), none, none, none, none, none, none, none]) (st' := [.int 0, .ref 281]) rfl ?_
                          refine g_call (ins := .invokevirtual 1015) (len := 3) (j := 488) (as := [.ref 281, .int 0]) (rest := []) rfl rfl rfl rfl (fun _ => rfl) rfl ?_
                          refine g_in (M := x_M488) (L := [some (.ref 281), some (.int 0)]) x_pl488 rfl ?_
                          refine g_n 7 (pc' := 14) (L' := [some (.ref 281), some (.int 0)]) (st' := [.int 1]) rfl ?_
                          refine g_ret (ins := .ireturn) (len := 1) (r := (some (.int 1))) rfl rfl rfl ?_
                          refine g_n 2 (pc' := 18) (L' := [some (.ref 281), some (.int 3), some (.int b), some (.int 0), some (.int d), some (.int e), none, none, none, none, none, none, none]) (st' := [.int e]) rfl ?_
                          refine g_brF (c := e < (0 : Int32)) (t := 36) (f := 21) (L' := [some (.ref 281), some (.int 3), some (.int b), some (.int 0), some (.int d), some (.int e), none, none, none, none, none, none, none]) (st' := []) rfl (x_Flt (l := 0) (u := 0) p33 (by decide) (by decide)) ?_
                          refine g_n 2 (pc' := 24) (L' := [some (.ref 281), some (.int 3), some (.int b), some (.int 0), some (.int d), some (.int e), none, none, none, none, none, none, none]) (st' := [.int 2, .int e]) rfl ?_
                          refine g_brF (c := (2 : Int32) < e) (t := 36) (f := 27) (L' := [some (.ref 281), some (.int 3), some (.int b), some (.int 0), some (.int d), some (.int e), none, none, none, none, none, none, none]) (st' := []) rfl (x_Flt (l := 2) (u := 2) (by decide) p36 (by decide)) ?_
                          refine g_n 1 (pc' := 28) (L' := [some (.ref 281), some (.int 3), some (.int b), some (.int 0), some (.int d), some (.int e), none, none, none, none, none, none, none]) (st' := [.int b]) rfl ?_
                          refine g_brF (c := b < (0 : Int32)) (t := 36) (f := 31) (L' := [some (.ref 281), some (.int 3), some (.int b), some (.int 0), some (.int d), some (.int e), none, none, none, none, none, none, none]) (st' := []) rfl (x_Flt (l := 0) (u := 0) p21 (by decide) (by decide)) ?_
                          refine g_n 1 (pc' := 33) (L' := [some (.ref 281), some (.int 3), some (.int b), some (.int 0), some (.int d), some (.int e), none, none, none, none, none, none, none]) (st' := [.int d]) rfl ?_
                          refine g_brT (c := (0 : Int32) ≤ d) (t := 38) (f := 36) (L' := [some (.ref 281), some (.int 3), some (.int b), some (.int 0), some (.int d), some (.int e), none, none, none, none, none, none, none]) (st' := []) rfl (x_Tle (u := 0) (l := 0) (by decide) p30 (by decide)) ?_
                          refine g_n 16 (pc' := 97) (L' := [some (.ref 281), some (.int 3), some (.int b), some (.int 0), some (.int d), some (.int e), none, none, none, none, none, none, none]) (st' := [.int (-2)]) rfl ?_
                          exact g_ret (ins := .ireturn) (len := 1) (r := (some (.int (-2)))) rfl rfl rfl ⟨_, rfl, rfl, (x_sv_rf _)⟩
                        · have q91 : ¬ c = 0 := h89
                          have p92 : 1 ≤ c.toInt := x_lo_ne q91 p9 (by decide)
                          by_cases h93 : c = 1
                          · have e94 : c = 1 := h93
                            subst e94
                            refine g_aa (i := 1) (a := 2) (n := 4) (v := 50) rfl rfl (by decide) (x_at (x_f2 hF) (k := 1) rfl) ?_
                            refine g_n 5 (pc' := 103) (L' := [some (.ref 0), some (.int 3), some (.int b), some (.int 1), some (.int d), some (.int e), some (.int 0)]) (st' := [.int 3, .ref 2]) rfl ?_
                            refine g_aa (i := 3) (a := 2) (n := 4) (v := 96) rfl rfl (by decide) (x_at (x_f2 hF) (k := 3) rfl) ?_
                            refine g_n 3 (pc' := 124) (L' := [some (.ref 0), some (.int 3), some (.int b), some (.int 1), some (.int d), some (.int e), some (.int 0)]) (st' := [.int (-2)]) rfl ?_
                            refine g_ret (ins := .ireturn) (len := 1) (r := (some (.int (-2)))) rfl rfl rfl ?_
                            refine ⟨⟨_, rfl⟩, ?_⟩
                            refine g_in (M := x_M688) (L := [some (.ref 281), some (.int 3), some (.int b), some (.int 1), some (.int d), some (.int e), none, none, none, none, none, none, none]) x_pl688 rfl ?_
                            refine g_n 2 (pc' := 2) (L' := [some (.ref 281), some (.int 3), some (.int b), some (.int 1), some (.int d), some (.int e), none, none, none, none, none, none, none]) (st' := [.int 3, .ref 281]) rfl ?_
                            refine g_call (ins := .invokevirtual 1015) (len := 3) (j := 488) (as := [.ref 281, .int 3]) (rest := []) rfl rfl rfl rfl (fun _ => rfl) rfl ?_
                            refine g_in (M := x_M488) (L := [some (.ref 281), some (.int 3)]) x_pl488 rfl ?_
                            refine g_n 7 (pc' := 14) (L' := [some (.ref 281), some (.int 3)]) (st' := [.int 1]) rfl ?_
                            refine g_ret (ins := .ireturn) (len := 1) (r := (some (.int 1))) rfl rfl rfl ?_
                            refine g_n 3 (pc' := 10) (L' := [some (.ref 281), some (.int 3), some (.int b), some (.int 1), some (.int d), some (.int e), none, none, none, none, none, none, none]) (st' := [.int 1, .ref 281]) rfl ?_
                            refine g_call (ins := .invokevirtual 1015) (len := 3) (j := 488) (as := [.ref 281, .int 1]) (rest := []) rfl rfl rfl rfl (fun _ => rfl) rfl ?_
                            refine g_in (M := x_M488) (L := [some (.ref 281), some (.int 1)]) x_pl488 rfl ?_
                            refine g_n 7 (pc' := 14) (L' := [some (.ref 281), some (.int 1)]) (st' := [.int 1]) rfl ?_
                            refine g_ret (ins := .ireturn) (len := 1) (r := (some (.int 1))) rfl rfl rfl ?_
                            refine g_n 2 (pc' := 18) (L' := [some (.ref 281), some (.int 3), some (.int b), some (.int 1), some (.int d), some (.int e), none, none, none, none, none, none, none]) (st' := [.int e]) rfl ?_
                            refine g_brF (c := e < (0 : Int32)) (t := 36) (f := 21) (L' := [some (.ref 281), some (.int 3), some (.int b), some (.int 1), some (.int d), some (.int e), none, none, none, none, none, none, none]) (st' := []) rfl (x_Flt (l := 0) (u := 0) p33 (by decide) (by decide)) ?_
                            refine g_n 2 (pc' := 24) (L' := [some (.ref 281), some (.int 3), some (.int b), some (.int 1), some (.int d), some (.int e), none, none, none, none, none, none, none]) (st' := [.int 2, .int e]) rfl ?_
                            refine g_brF (c := (2 : Int32) < e) (t := 36) (f := 27) (L' := [some (.ref 281), some (.int 3), some (.int b), some (.int 1), some (.int d), some (.int e), none, none, none, none, none, none, none]) (st' := []) rfl (x_Flt (l := 2) (u := 2) (by decide) p36 (by decide)) ?_
                            refine g_n 1 (pc' := 28) (L' := [some (.ref 281), some (.int 3), some (.int b), some (.int 1), some (.int d), some (.int e), none, none, none, none, none, none, none]) (st' := [.int b]) rfl ?_
                            refine g_brF (c := b < (0 : Int32)) (t := 36) (f := 31) (L' := [some (.ref 281), some (.int 3), some (.int b), some (.int 1), some (.int d), some (.int e), none, none, none, none, none, none, none]) (st' := []) rfl (x_Flt (l := 0) (u := 0) p21 (by decide) (by decide)) ?_
                            refine g_n 1 (pc' := 33) (L' := [some (.ref 281), some (.int 3), some (.int b), some (.int 1), some (.int d), some (.int e), none, none, none, none, none, none, none]) (st' := [.int d]) rfl ?_
                            refine g_brT (c := (0 : Int32) ≤ d) (t := 38) (f := 36) (L' := [some (.ref 281), some (.int 3), some (.int b), some (.int 1), some (.int d), some (.int e), none, none, none, none, none, none, none]) (st' := []) rfl (x_Tle (u := 0) (l := 0) (by decide) p30 (by decide)) ?_
                            refine g_n 16 (pc' := 97) (L' := [some (.ref 281), some (.int 3), some (.int b), some (.int 1), some (.int d), some (.int e), none, none, none, none, none, none, none]) (st' := [.int (-2)]) rfl ?_
                            exact g_ret (ins := .ireturn) (len := 1) (r := (some (.int (-2)))) rfl rfl rfl ⟨_, rfl, rfl, (x_sv_rf _)⟩
                          · have q95 : ¬ c = 1 := h93
                            have p96 : 2 ≤ c.toInt := x_lo_ne q95 p92 (by decide)
                            by_cases h97 : c = 2
                            · have e98 : c = 2 := h97
                              subst e98
                              refine g_aa (i := 2) (a := 2) (n := 4) (v := 73) rfl rfl (by decide) (x_at (x_f2 hF) (k := 2) rfl) ?_
                              refine g_n 5 (pc' := 103) (L' := [some (.ref 0), some (.int 3), some (.int b), some (.int 2), some (.int d), some (.int e), some (.int 0)]) (st' := [.int 3, .ref 2]) rfl ?_
                              refine g_aa (i := 3) (a := 2) (n := 4) (v := 96) rfl rfl (by decide) (x_at (x_f2 hF) (k := 3) rfl) ?_
                              refine g_n 3 (pc' := 124) (L' := [some (.ref 0), some (.int 3), some (.int b), some (.int 2), some (.int d), some (.int e), some (.int 0)]) (st' := [.int (-2)]) rfl ?_
                              refine g_ret (ins := .ireturn) (len := 1) (r := (some (.int (-2)))) rfl rfl rfl ?_
                              refine ⟨⟨_, rfl⟩, ?_⟩
                              refine g_in (M := x_M688) (L := [some (.ref 281), some (.int 3), some (.int b), some (.int 2), some (.int d), some (.int e), none, none, none, none, none, none, none]) x_pl688 rfl ?_
                              refine g_n 2 (pc' := 2) (L' := [some (.ref 281), some (.int 3), some (.int b), some (.int 2), some (.int d), some (.int e), none, none, none, none, none, none, none]) (st' := [.int 3, .ref 281]) rfl ?_
                              refine g_call (ins := .invokevirtual 1015) (len := 3) (j := 488) (as := [.ref 281, .int 3]) (rest := []) rfl rfl rfl rfl (fun _ => rfl) rfl ?_
                              refine g_in (M := x_M488) (L := [some (.ref 281), some (.int 3)]) x_pl488 rfl ?_
                              refine g_n 7 (pc' := 14) (L' := [some (.ref 281), some (.int 3)]) (st' := [.int 1]) rfl ?_
                              refine g_ret (ins := .ireturn) (len := 1) (r := (some (.int 1))) rfl rfl rfl ?_
                              refine g_n 3 (pc' := 10) (L' := [some (.ref 281), some (.int 3), some (.int b), some (.int 2), some (.int d), some (.int e), none, none, none, none, none, none, none]) (st' := [.int 2, .ref 281]) rfl ?_
                              refine g_call (ins := .invokevirtual 1015) (len := 3) (j := 488) (as := [.ref 281, .int 2]) (rest := []) rfl rfl rfl rfl (fun _ => rfl) rfl ?_
                              refine g_in (M := x_M488) (L := [some (.ref 281), some (.int 2)]) x_pl488 rfl ?_
                              refine g_n 7 (pc' := 14) (L' := [some (.ref 281), some (.int 2)]) (st' := [.int 1]) rfl ?_
                              refine g_ret (ins := .ireturn) (len := 1) (r := (some (.int 1))) rfl rfl rfl ?_
                              refine g_n 2 (pc' := 18) (L' := [some (.ref 281), some (.int 3), some (.int b), some (.int 2), some (.int d), some (.int e), none, none, none, none, none, none, none]) (st' := [.int e]) rfl ?_
                              refine g_brF (c := e < (0 : Int32)) (t := 36) (f := 21) (L' := [some (.ref 281), some (.int 3), some (.int b), some (.int 2), some (.int d), some (.int e), none, none, none, none, none, none, none]) (st' := []) rfl (x_Flt (l := 0) (u := 0) p33 (by decide) (by decide)) ?_
                              refine g_n 2 (pc' := 24) (L' := [some (.ref 281), some (.int 3), some (.int b), some (.int 2), some (.int d), some (.int e), none, none, none, none, none, none, none]) (st' := [.int 2, .int e]) rfl ?_
                              refine g_brF (c := (2 : Int32) < e) (t := 36) (f := 27) (L' := [some (.ref 281), some (.int 3), some (.int b), some (.int 2), some (.int d), some (.int e), none, none, none, none, none, none, none]) (st' := []) rfl (x_Flt (l := 2) (u := 2) (by decide) p36 (by decide)) ?_
                              refine g_n 1 (pc' := 28) (L' := [some (.ref 281), some (.int 3), some (.int b), some (.int 2), some (.int d), some (.int e), none, none, none, none, none, none, none]) (st' := [.int b]) rfl ?_
                              refine g_brF (c := b < (0 : Int32)) (t := 36) (f := 31) (L' := [some (.ref 281), some (.int 3), some (.int b), some (.int 2), some (.int d), some (.int e), none, none, none, none, none, none, none]) (st' := []) rfl (x_Flt (l := 0) (u := 0) p21 (by decide) (by decide)) ?_
                              refine g_n 1 (pc' := 33) (L' := [some (.ref 281), some (.int 3), some (.int b), some (.int 2), some (.int d), some (.int e), none, none, none, none, none, none, none]) (st' := [.int d]) rfl ?_
                              refine g_brT (c := (0 : Int32) ≤ d) (t := 38) (f := 36) (L' := [some (.ref 281), some (.int 3), some (.int b), some (.int 2), some (.int d), some (.int e), none, none, none, none, none, none, none]) (st' := []) rfl (x_Tle (u := 0) (l := 0) (by decide) p30 (by decide)) ?_
                              refine g_n 16 (pc' := 97) (L' := [some (.ref 281), some (.int 3), some (.int b), some (.int 2), some (.int d), some (.int e), none, none, none, none, none, none, none]) (st' := [.int (-2)]) rfl ?_
                              exact g_ret (ins := .ireturn) (len := 1) (r := (some (.int (-2)))) rfl rfl rfl ⟨_, rfl, rfl, (x_sv_rf _)⟩
                            · have q99 : ¬ c = 2 := h97
                              have p100 : 3 ≤ c.toInt := x_lo_ne q99 p96 (by decide)
                              have e101 : c = 3 := x_sing p100 p12 (by decide)
                              subst e101
                              refine g_aa (i := 3) (a := 2) (n := 4) (v := 96) rfl rfl (by decide) (x_at (x_f2 hF) (k := 3) rfl) ?_
                              refine g_n 5 (pc' := 103) (L' := [some (.ref 0), some (.int 3), some (.int b), some (.int 3), some (.int d), some (.int e), some (.int 0)]) (st' := [.int 3, .ref 2]) rfl ?_
                              refine g_aa (i := 3) (a := 2) (n := 4) (v := 96) rfl rfl (by decide) (x_at (x_f2 hF) (k := 3) rfl) ?_
                              refine g_n 3 (pc' := 124) (L' := [some (.ref 0), some (.int 3), some (.int b), some (.int 3), some (.int d), some (.int e), some (.int 0)]) (st' := [.int (-2)]) rfl ?_
                              refine g_ret (ins := .ireturn) (len := 1) (r := (some (.int (-2)))) rfl rfl rfl ?_
                              refine ⟨⟨_, rfl⟩, ?_⟩
                              refine g_in (M := x_M688) (L := [some (.ref 281), some (.int 3), some (.int b), some (.int 3), some (.int d), some (.int e), none, none, none, none, none, none, none]) x_pl688 rfl ?_
                              refine g_n 2 (pc' := 2) (L' := [some (.ref 281), some (.int 3), some (.int b), some (.int 3), some (.int d), some (.int e), none, none, none, none, none, none, none]) (st' := [.int 3, .ref 281]) rfl ?_
                              refine g_call (ins := .invokevirtual 1015) (len := 3) (j := 488) (as := [.ref 281, .int 3]) (rest := []) rfl rfl rfl rfl (fun _ => rfl) rfl ?_
                              refine g_in (M := x_M488) (L := [some (.ref 281), some (.int 3)]) x_pl488 rfl ?_
                              refine g_n 7 (pc' := 14) (L' := [some (.ref 281), some (.int 3)]) (st' := [.int 1]) rfl ?_
                              refine g_ret (ins := .ireturn) (len := 1) (r := (some (.int 1))) rfl rfl rfl ?_
                              refine g_n 3 (pc' := 10) (L' := [some (.ref 281), some (.int 3), some (.int b), some (.int 3), some (.int d), some (.int e), none, none, none, none, none, none, none]) (st' := [.int 3, .ref 281]) rfl ?_
                              refine g_call (ins := .invokevirtual 1015) (len := 3) (j := 488) (as := [.ref 281, .int 3]) (rest := []) rfl rfl rfl rfl (fun _ => rfl) rfl ?_
                              refine g_in (M := x_M488) (L := [some (.ref 281), some (.int 3)]) x_pl488 rfl ?_
                              refine g_n 7 (pc' := 14) (L' := [some (.ref 281), some (.int 3)]) (st' := [.int 1]) rfl ?_
                              refine g_ret (ins := .ireturn) (len := 1) (r := (some (.int 1))) rfl rfl rfl ?_
                              refine g_n 2 (pc' := 18) (L' := [some (.ref 281), some (.int 3), some (.int b), some (.int 3), some (.int d), some (.int e), none, none, none, none, none, none, none]) (st' := [.int e]) rfl ?_
                              refine g_brF (c := e < (0 : Int32)) (t := 36) (f := 21) (L' := [some (.ref 281), some (.int 3), some (.int b), some (.int 3), some (.int d), some (.int e), none, none, none, none, none, none, none]) (st' := []) rfl (x_Flt (l := 0) (u := 0) p33 (by decide) (by decide)) ?_
                              refine g_n 2 (pc' := 24) (L' := [some (.ref 281), some (.int 3), some (.int b), some (.int 3), some (.int d), some (.int e), none, none, none, none, none, none, none]) (st' := [.int 2, .int e]) rfl ?_
                              refine g_brF (c := (2 : Int32) < e) (t := 36) (f := 27) (L' := [some (.ref 281), some (.int 3), some (.int b), some (.int 3), some (.int d), some (.int e), none, none, none, none, none, none, none]) (st' := []) rfl (x_Flt (l := 2) (u := 2) (by decide) p36 (by decide)) ?_
                              refine g_n 1 (pc' := 28) (L' := [some (.ref 281), some (.int 3), some (.int b), some (.int 3), some (.int d), some (.int e), none, none, none, none, none, none, none]) (st' := [.int b]) rfl ?_
                              refine g_brF (c := b < (0 : Int32)) (t := 36) (f := 31) (L' := [some (.ref 281), some (.int 3), some (.int b), some (.int 3), some (.int d), some (.int e), none, none, none, none, none, none, none]) (st' := []) rfl (x_Flt (l := 0) (u := 0) p21 (by decide) (by decide)) ?_
                              refine g_n 1 (pc' := 33) (L' := [some (.ref 281), some (.int 3), some (.int b), some (.int 3), some (.int d), some (.int e), none, none, none, none, none, none, none]) (st' := [.int d]) rfl ?_
                              refine g_brT (c := (0 : Int32) ≤ d) (t := 38) (f := 36) (L' := [some (.ref 281), some (.int 3), some (.int b), some (.int 3), some (.int d), some (.int e), none, none, none, none, none, none, none]) (st' := []) rfl (x_Tle (u := 0) (l := 0) (by decide) p30 (by decide)) ?_
                              refine g_n 16 (pc' := 97) (L' := [some (.ref 281), some (.int 3), some (.int b), some (.int 3), some (.int d), some (.int e), none, none, none, none, none, none, none]) (st' := [.int (-2)]) rfl ?_
                              exact g_ret (ins := .ireturn) (len := 1) (r := (some (.int (-2)))) rfl rfl rfl ⟨_, rfl, rfl, (x_sv_rf _)⟩
