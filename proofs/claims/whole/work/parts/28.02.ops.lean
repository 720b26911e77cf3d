/-! First calls on the fresh objects. -/
set_option maxRecDepth 100000 in
set_option maxHeartbeats 4000000 in
theorem x_op8 {fi : Nat → Nat → Int32} {fl : Nat → Nat → Int64} {fr : Nat → Nat → Option Nat} (hF : x_F fl fr) (a : Int32) : x_ev 30 360 [.ref 0, .int a] (x_W fi fl fr) fun r S1 => (∃ fs, x_obj S1 281 = some (12, fs)) ∧ x_ev 30 489 [.ref 281, .int a] S1 (x_finI (x_W fi fl fr) r) := by
  refine g_in (M := x_M360) (L := [some (.ref 0), some (.int a), none, none]) x_pl360 rfl ?_
  refine g_n 1 (pc' := 1) (L' := [some (.ref 0), some (.int a), none, none]) (st' := [.int a]) rfl ?_
  refine g_call (ins := .invokestatic 173) (len := 3) (j := 348) (as := [.int a]) (rest := []) rfl rfl rfl rfl (fun _ => rfl) rfl ?_
  refine g_in (M := x_M348) (L := [some (.int a)]) x_pl348 rfl ?_
  refine g_n 1 (pc' := 1) (L' := [some (.int a)]) (st' := [.int a]) rfl ?_
  refine g_br (c := a < (0 : Int32)) (t := 13) (f := 4) (L' := [some (.int a)]) (st' := []) rfl (fun h1 => ?_) (fun h1 => ?_)
  · have p2 : a.toInt ≤ -1 := x_up_lt h1 (by decide)
    refine g_n 1 (pc' := 14) (L' := [some (.int a)]) (st' := [.int 0]) rfl ?_
    refine g_ret (ins := .ireturn) (len := 1) (r := (some (.int 0))) rfl rfl rfl ?_
    refine g_n 2 (pc' := 8) (L' := [some (.ref 0), some (.int a), none, none]) (st' := [.int (-1)]) rfl ?_
    refine g_ret (ins := .ireturn) (len := 1) (r := (some (.int (-1)))) rfl rfl rfl ?_
    refine ⟨⟨_, rfl⟩, ?_⟩
    refine g_in (M := x_M489) (L := [some (.ref 281), some (.int a), none]) x_pl489 rfl ?_
    refine g_n 2 (pc' := 2) (L' := [some (.ref 281), some (.int a), none]) (st' := [.int a, .ref 281]) rfl ?_
    refine g_call (ins := .invokevirtual 1015) (len := 3) (j := 488) (as := [.ref 281, .int a]) (rest := []) rfl rfl rfl rfl (fun _ => rfl) rfl ?_
    refine g_in (M := x_M488) (L := [some (.ref 281), some (.int a)]) x_pl488 rfl ?_
    refine g_n 1 (pc' := 1) (L' := [some (.ref 281), some (.int a)]) (st' := [.int a]) rfl ?_
    refine g_brT (c := a < (0 : Int32)) (t := 13) (f := 4) (L' := [some (.ref 281), some (.int a)]) (st' := []) rfl (x_Tlt (u := -1) (l := 0) p2 (by decide) (by decide)) ?_
    refine g_n 1 (pc' := 14) (L' := [some (.ref 281), some (.int a)]) (st' := [.int 0]) rfl ?_
    refine g_ret (ins := .ireturn) (len := 1) (r := (some (.int 0))) rfl rfl rfl ?_
    refine g_n 2 (pc' := 9) (L' := [some (.ref 281), some (.int a), none]) (st' := [.int (-1)]) rfl ?_
    exact g_ret (ins := .ireturn) (len := 1) (r := (some (.int (-1)))) rfl rfl rfl ⟨_, rfl, rfl, (x_sv_rf _)⟩
  · have p3 : 0 ≤ a.toInt := x_lo_le (x_nlt h1) (by decide)
    refine g_n 2 (pc' := 6) (L' := [some (.int a)]) (st' := [.int 4, .int a]) rfl ?_
    refine g_br (c := (4 : Int32) ≤ a) (t := 13) (f := 9) (L' := [some (.int a)]) (st' := []) rfl (fun h4 => ?_) (fun h4 => ?_)
    · have p5 : 4 ≤ a.toInt := x_lo_le h4 (by decide)
      refine g_n 1 (pc' := 14) (L' := [some (.int a)]) (st' := [.int 0]) rfl ?_
      refine g_ret (ins := .ireturn) (len := 1) (r := (some (.int 0))) rfl rfl rfl ?_
      refine g_n 2 (pc' := 8) (L' := [some (.ref 0), some (.int a), none, none]) (st' := [.int (-1)]) rfl ?_
      refine g_ret (ins := .ireturn) (len := 1) (r := (some (.int (-1)))) rfl rfl rfl ?_
      refine ⟨⟨_, rfl⟩, ?_⟩
      refine g_in (M := x_M489) (L := [some (.ref 281), some (.int a), none]) x_pl489 rfl ?_
      refine g_n 2 (pc' := 2) (L' := [some (.ref 281), some (.int a), none]) (st' := [.int a, .ref 281]) rfl ?_
      refine g_call (ins := .invokevirtual 1015) (len := 3) (j := 488) (as := [.ref 281, .int a]) (rest := []) rfl rfl rfl rfl (fun _ => rfl) rfl ?_
      refine g_in (M := x_M488) (L := [some (.ref 281), some (.int a)]) x_pl488 rfl ?_
      refine g_n 1 (pc' := 1) (L' := [some (.ref 281), some (.int a)]) (st' := [.int a]) rfl ?_
      refine g_brF (c := a < (0 : Int32)) (t := 13) (f := 4) (L' := [some (.ref 281), some (.int a)]) (st' := []) rfl (x_Flt (l := 4) (u := 0) p5 (by decide) (by decide)) ?_
      refine g_n 2 (pc' := 6) (L' := [some (.ref 281), some (.int a)]) (st' := [.int 4, .int a]) rfl ?_
      refine g_brT (c := (4 : Int32) ≤ a) (t := 13) (f := 9) (L' := [some (.ref 281), some (.int a)]) (st' := []) rfl (x_Tle (u := 4) (l := 4) (by decide) p5 (by decide)) ?_
      refine g_n 1 (pc' := 14) (L' := [some (.ref 281), some (.int a)]) (st' := [.int 0]) rfl ?_
      refine g_ret (ins := .ireturn) (len := 1) (r := (some (.int 0))) rfl rfl rfl ?_
      refine g_n 2 (pc' := 9) (L' := [some (.ref 281), some (.int a), none]) (st' := [.int (-1)]) rfl ?_
      exact g_ret (ins := .ireturn) (len := 1) (r := (some (.int (-1)))) rfl rfl rfl ⟨_, rfl, rfl, (x_sv_rf _)⟩
    · have p6 : a.toInt ≤ 3 := x_up_lt (x_nle h4) (by decide)
      refine g_n 2 (pc' := 14) (L' := [some (.int a)]) (st' := [.int 1]) rfl ?_
      refine g_ret (ins := .ireturn) (len := 1) (r := (some (.int 1))) rfl rfl rfl ?_
      refine g_n 5 (pc' := 17) (L' := [some (.ref 0), some (.int a), none, none]) (st' := [.ref 179, .ref 211]) rfl ?_
      refine g_call (ins := .invokevirtual 176) (len := 3) (j := 45) (as := [.ref 211, .ref 179]) (rest := []) rfl rfl rfl rfl (fun _ => rfl) rfl ?_
      refine g_in (M := x_M45) (L := [some (.ref 211), some (.ref 179), none, none]) x_pl45 rfl ?_
      refine g_n 8 (pc' := 14) (L' := [some (.ref 211), some (.ref 179), none, none]) (st' := [.ref 220]) rfl ?_
      refine g_call (ins := .invokevirtual 56) (len := 3) (j := 2) (as := [.ref 220]) (rest := []) rfl rfl rfl rfl (fun _ => rfl) rfl ?_
      refine g_in (M := x_M2) (L := [some (.ref 220)]) x_pl2 rfl ?_
      refine g_n 6 (pc' := 10) (L' := [some (.ref 220)]) (st' := []) rfl ?_
      refine g_ret (ins := .return_) (len := 1) (r := none) rfl rfl rfl ?_
      refine g_n 2 (pc' := 21) (L' := [some (.ref 211), some (.ref 179), none, none]) (st' := [.ref 222]) rfl ?_
      refine g_call (ins := .invokevirtual 56) (len := 3) (j := 2) (as := [.ref 222]) (rest := []) rfl rfl rfl rfl (fun _ => rfl) rfl ?_
      refine g_in (M := x_M2) (L := [some (.ref 222)]) x_pl2 rfl ?_
      refine g_n 6 (pc' := 10) (L' := [some (.ref 222)]) (st' := []) rfl ?_
      refine g_ret (ins := .return_) (len := 1) (r := none) rfl rfl rfl ?_
      refine g_n 2 (pc' := 26) (L' := [some (.ref 211), some (.ref 179), none, none]) (st' := [.int 0, .ref 211]) rfl ?_
      refine g_call (ins := .invokevirtual 59) (len := 3) (j := 55) (as := [.ref 211, .int 0]) (rest := []) rfl rfl rfl rfl (fun _ => rfl) rfl ?_
      refine g_in (M := x_M55) (L := [some (.ref 211), some (.int 0), none, none, none]) x_pl55 rfl ?_
      refine g_n 10 (pc' := 84) (L' := [some (.ref 211), some (.int 0), some (.int 0), some (.int 0), none]) (st' := [.int 0]) rfl ?_
      refine g_ret (ins := .ireturn) (len := 1) (r := (some (.int 0))) rfl rfl rfl ?_
      refine g_n 10 (pc' := 45) (L' := [some (.ref 211), some (.ref 179), some (.int 0), some (.int 0)]) (st' := [.int 0, .ref 211]) rfl ?_
      refine g_call (ins := .invokevirtual 63) (len := 3) (j := 56) (as := [.ref 211, .int 0]) (rest := []) rfl rfl rfl rfl (fun _ => rfl) rfl ?_
      refine g_in (M := x_M56) (L := [some (.ref 211), some (.int 0), none, none]) x_pl56 rfl ?_
      refine g_n 9 (pc' := 15) (L' := [some (.ref 211), some (.int 0), none, none]) (st' := [.int 0, .int 0, .int 0, .ref 211]) rfl ?_
      refine g_call (ins := .invokevirtual 84) (len := 3) (j := 57) (as := [.ref 211, .int 0, .int 0, .int 0]) (rest := []) rfl rfl rfl rfl (fun _ => rfl) rfl ?_
      refine g_in (M := x_M57) (L := [some (.ref 211), some (.int 0), some (.int 0), some (.int 0), none]) x_pl57 rfl ?_
      refine g_n 40 (pc' := 106) (L' := [some (.ref 211), some (.int 0), some (.int 0), some (.int 0), some (.int 0)]) (st' := []) rfl ?_
      refine g_n 17 (pc' := 160) (L' := [some (.ref 211), some (.int 0), some (.int 0), some (.int 0), some (.int 0)]) (st' := []) rfl ?_
      refine g_ret (ins := .return_) (len := 1) (r := none) rfl rfl rfl ?_
      refine g_n 1 (pc' := 19) (L' := [some (.ref 211), some (.int 0), none, none]) (st' := [.int (-1)]) rfl ?_
      refine g_ret (ins := .ireturn) (len := 1) (r := (some (.int (-1)))) rfl rfl rfl ?_
      refine g_n 9 (pc' := 56) (L' := [some (.ref 211), some (.ref 179), some (.int (-1)), some (.int 1)]) (st' := [.ref 179]) rfl ?_
      refine g_call (ins := .invokevirtual 56) (len := 3) (j := 2) (as := [.ref 179]) (rest := []) rfl rfl rfl rfl (fun _ => rfl) rfl ?_
      refine g_in (M := x_M2) (L := [some (.ref 179)]) x_pl2 rfl ?_
      refine g_n 6 (pc' := 10) (L' := [some (.ref 179)]) (st' := []) rfl ?_
      refine g_ret (ins := .return_) (len := 1) (r := none) rfl rfl rfl ?_
      refine g_n 4 (pc' := 65) (L' := [some (.ref 211), some (.ref 179), some (.int (-1)), some (.int 1)]) (st' := [.ref 211]) rfl ?_
      refine g_call (ins := .invokevirtual 69) (len := 3) (j := 46) (as := [.ref 211]) (rest := []) rfl rfl rfl rfl (fun _ => rfl) rfl ?_
      refine g_in (M := x_M46) (L := [some (.ref 211)]) x_pl46 rfl ?_
      refine g_n 40 (pc' := 83) (L' := [some (.ref 211)]) (st' := [.int 0, .ref 213, .ref 211]) rfl ?_
      refine g_n 3 (pc' := 91) (L' := [some (.ref 211)]) (st' := []) rfl ?_
      refine g_ret (ins := .return_) (len := 1) (r := none) rfl rfl rfl ?_
      refine g_ret (ins := .return_) (len := 1) (r := none) rfl rfl rfl ?_
      refine g_n 4 (pc' := 28) (L' := [some (.ref 0), some (.int a), none, none]) (st' := [.ref 183, .ref 224]) rfl ?_
      refine g_call (ins := .invokevirtual 179) (len := 3) (j := 133) (as := [.ref 224, .ref 183]) (rest := []) rfl rfl rfl rfl (fun _ => rfl) rfl ?_
      refine g_in (M := x_M133) (L := [some (.ref 224), some (.ref 183), none]) x_pl133 rfl ?_
      refine g_n 5 (pc' := 9) (L' := [some (.ref 224), some (.ref 183), none]) (st' := [.ref 183]) rfl ?_
      refine g_call (ins := .invokevirtual 42) (len := 3) (j := 107) (as := [.ref 183]) (rest := []) rfl rfl rfl rfl (fun _ => rfl) rfl ?_
      refine g_in (M := x_M107) (L := [some (.ref 183)]) x_pl107 rfl ?_
      refine g_n 17 (pc' := 29) (L' := [some (.ref 183)]) (st' := [.ref 200]) rfl ?_
      refine g_call (ins := .invokevirtual 78) (len := 3) (j := 2) (as := [.ref 200]) (rest := []) rfl rfl rfl rfl (fun _ => rfl) rfl ?_
      refine g_in (M := x_M2) (L := [some (.ref 200)]) x_pl2 rfl ?_
      refine g_n 6 (pc' := 10) (L' := [some (.ref 200)]) (st' := []) rfl ?_
      refine g_ret (ins := .return_) (len := 1) (r := none) rfl rfl rfl ?_
      refine g_n 2 (pc' := 36) (L' := [some (.ref 183)]) (st' := [.ref 202]) rfl ?_
      refine g_call (ins := .invokevirtual 78) (len := 3) (j := 2) (as := [.ref 202]) (rest := []) rfl rfl rfl rfl (fun _ => rfl) rfl ?_
      refine g_in (M := x_M2) (L := [some (.ref 202)]) x_pl2 rfl ?_
      refine g_n 6 (pc' := 10) (L' := [some (.ref 202)]) (st' := []) rfl ?_
      refine g_ret (ins := .return_) (len := 1) (r := none) rfl rfl rfl ?_
      refine g_n 2 (pc' := 43) (L' := [some (.ref 183)]) (st' := [.ref 184]) rfl ?_
      refine g_call (ins := .invokevirtual 81) (len := 3) (j := 266) (as := [.ref 184]) (rest := []) rfl rfl rfl rfl (fun _ => rfl) rfl ?_
      refine x_wipe (a := 184) (c := 185) (n := 270) rfl rfl (by decide) (fun f7 => ?_)
      refine g_n 2 (pc' := 50) (L' := [some (.ref 183)]) (st' := [.ref 186]) rfl ?_
      refine g_call (ins := .invokevirtual 81) (len := 3) (j := 266) (as := [.ref 186]) (rest := []) rfl rfl rfl rfl (fun _ => rfl) rfl ?_
      refine x_wipe (a := 186) (c := 187) (n := 12240) rfl rfl (by decide) (fun f8 => ?_)
      refine g_n 2 (pc' := 57) (L' := [some (.ref 183)]) (st' := [.ref 188]) rfl ?_
      refine g_call (ins := .invokevirtual 81) (len := 3) (j := 266) (as := [.ref 188]) (rest := []) rfl rfl rfl rfl (fun _ => rfl) rfl ?_
      refine x_wipe (a := 188) (c := 189) (n := 1200) rfl rfl (by decide) (fun f9 => ?_)
      refine g_n 2 (pc' := 64) (L' := [some (.ref 183)]) (st' := [.ref 190]) rfl ?_
      refine g_call (ins := .invokevirtual 81) (len := 3) (j := 266) (as := [.ref 190]) (rest := []) rfl rfl rfl rfl (fun _ => rfl) rfl ?_
      refine x_wipe (a := 190) (c := 191) (n := 24) rfl rfl (by decide) (fun f10 => ?_)
      refine g_n 2 (pc' := 71) (L' := [some (.ref 183)]) (st' := [.ref 192]) rfl ?_
      refine g_call (ins := .invokevirtual 81) (len := 3) (j := 266) (as := [.ref 192]) (rest := []) rfl rfl rfl rfl (fun _ => rfl) rfl ?_
      refine x_wipe (a := 192) (c := 193) (n := 320) rfl rfl (by decide) (fun f11 => ?_)
      refine g_n 2 (pc' := 78) (L' := [some (.ref 183)]) (st' := [.ref 194]) rfl ?_
      refine g_call (ins := .invokevirtual 81) (len := 3) (j := 266) (as := [.ref 194]) (rest := []) rfl rfl rfl rfl (fun _ => rfl) rfl ?_
      refine x_wipe (a := 194) (c := 195) (n := 64) rfl rfl (by decide) (fun f12 => ?_)
      refine g_ret (ins := .return_) (len := 1) (r := none) rfl rfl rfl ?_
      refine g_n 14 (pc' := 36) (L' := [some (.ref 224), some (.ref 183), none]) (st' := [.ref 225]) rfl ?_
      refine g_call (ins := .invokevirtual 58) (len := 3) (j := 266) (as := [.ref 225]) (rest := []) rfl rfl rfl rfl (fun _ => rfl) rfl ?_
      refine x_wipe (a := 225) (c := 226) (n := 2001) rfl rfl (by decide) (fun f13 => ?_)
      refine g_n 6 (pc' := 53) (L' := [some (.ref 224), some (.ref 183), none]) (st' := [.ref 220, .ref 200]) rfl ?_
      refine g_call (ins := .invokevirtual 70) (len := 3) (j := 7) (as := [.ref 200, .ref 220]) (rest := []) rfl rfl rfl rfl (fun _ => rfl) rfl ?_
      refine g_in (M := x_M7) (L := [some (.ref 200), some (.ref 220)]) x_pl7 rfl ?_
      refine g_n 1 (pc' := 1) (L' := [some (.ref 200), some (.ref 220)]) (st' := [.ref 200]) rfl ?_
      refine g_call (ins := .invokevirtual 26) (len := 3) (j := 2) (as := [.ref 200]) (rest := []) rfl rfl rfl rfl (fun _ => rfl) rfl ?_
      refine g_in (M := x_M2) (L := [some (.ref 200)]) x_pl2 rfl ?_
      refine g_n 6 (pc' := 10) (L' := [some (.ref 200)]) (st' := []) rfl ?_
      refine g_ret (ins := .return_) (len := 1) (r := none) rfl rfl rfl ?_
      refine g_n 5 (pc' := 11) (L' := [some (.ref 200), some (.ref 220)]) (st' := [.int 0, .int 0, .ref 220, .ref 200]) rfl ?_
      refine g_call (ins := .invokevirtual 29) (len := 3) (j := 6) (as := [.ref 200, .ref 220, .int 0, .int 0]) (rest := []) rfl rfl rfl rfl (fun _ => rfl) rfl ?_
      refine g_in (M := x_M6) (L := [some (.ref 200), some (.ref 220), some (.int 0), some (.int 0), none, none]) x_pl6 rfl ?_
      refine g_n 7 (pc' := 115) (L' := [some (.ref 200), some (.ref 220), some (.int 0), some (.int 0), some (.int 0), none]) (st' := []) rfl ?_
      refine g_ret (ins := .return_) (len := 1) (r := none) rfl rfl rfl ?_
      refine g_ret (ins := .return_) (len := 1) (r := none) rfl rfl rfl ?_
      refine g_n 16 (pc' := 170) (L' := [some (.ref 224), some (.ref 183), some (.int 0)]) (st' := [.ref 224]) rfl ?_
      refine g_call (ins := .invokevirtual 90) (len := 3) (j := 169) (as := [.ref 224]) (rest := []) rfl rfl rfl rfl (fun _ => rfl) rfl ?_
      refine g_in (M := x_M169) (L := [some (.ref 224), none, none]) x_pl169 rfl ?_
      refine g_n 14 (pc' := 112) (L' := [some (.ref 224), some (.int 0), none]) (st' := []) rfl ?_
      refine g_ret (ins := .return_) (len := 1) (r := none) rfl rfl rfl ?_
      refine g_n 1 (pc' := 174) (L' := [some (.ref 224), some (.ref 183), some (.int 0)]) (st' := [.ref 224]) rfl ?_
      refine g_call (ins := .invokevirtual 93) (len := 3) (j := 174) (as := [.ref 224]) (rest := []) rfl rfl rfl rfl (fun _ => rfl) rfl ?_
      refine g_in (M := x_M174) (L := [some (.ref 224), none, none, none, none, none, none]) x_pl174 rfl ?_
      refine g_n 7 (pc' := 165) (L' := [some (.ref 224), some (.int 0), none, none, none, none, none]) (st' := []) rfl ?_
      refine g_ret (ins := .return_) (len := 1) (r := none) rfl rfl rfl ?_
      refine g_n 22 (pc' := 254) (L' := [some (.ref 224), some (.ref 183), some (.int 0)]) (st' := []) rfl ?_
      refine g_ret (ins := .return_) (len := 1) (r := none) rfl rfl rfl ?_
      refine g_n 10 (pc' := 74) (L' := [some (.ref 0), some (.int a), none, none]) (st' := [.int a, .ref 2]) rfl ?_
      by_cases h14 : a = 0
      · have e15 : a = 0 := h14
        subst e15
        refine g_aa (i := 0) (a := 2) (n := 4) (v := 27) rfl rfl (by decide) (x_at (x_f2 hF) (k := 0) rfl) ?_
        refine g_n 18 (pc' := 104) (L' := [some (.ref 0), some (.int 0), some (.ref 27), some (.int 0)]) (st' := [.int 0, .ref 3]) rfl ?_
        refine g_aa (i := 0) (a := 3) (n := 12) (v := 119) rfl rfl (by decide) (x_at (x_f3 hF) (k := 0) rfl) ?_
        refine g_n 6 (pc' := 117) (L' := [some (.ref 0), some (.int 0), some (.ref 27), some (.int 0)]) (st' := [.int 0, .ref 3]) rfl ?_
        refine g_aa (i := 0) (a := 3) (n := 12) (v := 119) rfl rfl (by decide) (x_at (x_f3 hF) (k := 0) rfl) ?_
        refine g_n 10 (pc' := 104) (L' := [some (.ref 0), some (.int 0), some (.ref 27), some (.int 1)]) (st' := [.int 1, .ref 3]) rfl ?_
        refine g_aa (i := 1) (a := 3) (n := 12) (v := 124) rfl rfl (by decide) (x_at (x_f3 hF) (k := 1) rfl) ?_
        refine g_n 6 (pc' := 117) (L' := [some (.ref 0), some (.int 0), some (.ref 27), some (.int 1)]) (st' := [.int 1, .ref 3]) rfl ?_
        refine g_aa (i := 1) (a := 3) (n := 12) (v := 124) rfl rfl (by decide) (x_at (x_f3 hF) (k := 1) rfl) ?_
        refine g_n 10 (pc' := 104) (L' := [some (.ref 0), some (.int 0), some (.ref 27), some (.int 2)]) (st' := [.int 2, .ref 3]) rfl ?_
        refine g_aa (i := 2) (a := 3) (n := 12) (v := 129) rfl rfl (by decide) (x_at (x_f3 hF) (k := 2) rfl) ?_
        refine g_n 6 (pc' := 117) (L' := [some (.ref 0), some (.int 0), some (.ref 27), some (.int 2)]) (st' := [.int 2, .ref 3]) rfl ?_
        refine g_aa (i := 2) (a := 3) (n := 12) (v := 129) rfl rfl (by decide) (x_at (x_f3 hF) (k := 2) rfl) ?_
        refine g_n 10 (pc' := 104) (L' := [some (.ref 0), some (.int 0), some (.ref 27), some (.int 3)]) (st' := [.int 3, .ref 3]) rfl ?_
        refine g_aa (i := 3) (a := 3) (n := 12) (v := 134) rfl rfl (by decide) (x_at (x_f3 hF) (k := 3) rfl) ?_
        refine g_n 6 (pc' := 117) (L' := [some (.ref 0), some (.int 0), some (.ref 27), some (.int 3)]) (st' := [.int 3, .ref 3]) rfl ?_
        refine g_aa (i := 3) (a := 3) (n := 12) (v := 134) rfl rfl (by decide) (x_at (x_f3 hF) (k := 3) rfl) ?_
        refine g_n 10 (pc' := 104) (L' := [some (.ref 0), some (.int 0), some (.ref 27), some (.int 4)]) (st' := [.int 4, .ref 3]) rfl ?_
        refine g_aa (i := 4) (a := 3) (n := 12) (v := 139) rfl rfl (by decide) (x_at (x_f3 hF) (k := 4) rfl) ?_
        refine g_n 6 (pc' := 117) (L' := [some (.ref 0), some (.int 0), some (.ref 27), some (.int 4)]) (st' := [.int 4, .ref 3]) rfl ?_
        refine g_aa (i := 4) (a := 3) (n := 12) (v := 139) rfl rfl (by decide) (x_at (x_f3 hF) (k := 4) rfl) ?_
        refine g_n 10 (pc' := 104) (L' := [some (.ref 0), some (.int 0), some (.ref 27), some (.int 5)]) (st' := [.int 5, .ref 3]) rfl ?_
        refine g_aa (i := 5) (a := 3) (n := 12) (v := 144) rfl rfl (by decide) (x_at (x_f3 hF) (k := 5) rfl) ?_
        refine g_n 6 (pc' := 117) (L' := [some (.ref 0), some (.int 0), some (.ref 27), some (.int 5)]) (st' := [.int 5, .ref 3]) rfl ?_
        refine g_aa (i := 5) (a := 3) (n := 12) (v := 144) rfl rfl (by decide) (x_at (x_f3 hF) (k := 5) rfl) ?_
        refine g_n 10 (pc' := 104) (L' := [some (.ref 0), some (.int 0), some (.ref 27), some (.int 6)]) (st' := [.int 6, .ref 3]) rfl ?_
        refine g_aa (i := 6) (a := 3) (n := 12) (v := 149) rfl rfl (by decide) (x_at (x_f3 hF) (k := 6) rfl) ?_
        refine g_n 6 (pc' := 117) (L' := [some (.ref 0), some (.int 0), some (.ref 27), some (.int 6)]) (st' := [.int 6, .ref 3]) rfl ?_
        refine g_aa (i := 6) (a := 3) (n := 12) (v := 149) rfl rfl (by decide) (x_at (x_f3 hF) (k := 6) rfl) ?_
        refine g_n 10 (pc' := 104) (L' := [some (.ref 0), some (.int 0), some (.ref 27), some (.int 7)]) (st' := [.int 7, .ref 3]) rfl ?_
        refine g_aa (i := 7) (a := 3) (n := 12) (v := 154) rfl rfl (by decide) (x_at (x_f3 hF) (k := 7) rfl) ?_
        refine g_n 6 (pc' := 117) (L' := [some (.ref 0), some (.int 0), some (.ref 27), some (.int 7)]) (st' := [.int 7, .ref 3]) rfl ?_
        refine g_aa (i := 7) (a := 3) (n := 12) (v := 154) rfl rfl (by decide) (x_at (x_f3 hF) (k := 7) rfl) ?_
        refine g_n 10 (pc' := 104) (L' := [some (.ref 0), some (.int 0), some (.ref 27), some (.int 8)]) (st' := [.int 8, .ref 3]) rfl ?_
        refine g_aa (i := 8) (a := 3) (n := 12) (v := 159) rfl rfl (by decide) (x_at (x_f3 hF) (k := 8) rfl) ?_
        refine g_n 6 (pc' := 117) (L' := [some (.ref 0), some (.int 0), some (.ref 27), some (.int 8)]) (st' := [.int 8, .ref 3]) rfl ?_
        refine g_aa (i := 8) (a := 3) (n := 12) (v := 159) rfl rfl (by decide) (x_at (x_f3 hF) (k := 8) rfl) ?_
        refine g_n 10 (pc' := 104) (L' := [some (.ref 0), some (.int 0), some (.ref 27), some (.int 9)]) (st' := [.int 9, .ref 3]) rfl ?_
        refine g_aa (i := 9) (a := 3) (n := 12) (v := 164) rfl rfl (by decide) (x_at (x_f3 hF) (k := 9) rfl) ?_
        refine g_n 6 (pc' := 117) (L' := [some (.ref 0), some (.int 0), some (.ref 27), some (.int 9)]) (st' := [.int 9, .ref 3]) rfl ?_
        refine g_aa (i := 9) (a := 3) (n := 12) (v := 164) rfl rfl (by decide) (x_at (x_f3 hF) (k := 9) rfl) ?_
        refine g_n 10 (pc' := 104) (L' := [some (.ref 0), some (.int 0), some (.ref 27), some (.int 10)]) (st' := [.int 10, .ref 3]) rfl ?_
        refine g_aa (i := 10) (a := 3) (n := 12) (v := 169) rfl rfl (by decide) (x_at (x_f3 hF) (k := 10) rfl) ?_
        refine g_n 6 (pc' := 117) (L' := [some (.ref 0), some (.int 0), some (.ref 27), some (.int 10)]) (st' := [.int 10, .ref 3]) rfl ?_
        refine g_aa (i := 10) (a := 3) (n := 12) (v := 169) rfl rfl (by decide) (x_at (x_f3 hF) (k := 10) rfl) ?_
        refine g_n 10 (pc' := 104) (L' := [some (.ref 0), some (.int 0), some (.ref 27), some (.int 11)]) (st' := [.int 11, .ref 3]) rfl ?_
        refine g_aa (i := 11) (a := 3) (n := 12) (v := 174) rfl rfl (by decide) (x_at (x_f3 hF) (k := 11) rfl) ?_
        refine g_n 6 (pc' := 117) (L' := [some (.ref 0), some (.int 0), some (.ref 27), some (.int 11)]) (st' := [.int 11, .ref 3]) rfl ?_
        refine g_aa (i := 11) (a := 3) (n := 12) (v := 174) rfl rfl (by decide) (x_at (x_f3 hF) (k := 11) rfl) ?_
        refine g_n 10 (pc' := 133) (L' := [some (.ref 0), some (.int 0), some (.ref 27), some (.int 12)]) (st' := [.int 0, .ref 248]) rfl ?_
        refine g_call (ins := .invokevirtual 196) (len := 3) (j := 75) (as := [.ref 248, .int 0]) (rest := []) rfl rfl rfl rfl (fun _ => rfl) rfl ?_
        refine g_in (M := x_M75) (L := [some (.ref 248), some (.int 0), none]) x_pl75 rfl ?_
        refine g_n 11 (pc' := 21) (L' := [some (.ref 248), some (.int 0), some (.int 0)]) (st' := [.int 0, .ref 248]) rfl ?_
        refine g_call (ins := .invokevirtual 99) (len := 3) (j := 76) (as := [.ref 248, .int 0]) (rest := []) rfl rfl rfl rfl (fun _ => rfl) rfl ?_
        refine g_in (M := x_M76) (L := [some (.ref 248), some (.int 0)]) x_pl76 rfl ?_
        refine g_n 4 (pc' := 6) (L' := [some (.ref 248), some (.int 0)]) (st' := [.int 4, .int 0, .ref 255]) rfl ?_
        refine g_call (ins := .invokevirtual 95) (len := 3) (j := 263) (as := [.ref 255, .int 0, .int 4]) (rest := []) rfl rfl rfl rfl (fun _ => rfl) rfl ?_
        refine g_in (M := x_M263) (L := [some (.ref 255), some (.int 0), some (.int 4), none]) x_pl263 rfl ?_
        refine g_n 30 (pc' := 55) (L' := [some (.ref 255), some (.int 0), some (.int 4), some (.int 4)]) (st' := [.int 4, .ref 256]) rfl ?_
        refine g_la (i := 4) (a := 256) (n := 18) (v := 0) rfl rfl (by decide) (x_at (x_f256 hF) (k := 4) rfl) ?_
        refine g_n 2 (pc' := 61) (L' := [some (.ref 255), some (.int 0), some (.int 4), some (.int 4)]) (st' := [.int 0]) rfl ?_
        refine g_ret (ins := .ireturn) (len := 1) (r := (some (.int 0))) rfl rfl rfl ?_
        refine g_n 3 (pc' := 18) (L' := [some (.ref 248), some (.int 0)]) (st' := [.int 0]) rfl ?_
        refine g_ret (ins := .ireturn) (len := 1) (r := (some (.int 0))) rfl rfl rfl ?_
        refine g_n 8 (pc' := 21) (L' := [some (.ref 248), some (.int 0), some (.int 1)]) (st' := [.int 1, .ref 248]) rfl ?_
        refine g_call (ins := .invokevirtual 99) (len := 3) (j := 76) (as := [.ref 248, .int 1]) (rest := []) rfl rfl rfl rfl (fun _ => rfl) rfl ?_
        refine g_in (M := x_M76) (L := [some (.ref 248), some (.int 1)]) x_pl76 rfl ?_
        refine g_n 4 (pc' := 6) (L' := [some (.ref 248), some (.int 1)]) (st' := [.int 4, .int 1, .ref 255]) rfl ?_
        refine g_call (ins := .invokevirtual 95) (len := 3) (j := 263) (as := [.ref 255, .int 1, .int 4]) (rest := []) rfl rfl rfl rfl (fun _ => rfl) rfl ?_
        refine g_in (M := x_M263) (L := [some (.ref 255), some (.int 1), some (.int 4), none]) x_pl263 rfl ?_
        refine g_n 30 (pc' := 55) (L' := [some (.ref 255), some (.int 1), some (.int 4), some (.int 10)]) (st' := [.int 10, .ref 256]) rfl ?_
        refine g_la (i := 10) (a := 256) (n := 18) (v := 0) rfl rfl (by decide) (x_at (x_f256 hF) (k := 10) rfl) ?_
        refine g_n 2 (pc' := 61) (L' := [some (.ref 255), some (.int 1), some (.int 4), some (.int 10)]) (st' := [.int 0]) rfl ?_
        refine g_ret (ins := .ireturn) (len := 1) (r := (some (.int 0))) rfl rfl rfl ?_
        refine g_n 3 (pc' := 18) (L' := [some (.ref 248), some (.int 1)]) (st' := [.int 0]) rfl ?_
        refine g_ret (ins := .ireturn) (len := 1) (r := (some (.int 0))) rfl rfl rfl ?_
        refine g_n 8 (pc' := 21) (L' := [some (.ref 248), some (.int 0), some (.int 2)]) (st' := [.int 2, .ref 248]) rfl ?_
        refine g_call (ins := .invokevirtual 99) (len := 3) (j := 76) (as := [.ref 248, .int 2]) (rest := []) rfl rfl rfl rfl (fun _ => rfl) rfl ?_
        refine g_in (M := x_M76) (L := [some (.ref 248), some (.int 2)]) x_pl76 rfl ?_
        refine g_n 4 (pc' := 6) (L' := [some (.ref 248), some (.int 2)]) (st' := [.int 4, .int 2, .ref 255]) rfl ?_
        refine g_call (ins := .invokevirtual 95) (len := 3) (j := 263) (as := [.ref 255, .int 2, .int 4]) (rest := []) rfl rfl rfl rfl (fun _ => rfl) rfl ?_
        refine g_in (M := x_M263) (L := [some (.ref 255), some (.int 2), some (.int 4), none]) x_pl263 rfl ?_
        refine g_n 30 (pc' := 55) (L' := [some (.ref 255), some (.int 2), some (.int 4), some (.int 16)]) (st' := [.int 16, .ref 256]) rfl ?_
        refine g_la (i := 16) (a := 256) (n := 18) (v := 0) rfl rfl (by decide) (x_at (x_f256 hF) (k := 16) rfl) ?_
        refine g_n 2 (pc' := 61) (L' := [some (.ref 255), some (.int 2), some (.int 4), some (.int 16)]) (st' := [.int 0]) rfl ?_
        refine g_ret (ins := .ireturn) (len := 1) (r := (some (.int 0))) rfl rfl rfl ?_
        refine g_n 3 (pc' := 18) (L' := [some (.ref 248), some (.int 2)]) (st' := [.int 0]) rfl ?_
        refine g_ret (ins := .ireturn) (len := 1) (r := (some (.int 0))) rfl rfl rfl ?_
        refine g_n 6 (pc' := 56) (L' := [some (.ref 248), some (.int 0), some (.int 3)]) (st' := []) rfl ?_
        refine g_ret (ins := .return_) (len := 1) (r := none) rfl rfl rfl ?_
        refine g_n 5 (pc' := 145) (L' := [some (.ref 0), some (.int 0), some (.ref 27), some (.int 12)]) (st' := [.int 0]) rfl ?_
        refine g_ret (ins := .ireturn) (len := 1) (r := (some (.int 0))) rfl rfl rfl ?_
        refine ⟨⟨_, (x_obj_ne (by decide)).trans ((x_obj_ne (by decide)).trans ((x_obj_ne (by decide)).trans ((x_obj_ne (by decide)).trans ((x_obj_ne (by decide)).trans ((x_obj_ne (by decide)).trans ((x_obj_ne (by decide)).trans ((x_obj_ne (by decide)).trans ((x_obj_ne (by decide)).trans ((x_obj_ne (by decide)).trans ((x_obj_ne (by decide)).trans ((x_obj_ne (by decide)).trans ((x_obj_ne (by decide)).trans ((x_obj_ne (by decide)).trans ((x_obj_ne (by decide)).trans ((x_obj_ne (by decide)).trans ((x_obj_ne (by decide)).trans ((x_obj_ne (by decide)).trans ((x_obj_ne (by decide)).trans ((x_obj_ne (by decide)).trans ((x_obj_ne (by decide)).trans ((x_obj_ne (by decide)).trans ((x_obj_ne (by decide)).trans ((x_obj_ne (by decide)).trans ((x_obj_ne (by decide)).trans ((x_obj_ne (by decide)).trans ((x_obj_ne (by decide)).trans ((x_obj_ne (by decide)).trans ((x_obj_ne (by decide)).trans ((x_obj_ne (by decide)).trans ((x_obj_ne (by decide)).trans ((x_obj_ne (by decide)).trans ((x_obj_ne (by decide)).trans ((x_obj_ne (by decide)).trans ((x_obj_ne (by decide)).trans ((x_obj_ne (by decide)).trans ((x_obj_ne (by decide)).trans ((x_obj_ne (by decide)).trans ((x_obj_ne (by decide)).trans ((x_obj_ne (by decide)).trans ((x_obj_ne (by decide)).trans ((x_obj_ne (by decide)).trans ((x_obj_ne (by decide)).trans ((x_obj_ne (by decide)).trans ((x_obj_ne (by decide)).trans ((x_obj_ne (by decide)).trans ((x_obj_ne (by decide)).trans ((x_obj_ne (by decide)).trans ((x_obj_ne (by decide)).trans ((x_obj_ne (by decide)).trans ((x_obj_ne (by decide)).trans ((x_obj_ne (by decide)).trans ((x_obj_ne (by decide)).trans ((x_obj_ne (by decide)).trans ((x_obj_ne (by decide)).trans ((x_obj_ne (by decide)).trans ((x_obj_ne (by decide)).trans ((x_obj_ne (by decide)).trans ((x_obj_ne (by decide)).trans (rfl)))))))))))))))))))))))))))))))))))))))))))))))))))))))))))⟩, ?_⟩
        refine g_in (M := x_M489) (L := [some (.ref 281), some (.int 0), none]) x_pl489 rfl ?_
        refine g_n 2 (pc' := 2) (L' := [some (.ref 281), some (.int 0), none]) (st' := [.int 0, .ref 281]) rfl ?_
        refine g_call (ins := .invokevirtual 1015) (len := 3) (j := 488) (as := [.ref 281, .int 0]) (rest := []) rfl rfl rfl rfl (fun _ => rfl) rfl ?_
        refine g_in (M := x_M488) (L := [some (.ref 281), some (.int 0)]) x_pl488 rfl ?_
        refine g_n 7 (pc' := 14) (L' := [some (.ref 281), some (.int 0)]) (st' := [.int 1]) rfl ?_
        refine g_ret (ins := .ireturn) (len := 1) (r := (some (.int 1))) rfl rfl rfl ?_
        refine g_n 2 (pc' := 11) (L' := [some (.ref 281), some (.int 0), none]) (st' := [.ref 281]) rfl ?_
        refine g_call (ins := .invokevirtual 1018) (len := 3) (j := 423) (as := [.ref 281]) (rest := []) rfl rfl rfl rfl (fun _ => rfl) rfl ?_
        refine g_in (M := x_M423) (L := [some (.ref 281), none]) x_pl423 rfl ?_
        refine g_n 19 (pc' := 51) (L' := [some (.ref 281), some (.int 0)]) (st' := []) rfl ?_
        refine g_ret (ins := .return_) (len := 1) (r := none) rfl rfl rfl ?_
        refine g_n 4 (pc' := 21) (L' := [some (.ref 281), some (.int 0), none]) (st' := [.ref 281]) rfl ?_
        refine g_call (ins := .invokevirtual 1021) (len := 3) (j := 441) (as := [.ref 281]) (rest := []) rfl rfl rfl rfl (fun _ => rfl) rfl ?_
        refine g_in (M := x_M441) (L := [some (.ref 281), none]) x_pl441 rfl ?_
        refine g_n 19 (pc' := 27) (L' := [some (.ref 281), none]) (st' := [.ref 281]) rfl ?_
        refine g_call (ins := .invokevirtual 805) (len := 3) (j := 427) (as := [.ref 281]) (rest := []) rfl rfl rfl rfl (fun _ => rfl) rfl ?_
        refine g_in (M := x_M427) (L := [some (.ref 281), none, none]) x_pl427 rfl ?_
        refine g_n 37 (pc' := 192) (L' := [some (.ref 281), some (.int 0), none]) (st' := [.int 1]) rfl ?_
        refine g_ret (ins := .ireturn) (len := 1) (r := (some (.int 1))) rfl rfl rfl ?_
        refine g_n 5 (pc' := 105) (L' := [some (.ref 281), none]) (st' := [.int 1]) rfl ?_
        refine g_ret (ins := .ireturn) (len := 1) (r := (some (.int 1))) rfl rfl rfl ?_
        refine g_n 2 (pc' := 28) (L' := [some (.ref 281), some (.int 0), none]) (st' := [.ref 281]) rfl ?_
        refine g_call (ins := .invokevirtual 1024) (len := 3) (j := 478) (as := [.ref 281]) (rest := []) rfl rfl rfl rfl (fun _ => rfl) rfl ?_
        refine g_in (M := x_M478) (L := [some (.ref 281), none]) x_pl478 rfl ?_
        refine g_n 4 (pc' := 6) (L' := [some (.ref 281), none]) (st' := [.ref 281]) rfl ?_
        refine g_call (ins := .invokevirtual 976) (len := 3) (j := 464) (as := [.ref 281]) (rest := []) rfl rfl rfl rfl (fun _ => rfl) rfl ?_
        refine g_in (M := x_M464) (L := [some (.ref 281), none, none]) x_pl464 rfl ?_
        refine g_n 20 (pc' := 270) (L' := [some (.ref 281), some (.int 16), none]) (st' := []) rfl ?_
        refine g_ret (ins := .return_) (len := 1) (r := none) rfl rfl rfl ?_
        refine g_n 28 (pc' := 112) (L' := [some (.ref 281), some (.int 16)]) (st' := [.int 1]) rfl ?_
        refine g_ret (ins := .ireturn) (len := 1) (r := (some (.int 1))) rfl rfl rfl ?_
        refine g_n 13 (pc' := 88) (L' := [some (.ref 281), some (.int 0), some (.int 120)]) (st' := [.int 0, .ref 281]) rfl ?_
        refine g_call (ins := .invokevirtual 1030) (len := 3) (j := 485) (as := [.ref 281, .int 0]) (rest := []) rfl rfl rfl rfl (fun _ => rfl) rfl ?_
        refine g_in (M := x_M485) (L := [some (.ref 281), some (.int 0), none, none, none, none]) x_pl485 rfl ?_
        refine g_n 40 (pc' := 86) (L' := [some (.ref 281), some (.int 0), some (.int 0), none, none, none]) (st' := [.int 0]) rfl ?_
        refine g_n 13 (pc' := 529) (L' := [some (.ref 281), some (.int 0), some (.int 0), none, none, none]) (st' := []) rfl ?_
        refine g_ret (ins := .return_) (len := 1) (r := none) rfl rfl rfl ?_
        refine g_n 2 (pc' := 93) (L' := [some (.ref 281), some (.int 0), some (.int 120)]) (st' := [.int 0, .ref 281]) rfl ?_
        refine g_call (ins := .invokevirtual 1033) (len := 3) (j := 712) (as := [.ref 281, .int 0]) (rest := []) rfl rfl rfl rfl (fun _ => rfl) rfl ?_
        refine g_in (M := x_M712) (L := [some (.ref 281), some (.int 0), none]) x_pl712 rfl ?_
        refine g_n 40 (pc' := 34) (L' := [some (.ref 281), some (.int 0), some (.int 3)]) (st' := []) rfl ?_
        refine g_n 40 (pc' := 34) (L' := [some (.ref 281), some (.int 0), some (.int 7)]) (st' := []) rfl ?_
        refine g_n 40 (pc' := 34) (L' := [some (.ref 281), some (.int 0), some (.int 11)]) (st' := []) rfl ?_
        refine g_n 40 (pc' := 86) (L' := [some (.ref 281), some (.int 0), some (.int 3)]) (st' := []) rfl ?_
        refine g_n 3 (pc' := 130) (L' := [some (.ref 281), some (.int 0), some (.int 3)]) (st' := []) rfl ?_
        refine g_ret (ins := .return_) (len := 1) (r := none) rfl rfl rfl ?_
        refine g_n 4 (pc' := 102) (L' := [some (.ref 281), some (.int 0), some (.int 120)]) (st' := [.int 0]) rfl ?_
        exact g_ret (ins := .ireturn) (len := 1) (r := (some (.int 0))) rfl rfl rfl ⟨_, rfl, rfl, (x_sv_set (x_sv_set (x_sv_set (x_sv_set (x_sv_set (x_sv_set (x_sv_set (x_sv_set (x_sv_set (x_sv_set (x_sv_set (x_sv_set (x_sv_set (x_sv_set (x_sv_set (x_sv_set (x_sv_set (x_sv_set (x_sv_set (x_sv_set (x_sv_set (x_sv_set (x_sv_set (x_sv_set (x_sv_set (x_sv_set (x_sv_set (x_sv_set (x_sv_set (x_sv_set (x_sv_set (x_sv_set (x_sv_set (x_sv_set (x_sv_set (x_sv_set (x_sv_set (x_sv_set (x_sv_set (x_sv_set (x_sv_set (x_sv_set (x_sv_set (x_sv_set (x_sv_set (x_sv_set (x_sv_set (x_sv_set (x_sv_set (x_sv_set (x_sv_set (x_sv_set (x_sv_set (x_sv_set (x_sv_set (x_sv_set (x_sv_set (x_sv_set (x_sv_set (x_sv_set (x_sv_set (x_sv_set (x_sv_set (x_sv_set (x_sv_set (x_sv_set (x_sv_set (x_sv_set (x_sv_set (x_sv_set (x_sv_set (x_sv_set (x_sv_set (x_sv_set (x_sv_set (x_sv_set (x_sv_rf _) rfl rfl) rfl rfl) rfl rfl) rfl rfl) rfl rfl) rfl rfl) rfl rfl) rfl rfl) rfl rfl) rfl rfl) rfl rfl) rfl rfl) rfl rfl) rfl rfl) rfl rfl) rfl rfl) rfl rfl) rfl rfl) rfl rfl) rfl rfl) rfl rfl) rfl rfl) rfl rfl) rfl rfl) rfl rfl) rfl rfl) rfl rfl) rfl rfl) rfl rfl) rfl rfl) rfl rfl) rfl rfl) rfl rfl) rfl rfl) rfl rfl) rfl rfl) rfl rfl) rfl rfl) rfl rfl) rfl rfl) rfl rfl) rfl rfl) rfl rfl) rfl rfl) rfl rfl) rfl rfl) rfl rfl) rfl rfl) rfl rfl) rfl rfl) rfl rfl) rfl rfl) rfl rfl) rfl rfl) rfl rfl) rfl rfl) rfl rfl) rfl rfl) rfl rfl) rfl rfl) rfl rfl) rfl rfl) rfl rfl) rfl rfl) rfl rfl) rfl rfl) rfl rfl) rfl rfl) rfl rfl) rfl rfl) rfl rfl) rfl rfl) rfl rfl) rfl rfl) rfl rfl) rfl rfl)⟩
      · have q16 : ¬ a = 0 := h14
        have p17 : 1 ≤ a.toInt := x_lo_ne q16 p3 (by decide)
        by_cases h18 : a = 1
        · have e19 : a = 1 := h18
          subst e19
          refine g_aa (i := 1) (a := 2) (n := 4) (v := 50) rfl rfl (by decide) (x_at (x_f2 hF) (k := 1) rfl) ?_
          refine g_n 18 (pc' := 104) (L' := [some (.ref 0), some (.int 1), some (.ref 50), some (.int 0)]) (st' := [.int 0, .ref 3]) rfl ?_
          refine g_aa (i := 0) (a := 3) (n := 12) (v := 119) rfl rfl (by decide) (x_at (x_f3 hF) (k := 0) rfl) ?_
          refine g_n 11 (pc' := 104) (L' := [some (.ref 0), some (.int 1), some (.ref 50), some (.int 1)]) (st' := [.int 1, .ref 3]) rfl ?_
          refine g_aa (i := 1) (a := 3) (n := 12) (v := 124) rfl rfl (by decide) (x_at (x_f3 hF) (k := 1) rfl) ?_
          refine g_n 11 (pc' := 104) (L' := [some (.ref 0), some (.int 1), some (.ref 50), some (.int 2)]) (st' := [.int 2, .ref 3]) rfl ?_
          refine g_aa (i := 2) (a := 3) (n := 12) (v := 129) rfl rfl (by decide) (x_at (x_f3 hF) (k := 2) rfl) ?_
          refine g_n 11 (pc' := 104) (L' := [some (.ref 0), some (.int 1), some (.ref 50), some (.int 3)]) (st' := [.int 3, .ref 3]) rfl ?_
          refine g_aa (i := 3) (a := 3) (n := 12) (v := 134) rfl rfl (by decide) (x_at (x_f3 hF) (k := 3) rfl) ?_
          refine g_n 11 (pc' := 104) (L' := [some (.ref 0), some (.int 1), some (.ref 50), some (.int 4)]) (st' := [.int 4, .ref 3]) rfl ?_
          refine g_aa (i := 4) (a := 3) (n := 12) (v := 139) rfl rfl (by decide) (x_at (x_f3 hF) (k := 4) rfl) ?_
          refine g_n 11 (pc' := 104) (L' := [some (.ref 0), some (.int 1), some (.ref 50), some (.int 5)]) (st' := [.int 5, .ref 3]) rfl ?_
          refine g_aa (i := 5) (a := 3) (n := 12) (v := 144) rfl rfl (by decide) (x_at (x_f3 hF) (k := 5) rfl) ?_
          refine g_n 11 (pc' := 104) (L' := [some (.ref 0), some (.int 1), some (.ref 50), some (.int 6)]) (st' := [.int 6, .ref 3]) rfl ?_
          refine g_aa (i := 6) (a := 3) (n := 12) (v := 149) rfl rfl (by decide) (x_at (x_f3 hF) (k := 6) rfl) ?_
          refine g_n 11 (pc' := 104) (L' := [some (.ref 0), some (.int 1), some (.ref 50), some (.int 7)]) (st' := [.int 7, .ref 3]) rfl ?_
          refine g_aa (i := 7) (a := 3) (n := 12) (v := 154) rfl rfl (by decide) (x_at (x_f3 hF) (k := 7) rfl) ?_
          refine g_n 11 (pc' := 104) (L' := [some (.ref 0), some (.int 1), some (.ref 50), some (.int 8)]) (st' := [.int 8, .ref 3]) rfl ?_
          refine g_aa (i := 8) (a := 3) (n := 12) (v := 159) rfl rfl (by decide) (x_at (x_f3 hF) (k := 8) rfl) ?_
          refine g_n 11 (pc' := 104) (L' := [some (.ref 0), some (.int 1), some (.ref 50), some (.int 9)]) (st' := [.int 9, .ref 3]) rfl ?_
          refine g_aa (i := 9) (a := 3) (n := 12) (v := 164) rfl rfl (by decide) (x_at (x_f3 hF) (k := 9) rfl) ?_
          refine g_n 11 (pc' := 104) (L' := [some (.ref 0), some (.int 1), some (.ref 50), some (.int 10)]) (st' := [.int 10, .ref 3]) rfl ?_
          refine g_aa (i := 10) (a := 3) (n := 12) (v := 169) rfl rfl (by decide) (x_at (x_f3 hF) (k := 10) rfl) ?_
          refine g_n 11 (pc' := 104) (L' := [some (.ref 0), some (.int 1), some (.ref 50), some (.int 11)]) (st' := [.int 11, .ref 3]) rfl ?_
          refine g_aa (i := 11) (a := 3) (n := 12) (v := 174) rfl rfl (by decide) (x_at (x_f3 hF) (k := 11) rfl) ?_
          refine g_n 11 (pc' := 133) (L' := [some (.ref 0), some (.int 1), some (.ref 50), some (.int 12)]) (st' := [.int 1, .ref 248]) rfl ?_
          refine g_call (ins := .invokevirtual 196) (len := 3) (j := 75) (as := [.ref 248, .int 1]) (rest := []) rfl rfl rfl rfl (fun _ => rfl) rfl ?_
          refine g_in (M := x_M75) (L := [some (.ref 248), some (.int 1), none]) x_pl75 rfl ?_
          refine g_n 11 (pc' := 21) (L' := [some (.ref 248), some (.int 1), some (.int 0)]) (st' := [.int 0, .ref 248]) rfl ?_
          refine g_call (ins := .invokevirtual 99) (len := 3) (j := 76) (as := [.ref 248, .int 0]) (rest := []) rfl rfl rfl rfl (fun _ => rfl) rfl ?_
          refine g_in (M := x_M76) (L := [some (.ref 248), some (.int 0)]) x_pl76 rfl ?_
          refine g_n 4 (pc' := 6) (L' := [some (.ref 248), some (.int 0)]) (st' := [.int 4, .int 0, .ref 255]) rfl ?_
          refine g_call (ins := .invokevirtual 95) (len := 3) (j := 263) (as := [.ref 255, .int 0, .int 4]) (rest := []) rfl rfl rfl rfl (fun _ => rfl) rfl ?_
          refine g_in (M := x_M263) (L := [some (.ref 255), some (.int 0), some (.int 4), none]) x_pl263 rfl ?_
          refine g_n 30 (pc' := 55) (L' := [some (.ref 255), some (.int 0), some (.int 4), some (.int 4)]) (st' := [.int 4, .ref 256]) rfl ?_
          refine g_la (i := 4) (a := 256) (n := 18) (v := 0) rfl rfl (by decide) (x_at (x_f256 hF) (k := 4) rfl) ?_
          refine g_n 2 (pc' := 61) (L' := [some (.ref 255), some (.int 0), some (.int 4), some (.int 4)]) (st' := [.int 0]) rfl ?_
          refine g_ret (ins := .ireturn) (len := 1) (r := (some (.int 0))) rfl rfl rfl ?_
          refine g_n 3 (pc' := 18) (L' := [some (.ref 248), some (.int 0)]) (st' := [.int 0]) rfl ?_
          refine g_ret (ins := .ireturn) (len := 1) (r := (some (.int 0))) rfl rfl rfl ?_
          refine g_n 8 (pc' := 21) (L' := [some (.ref 248), some (.int 1), some (.int 1)]) (st' := [.int 1, .ref 248]) rfl ?_
          refine g_call (ins := .invokevirtual 99) (len := 3) (j := 76) (as := [.ref 248, .int 1]) (rest := []) rfl rfl rfl rfl (fun _ => rfl) rfl ?_
          refine g_in (M := x_M76) (L := [some (.ref 248), some (.int 1)]) x_pl76 rfl ?_
          refine g_n 4 (pc' := 6) (L' := [some (.ref 248), some (.int 1)]) (st' := [.int 4, .int 1, .ref 255]) rfl ?_
          refine g_call (ins := .invokevirtual 95) (len := 3) (j := 263) (as := [.ref 255, .int 1, .int 4]) (rest := []) rfl rfl rfl rfl (fun _ => rfl) rfl ?_
          refine g_in (M := x_M263) (L := [some (.ref 255), some (.int 1), some (.int 4), none]) x_pl263 rfl ?_
          refine g_n 30 (pc' := 55) (L' := [some (.ref 255), some (.int 1), some (.int 4), some (.int 10)]) (st' := [.int 10, .ref 256]) rfl ?_
          refine g_la (i := 10) (a := 256) (n := 18) (v := 0) rfl rfl (by decide) (x_at (x_f256 hF) (k := 10) rfl) ?_
          refine g_n 2 (pc' := 61) (L' := [some (.ref 255), some (.int 1), some (.int 4), some (.int 10)]) (st' := [.int 0]) rfl ?_
          refine g_ret (ins := .ireturn) (len := 1) (r := (some (.int 0))) rfl rfl rfl ?_
          refine g_n 3 (pc' := 18) (L' := [some (.ref 248), some (.int 1)]) (st' := [.int 0]) rfl ?_
          refine g_ret (ins := .ireturn) (len := 1) (r := (some (.int 0))) rfl rfl rfl ?_
          refine g_n 8 (pc' := 21) (L' := [some (.ref 248), some (.int 1), some (.int 2)]) (st' := [.int 2, .ref 248]) rfl ?_
          refine g_call (ins := .invokevirtual 99) (len := 3) (j := 76) (as := [.ref 248, .int 2]) (rest := []) rfl rfl rfl rfl (fun _ => rfl) rfl ?_
          refine g_in (M := x_M76) (L := [some (.ref 248), some (.int 2)]) x_pl76 rfl ?_
          refine g_n 4 (pc' := 6) (L' := [some (.ref 248), some (.int 2)]) (st' := [.int 4, .int 2, .ref 255]) rfl ?_
          refine g_call (ins := .invokevirtual 95) (len := 3) (j := 263) (as := [.ref 255, .int 2, .int 4]) (rest := []) rfl rfl rfl rfl (fun _ => rfl) rfl ?_
          refine g_in (M := x_M263) (L := [some (.ref 255), some (.int 2), some (.int 4), none]) x_pl263 rfl ?_
          refine g_n 30 (pc' := 55) (L' := [some (.ref 255), some (.int 2), some (.int 4), some (.int 16)]) (st' := [.int 16, .ref 256]) rfl ?_
          refine g_la (i := 16) (a := 256) (n := 18) (v := 0) rfl rfl (by decide) (x_at (x_f256 hF) (k := 16) rfl) ?_
          refine g_n 2 (pc' := 61) (L' := [some (.ref 255), some (.int 2), some (.int 4), some (.int 16)]) (st' := [.int 0]) rfl ?_
          refine g_ret (ins := .ireturn) (len := 1) (r := (some (.int 0))) rfl rfl rfl ?_
          refine g_n 3 (pc' := 18) (L' := [some (.ref 248), some (.int 2)]) (st' := [.int 0]) rfl ?_
          refine g_ret (ins := .ireturn) (len := 1) (r := (some (.int 0))) rfl rfl rfl ?_
          refine g_n 6 (pc' := 56) (L' := [some (.ref 248), some (.int 1), some (.int 3)]) (st' := []) rfl ?_
          refine g_ret (ins := .return_) (len := 1) (r := none) rfl rfl rfl ?_
          refine g_n 5 (pc' := 145) (L' := [some (.ref 0), some (.int 1), some (.ref 50), some (.int 12)]) (st' := [.int 0]) rfl ?_
          refine g_ret (ins := .ireturn) (len := 1) (r := (some (.int 0))) rfl rfl rfl ?_
          refine ⟨⟨_, (x_obj_ne (by decide)).trans ((x_obj_ne (by decide)).trans ((x_obj_ne (by decide)).trans ((x_obj_ne (by decide)).trans ((x_obj_ne (by decide)).trans ((x_obj_ne (by decide)).trans ((x_obj_ne (by decide)).trans ((x_obj_ne (by decide)).trans ((x_obj_ne (by decide)).trans ((x_obj_ne (by decide)).trans ((x_obj_ne (by decide)).trans ((x_obj_ne (by decide)).trans ((x_obj_ne (by decide)).trans ((x_obj_ne (by decide)).trans ((x_obj_ne (by decide)).trans ((x_obj_ne (by decide)).trans ((x_obj_ne (by decide)).trans ((x_obj_ne (by decide)).trans ((x_obj_ne (by decide)).trans ((x_obj_ne (by decide)).trans ((x_obj_ne (by decide)).trans ((x_obj_ne (by decide)).trans ((x_obj_ne (by decide)).trans ((x_obj_ne (by decide)).trans ((x_obj_ne (by decide)).trans ((x_obj_ne (by decide)).trans ((x_obj_ne (by decide)).trans ((x_obj_ne (by decide)).trans ((x_obj_ne (by decide)).trans ((x_obj_ne (by decide)).trans ((x_obj_ne (by decide)).trans ((x_obj_ne (by decide)).trans ((x_obj_ne (by decide)).trans ((x_obj_ne (by decide)).trans ((x_obj_ne (by decide)).trans ((x_obj_ne (by decide)).trans ((x_obj_ne (by decide)).trans ((x_obj_ne (by decide)).trans ((x_obj_ne (by decide)).trans ((x_obj_ne (by decide)).trans ((x_obj_ne (by decide)).trans ((x_obj_ne (by decide)).trans ((x_obj_ne (by decide)).trans ((x_obj_ne (by decide)).trans ((x_obj_ne (by decide)).trans ((x_obj_ne (by decide)).trans ((x_obj_ne (by decide)).trans (rfl)))))))))))))))))))))))))))))))))))))))))))))))⟩, ?_⟩
          refine g_in (M := x_M489) (L := [some (.ref 281), some (.int 1), none]) x_pl489 rfl ?_
          refine g_n 2 (pc' := 2) (L' := [some (.ref 281), some (.int 1), none]) (st' := [.int 1, .ref 281]) rfl ?_
          refine g_call (ins := .invokevirtual 1015) (len := 3) (j := 488) (as := [.ref 281, .int 1]) (rest := []) rfl rfl rfl rfl (fun _ => rfl) rfl ?_
          refine g_in (M := x_M488) (L := [some (.ref 281), some (.int 1)]) x_pl488 rfl ?_
          refine g_n 7 (pc' := 14) (L' := [some (.ref 281), some (.int 1)]) (st' := [.int 1]) rfl ?_
          refine g_ret (ins := .ireturn) (len := 1) (r := (some (.int 1))) rfl rfl rfl ?_
          refine g_n 2 (pc' := 11) (L' := [some (.ref 281), some (.int 1), none]) (st' := [.ref 281]) rfl ?_
          refine g_call (ins := .invokevirtual 1018) (len := 3) (j := 423) (as := [.ref 281]) (rest := []) rfl rfl rfl rfl (fun _ => rfl) rfl ?_
          refine g_in (M := x_M423) (L := [some (.ref 281), none]) x_pl423 rfl ?_
          refine g_n 19 (pc' := 51) (L' := [some (.ref 281), some (.int 0)]) (st' := []) rfl ?_
          refine g_ret (ins := .return_) (len := 1) (r := none) rfl rfl rfl ?_
          refine g_n 4 (pc' := 21) (L' := [some (.ref 281), some (.int 1), none]) (st' := [.ref 281]) rfl ?_
          refine g_call (ins := .invokevirtual 1021) (len := 3) (j := 441) (as := [.ref 281]) (rest := []) rfl rfl rfl rfl (fun _ => rfl) rfl ?_
          refine g_in (M := x_M441) (L := [some (.ref 281), none]) x_pl441 rfl ?_
          refine g_n 19 (pc' := 27) (L' := [some (.ref 281), none]) (st' := [.ref 281]) rfl ?_
          refine g_call (ins := .invokevirtual 805) (len := 3) (j := 427) (as := [.ref 281]) (rest := []) rfl rfl rfl rfl (fun _ => rfl) rfl ?_
          refine g_in (M := x_M427) (L := [some (.ref 281), none, none]) x_pl427 rfl ?_
          refine g_n 37 (pc' := 192) (L' := [some (.ref 281), some (.int 0), none]) (st' := [.int 1]) rfl ?_
          refine g_ret (ins := .ireturn) (len := 1) (r := (some (.int 1))) rfl rfl rfl ?_
          refine g_n 5 (pc' := 105) (L' := [some (.ref 281), none]) (st' := [.int 1]) rfl ?_
          refine g_ret (ins := .ireturn) (len := 1) (r := (some (.int 1))) rfl rfl rfl ?_
          refine g_n 2 (pc' := 28) (L' := [some (.ref 281), some (.int 1), none]) (st' := [.ref 281]) rfl ?_
          refine g_call (ins := .invokevirtual 1024) (len := 3) (j := 478) (as := [.ref 281]) (rest := []) rfl rfl rfl rfl (fun _ => rfl) rfl ?_
          refine g_in (M := x_M478) (L := [some (.ref 281), none]) x_pl478 rfl ?_
          refine g_n 4 (pc' := 6) (L' := [some (.ref 281), none]) (st' := [.ref 281]) rfl ?_
          refine g_call (ins := .invokevirtual 976) (len := 3) (j := 464) (as := [.ref 281]) (rest := []) rfl rfl rfl rfl (fun _ => rfl) rfl ?_
          refine g_in (M := x_M464) (L := [some (.ref 281), none, none]) x_pl464 rfl ?_
          refine g_n 20 (pc' := 270) (L' := [some (.ref 281), some (.int 16), none]) (st' := []) rfl ?_
          refine g_ret (ins := .return_) (len := 1) (r := none) rfl rfl rfl ?_
          refine g_n 28 (pc' := 112) (L' := [some (.ref 281), some (.int 16)]) (st' := [.int 1]) rfl ?_
          refine g_ret (ins := .ireturn) (len := 1) (r := (some (.int 1))) rfl rfl rfl ?_
          refine g_n 13 (pc' := 88) (L' := [some (.ref 281), some (.int 1), some (.int 120)]) (st' := [.int 1, .ref 281]) rfl ?_
          refine g_call (ins := .invokevirtual 1030) (len := 3) (j := 485) (as := [.ref 281, .int 1]) (rest := []) rfl rfl rfl rfl (fun _ => rfl) rfl ?_
          refine g_in (M := x_M485) (L := [some (.ref 281), some (.int 1), none, none, none, none]) x_pl485 rfl ?_
          refine g_n 40 (pc' := 86) (L' := [some (.ref 281), some (.int 1), some (.int 0), none, none, none]) (st' := [.int 0]) rfl ?_
          refine g_n 13 (pc' := 529) (L' := [some (.ref 281), some (.int 1), some (.int 0), none, none, none]) (st' := []) rfl ?_
          refine g_ret (ins := .return_) (len := 1) (r := none) rfl rfl rfl ?_
          refine g_n 2 (pc' := 93) (L' := [some (.ref 281), some (.int 1), some (.int 120)]) (st' := [.int 1, .ref 281]) rfl ?_
          refine g_call (ins := .invokevirtual 1033) (len := 3) (j := 712) (as := [.ref 281, .int 1]) (rest := []) rfl rfl rfl rfl (fun _ => rfl) rfl ?_
          refine g_in (M := x_M712) (L := [some (.ref 281), some (.int 1), none]) x_pl712 rfl ?_
          refine g_n 40 (pc' := 34) (L' := [some (.ref 281), some (.int 1), some (.int 3)]) (st' := []) rfl ?_
          refine g_n 40 (pc' := 34) (L' := [some (.ref 281), some (.int 1), some (.int 7)]) (st' := []) rfl ?_
          refine g_n 40 (pc' := 34) (L' := [some (.ref 281), some (.int 1), some (.int 11)]) (st' := []) rfl ?_
          refine g_n 40 (pc' := 86) (L' := [some (.ref 281), some (.int 1), some (.int 3)]) (st' := []) rfl ?_
          refine g_n 3 (pc' := 130) (L' := [some (.ref 281), some (.int 1), some (.int 3)]) (st' := []) rfl ?_
          refine g_ret (ins := .return_) (len := 1) (r := none) rfl rfl rfl ?_
          refine g_n 4 (pc' := 102) (L' := [some (.ref 281), some (.int 1), some (.int 120)]) (st' := [.int 0]) rfl ?_
          exact g_ret (ins := .ireturn) (len := 1) (r := (some (.int 0))) rfl rfl rfl ⟨_, rfl, rfl, (x_sv_set (x_sv_set (x_sv_set (x_sv_set (x_sv_set (x_sv_set (x_sv_set (x_sv_set (x_sv_set (x_sv_set (x_sv_set (x_sv_set (x_sv_set (x_sv_set (x_sv_set (x_sv_set (x_sv_set (x_sv_set (x_sv_set (x_sv_set (x_sv_set (x_sv_set (x_sv_set (x_sv_set (x_sv_set (x_sv_set (x_sv_set (x_sv_set (x_sv_set (x_sv_set (x_sv_set (x_sv_set (x_sv_set (x_sv_set (x_sv_set (x_sv_set (x_sv_set (x_sv_set (x_sv_set (x_sv_set (x_sv_set (x_sv_set (x_sv_set (x_sv_set (x_sv_set (x_sv_set (x_sv_set (x_sv_set (x_sv_set (x_sv_set (x_sv_set (x_sv_set (x_sv_set (x_sv_set (x_sv_set (x_sv_set (x_sv_set (x_sv_set (x_sv_set (x_sv_set (x_sv_set (x_sv_set (x_sv_set (x_sv_set (x_sv_rf _) rfl rfl) rfl rfl) rfl rfl) rfl rfl) rfl rfl) rfl rfl) rfl rfl) rfl rfl) rfl rfl) rfl rfl) rfl rfl) rfl rfl) rfl rfl) rfl rfl) rfl rfl) rfl rfl) rfl rfl) rfl rfl) rfl rfl) rfl rfl) rfl rfl) rfl rfl) rfl rfl) rfl rfl) rfl rfl) rfl rfl) rfl rfl) rfl rfl) rfl rfl) rfl rfl) rfl rfl) rfl rfl) rfl rfl) rfl rfl) rfl rfl) rfl rfl) rfl rfl) rfl rfl) rfl rfl) rfl rfl) rfl rfl) rfl rfl) rfl rfl) rfl rfl) rfl rfl) rfl rfl) rfl rfl) rfl rfl) rfl rfl) rfl rfl) rfl rfl) rfl rfl) rfl rfl) rfl rfl) rfl rfl) rfl rfl) rfl rfl) rfl rfl) rfl rfl) rfl rfl) rfl rfl) rfl rfl) rfl rfl) rfl rfl)⟩
        · have q20 : ¬ a = 1 := h18
          have p21 : 2 ≤ a.toInt := x_lo_ne q20 p17 (by decide)
          by_cases h22 : a = 2
          · have e23 : a = 2 := h22
            subst e23
            refine g_aa (i := 2) (a := 2) (n := 4) (v := 73) rfl rfl (by decide) (x_at (x_f2 hF) (k := 2) rfl) ?_
            refine g_n 18 (pc' := 104) (L' := [some (.ref 0), some (.int 2), some (.ref 73), some (.int 0)]) (st' := [.int 0, .ref 3]) rfl ?_
            refine g_aa (i := 0) (a := 3) (n := 12) (v := 119) rfl rfl (by decide) (x_at (x_f3 hF) (k := 0) rfl) ?_
            refine g_n 11 (pc' := 104) (L' := [some (.ref 0), some (.int 2), some (.ref 73), some (.int 1)]) (st' := [.int 1, .ref 3]) rfl ?_
            refine g_aa (i := 1) (a := 3) (n := 12) (v := 124) rfl rfl (by decide) (x_at (x_f3 hF) (k := 1) rfl) ?_
            refine g_n 11 (pc' := 104) (L' := [some (.ref 0), some (.int 2), some (.ref 73), some (.int 2)]) (st' := [.int 2, .ref 3]) rfl ?_
            refine g_aa (i := 2) (a := 3) (n := 12) (v := 129) rfl rfl (by decide) (x_at (x_f3 hF) (k := 2) rfl) ?_
            refine g_n 11 (pc' := 104) (L' := [some (.ref 0), some (.int 2), some (.ref 73), some (.int 3)]) (st' := [.int 3, .ref 3]) rfl ?_
            refine g_aa (i := 3) (a := 3) (n := 12) (v := 134) rfl rfl (by decide) (x_at (x_f3 hF) (k := 3) rfl) ?_
            refine g_n 11 (pc' := 104) (L' := [some (.ref 0), some (.int 2), some (.ref 73), some (.int 4)]) (st' := [.int 4, .ref 3]) rfl ?_
            refine g_aa (i := 4) (a := 3) (n := 12) (v := 139) rfl rfl (by decide) (x_at (x_f3 hF) (k := 4) rfl) ?_
            refine g_n 11 (pc' := 104) (L' := [some (.ref 0), some (.int 2), some (.ref 73), some (.int 5)]) (st' := [.int 5, .ref 3]) rfl ?_
            refine g_aa (i := 5) (a := 3) (n := 12) (v := 144) rfl rfl (by decide) (x_at (x_f3 hF) (k := 5) rfl) ?_
            refine g_n 11 (pc' := 104) (L' := [some (.ref 0), some (.int 2), some (.ref 73), some (.int 6)]) (st' := [.int 6, .ref 3]) rfl ?_
            refine g_aa (i := 6) (a := 3) (n := 12) (v := 149) rfl rfl (by decide) (x_at (x_f3 hF) (k := 6) rfl) ?_
            refine g_n 11 (pc' := 104) (L' := [some (.ref 0), some (.int 2), some (.ref 73), some (.int 7)]) (st' := [.int 7, .ref 3]) rfl ?_
            refine g_aa (i := 7) (a := 3) (n := 12) (v := 154) rfl rfl (by decide) (x_at (x_f3 hF) (k := 7) rfl) ?_
            refine g_n 11 (pc' := 104) (L' := [some (.ref 0), some (.int 2), some (.ref 73), some (.int 8)]) (st' := [.int 8, .ref 3]) rfl ?_
            refine g_aa (i := 8) (a := 3) (n := 12) (v := 159) rfl rfl (by decide) (x_at (x_f3 hF) (k := 8) rfl) ?_
            refine g_n 11 (pc' := 104) (L' := [some (.ref 0), some (.int 2), some (.ref 73), some (.int 9)]) (st' := [.int 9, .ref 3]) rfl ?_
            refine g_aa (i := 9) (a := 3) (n := 12) (v := 164) rfl rfl (by decide) (x_at (x_f3 hF) (k := 9) rfl) ?_
            refine g_n 11 (pc' := 104) (L' := [some (.ref 0), some (.int 2), some (.ref 73), some (.int 10)]) (st' := [.int 10, .ref 3]) rfl ?_
            refine g_aa (i := 10) (a := 3) (n := 12) (v := 169) rfl rfl (by decide) (x_at (x_f3 hF) (k := 10) rfl) ?_
            refine g_n 11 (pc' := 104) (L' := [some (.ref 0), some (.int 2), some (.ref 73), some (.int 11)]) (st' := [.int 11, .ref 3]) rfl ?_
            refine g_aa (i := 11) (a := 3) (n := 12) (v := 174) rfl rfl (by decide) (x_at (x_f3 hF) (k := 11) rfl) ?_
            refine g_n 11 (pc' := 133) (L' := [some (.ref 0), some (.int 2), some (.ref 73), some (.int 12)]) (st' := [.int 2, .ref 248]) rfl ?_
            refine g_call (ins := .invokevirtual 196) (len := 3) (j := 75) (as := [.ref 248, .int 2]) (rest := []) rfl rfl rfl rfl (fun _ => rfl) rfl ?_
            refine g_in (M := x_M75) (L := [some (.ref 248), some (.int 2), none]) x_pl75 rfl ?_
            refine g_n 11 (pc' := 21) (L' := [some (.ref 248), some (.int 2), some (.int 0)]) (st' := [.int 0, .ref 248]) rfl ?_
            refine g_call (ins := .invokevirtual 99) (len := 3) (j := 76) (as := [.ref 248, .int 0]) (rest := []) rfl rfl rfl rfl (fun _ => rfl) rfl ?_
            refine g_in (M := x_M76) (L := [some (.ref 248), some (.int 0)]) x_pl76 rfl ?_
            refine g_n 4 (pc' := 6) (L' := [some (.ref 248), some (.int 0)]) (st' := [.int 4, .int 0, .ref 255]) rfl ?_
            refine g_call (ins := .invokevirtual 95) (len := 3) (j := 263) (as := [.ref 255, .int 0, .int 4]) (rest := []) rfl rfl rfl rfl (fun _ => rfl) rfl ?_
            refine g_in (M := x_M263) (L := [some (.ref 255), some (.int 0), some (.int 4), none]) x_pl263 rfl ?_
            refine g_n 30 (pc' := 55) (L' := [some (.ref 255), some (.int 0), some (.int 4), some (.int 4)]) (st' := [.int 4, .ref 256]) rfl ?_
            refine g_la (i := 4) (a := 256) (n := 18) (v := 0) rfl rfl (by decide) (x_at (x_f256 hF) (k := 4) rfl) ?_
            refine g_n 2 (pc' := 61) (L' := [some (.ref 255), some (.int 0), some (.int 4), some (.int 4)]) (st' := [.int 0]) rfl ?_
            refine g_ret (ins := .ireturn) (len := 1) (r := (some (.int 0))) rfl rfl rfl ?_
            refine g_n 3 (pc' := 18) (L' := [some (.ref 248), some (.int 0)]) (st' := [.int 0]) rfl ?_
            refine g_ret (ins := .ireturn) (len := 1) (r := (some (.int 0))) rfl rfl rfl ?_
            refine g_n 8 (pc' := 21) (L' := [some (.ref 248), some (.int 2), some (.int 1)]) (st' := [.int 1, .ref 248]) rfl ?_
            refine g_call (ins := .invokevirtual 99) (len := 3) (j := 76) (as := [.ref 248, .int 1]) (rest := []) rfl rfl rfl rfl (fun _ => rfl) rfl ?_
            refine g_in (M := x_M76) (L := [some (.ref 248), some (.int 1)]) x_pl76 rfl ?_
            refine g_n 4 (pc' := 6) (L' := [some (.ref 248), some (.int 1)]) (st' := [.int 4, .int 1, .ref 255]) rfl ?_
            refine g_call (ins := .invokevirtual 95) (len := 3) (j := 263) (as := [.ref 255, .int 1, .int 4]) (rest := []) rfl rfl rfl rfl (fun _ => rfl) rfl ?_
            refine g_in (M := x_M263) (L := [some (.ref 255), some (.int 1), some (.int 4), none]) x_pl263 rfl ?_
            refine g_n 30 (pc' := 55) (L' := [some (.ref 255), some (.int 1), some (.int 4), some (.int 10)]) (st' := [.int 10, .ref 256]) rfl ?_
            refine g_la (i := 10) (a := 256) (n := 18) (v := 0) rfl rfl (by decide) (x_at (x_f256 hF) (k := 10) rfl) ?_
            refine g_n 2 (pc' := 61) (L' := [some (.ref 255), some (.int 1), some (.int 4), some (.int 10)]) (st' := [.int 0]) rfl ?_
            refine g_ret (ins := .ireturn) (len := 1) (r := (some (.int 0))) rfl rfl rfl ?_
            refine g_n 3 (pc' := 18) (L' := [some (.ref 248), some (.int 1)]) (st' := [.int 0]) rfl ?_
            refine g_ret (ins := .ireturn) (len := 1) (r := (some (.int 0))) rfl rfl rfl ?_
            refine g_n 8 (pc' := 21) (L' := [some (.ref 248), some (.int 2), some (.int 2)]) (st' := [.int 2, .ref 248]) rfl ?_
            refine g_call (ins := .invokevirtual 99) (len := 3) (j := 76) (as := [.ref 248, .int 2]) (rest := []) rfl rfl rfl rfl (fun _ => rfl) rfl ?_
            refine g_in (M := x_M76) (L := [some (.ref 248), some (.int 2)]) x_pl76 rfl ?_
            refine g_n 4 (pc' := 6) (L' := [some (.ref 248), some (.int 2)]) (st' := [.int 4, .int 2, .ref 255]) rfl ?_
            refine g_call (ins := .invokevirtual 95) (len := 3) (j := 263) (as := [.ref 255, .int 2, .int 4]) (rest := []) rfl rfl rfl rfl (fun _ => rfl) rfl ?_
            refine g_in (M := x_M263) (L := [some (.ref 255), some (.int 2), some (.int 4), none]) x_pl263 rfl ?_
            refine g_n 30 (pc' := 55) (L' := [some (.ref 255), some (.int 2), some (.int 4), some (.int 16)]) (st' := [.int 16, .ref 256]) rfl ?_
            refine g_la (i := 16) (a := 256) (n := 18) (v := 0) rfl rfl (by decide) (x_at (x_f256 hF) (k := 16) rfl) ?_
            refine g_n 2 (pc' := 61) (L' := [some (.ref 255), some (.int 2), some (.int 4), some (.int 16)]) (st' := [.int 0]) rfl ?_
            refine g_ret (ins := .ireturn) (len := 1) (r := (some (.int 0))) rfl rfl rfl ?_
            refine g_n 3 (pc' := 18) (L' := [some (.ref 248), some (.int 2)]) (st' := [.int 0]) rfl ?_
            refine g_ret (ins := .ireturn) (len := 1) (r := (some (.int 0))) rfl rfl rfl ?_
            refine g_n 6 (pc' := 56) (L' := [some (.ref 248), some (.int 2), some (.int 3)]) (st' := []) rfl ?_
            refine g_ret (ins := .return_) (len := 1) (r := none) rfl rfl rfl ?_
            refine g_n 5 (pc' := 145) (L' := [some (.ref 0), some (.int 2), some (.ref 73), some (.int 12)]) (st' := [.int 0]) rfl ?_
            refine g_ret (ins := .ireturn) (len := 1) (r := (some (.int 0))) rfl rfl rfl ?_
            refine ⟨⟨_, (x_obj_ne (by decide)).trans ((x_obj_ne (by decide)).trans ((x_obj_ne (by decide)).trans ((x_obj_ne (by decide)).trans ((x_obj_ne (by decide)).trans ((x_obj_ne (by decide)).trans ((x_obj_ne (by decide)).trans ((x_obj_ne (by decide)).trans ((x_obj_ne (by decide)).trans ((x_obj_ne (by decide)).trans ((x_obj_ne (by decide)).trans ((x_obj_ne (by decide)).trans ((x_obj_ne (by decide)).trans ((x_obj_ne (by decide)).trans ((x_obj_ne (by decide)).trans ((x_obj_ne (by decide)).trans ((x_obj_ne (by decide)).trans ((x_obj_ne (by decide)).trans ((x_obj_ne (by decide)).trans ((x_obj_ne (by decide)).trans ((x_obj_ne (by decide)).trans ((x_obj_ne (by decide)).trans ((x_obj_ne (by decide)).trans ((x_obj_ne (by decide)).trans ((x_obj_ne (by decide)).trans ((x_obj_ne (by decide)).trans ((x_obj_ne (by decide)).trans ((x_obj_ne (by decide)).trans ((x_obj_ne (by decide)).trans ((x_obj_ne (by decide)).trans ((x_obj_ne (by decide)).trans ((x_obj_ne (by decide)).trans ((x_obj_ne (by decide)).trans ((x_obj_ne (by decide)).trans ((x_obj_ne (by decide)).trans ((x_obj_ne (by decide)).trans ((x_obj_ne (by decide)).trans ((x_obj_ne (by decide)).trans ((x_obj_ne (by decide)).trans ((x_obj_ne (by decide)).trans ((x_obj_ne (by decide)).trans ((x_obj_ne (by decide)).trans ((x_obj_ne (by decide)).trans ((x_obj_ne (by decide)).trans ((x_obj_ne (by decide)).trans ((x_obj_ne (by decide)).trans ((x_obj_ne (by decide)).trans (rfl)))))))))))))))))))))))))))))))))))))))))))))))⟩, ?_⟩
            refine g_in (M := x_M489) (L := [some (.ref 281), some (.int 2), none]) x_pl489 rfl ?_
            refine g_n 2 (pc' := 2) (L' := [some (.ref 281), some (.int 2), none]) (st' := [.int 2, .ref 281]) rfl ?_
            refine g_call (ins := .invokevirtual 1015) (len := 3) (j := 488) (as := [.ref 281, .int 2]) (rest := []) rfl rfl rfl rfl (fun _ => rfl) rfl ?_
            refine g_in (M := x_M488) (L := [some (.ref 281), some (.int 2)]) x_pl488 rfl ?_
            refine g_n 7 (pc' := 14) (L' := [some (.ref 281), some (.int 2)]) (st' := [.int 1]) rfl ?_
            refine g_ret (ins := .ireturn) (len := 1) (r := (some (.int 1))) rfl rfl rfl ?_
            refine g_n 2 (pc' := 11) (L' := [some (.ref 281), some (.int 2), none]) (st' := [.ref 281]) rfl ?_
            refine g_call (ins := .invokevirtual 1018) (len := 3) (j := 423) (as := [.ref 281]) (rest := []) rfl rfl rfl rfl (fun _ => rfl) rfl ?_
            refine g_in (M := x_M423) (L := [some (.ref 281), none]) x_pl423 rfl ?_
            refine g_n 19 (pc' := 51) (L' := [some (.ref 281), some (.int 0)]) (st' := []) rfl ?_
            refine g_ret (ins := .return_) (len := 1) (r := none) rfl rfl rfl ?_
            refine g_n 4 (pc' := 21) (L' := [some (.ref 281), some (.int 2), none]) (st' := [.ref 281]) rfl ?_
            refine g_call (ins := .invokevirtual 1021) (len := 3) (j := 441) (as := [.ref 281]) (rest := []) rfl rfl rfl rfl (fun _ => rfl) rfl ?_
            refine g_in (M := x_M441) (L := [some (.ref 281), none]) x_pl441 rfl ?_
            refine g_n 19 (pc' := 27) (L' := [some (.ref 281), none]) (st' := [.ref 281]) rfl ?_
            refine g_call (ins := .invokevirtual 805) (len := 3) (j := 427) (as := [.ref 281]) (rest := []) rfl rfl rfl rfl (fun _ => rfl) rfl ?_
            refine g_in (M := x_M427) (L := [some (.ref 281), none, none]) x_pl427 rfl ?_
            refine g_n 37 (pc' := 192) (L' := [some (.ref 281), some (.int 0), none]) (st' := [.int 1]) rfl ?_
            refine g_ret (ins := .ireturn) (len := 1) (r := (some (.int 1))) rfl rfl rfl ?_
            refine g_n 5 (pc' := 105) (L' := [some (.ref 281), none]) (st' := [.int 1]) rfl ?_
            refine g_ret (ins := .ireturn) (len := 1) (r := (some (.int 1))) rfl rfl rfl ?_
            refine g_n 2 (pc' := 28) (L' := [some (.ref 281), some (.int 2), none]) (st' := [.ref 281]) rfl ?_
            refine g_call (ins := .invokevirtual 1024) (len := 3) (j := 478) (as := [.ref 281]) (rest := []) rfl rfl rfl rfl (fun _ => rfl) rfl ?_
            refine g_in (M := x_M478) (L := [some (.ref 281), none]) x_pl478 rfl ?_
            refine g_n 4 (pc' := 6) (L' := [some (.ref 281), none]) (st' := [.ref 281]) rfl ?_
            refine g_call (ins := .invokevirtual 976) (len := 3) (j := 464) (as := [.ref 281]) (rest := []) rfl rfl rfl rfl (fun _ => rfl) rfl ?_
            refine g_in (M := x_M464) (L := [some (.ref 281), none, none]) x_pl464 rfl ?_
            refine g_n 20 (pc' := 270) (L' := [some (.ref 281), some (.int 16), none]) (st' := []) rfl ?_
            refine g_ret (ins := .return_) (len := 1) (r := none) rfl rfl rfl ?_
            refine g_n 28 (pc' := 112) (L' := [some (.ref 281), some (.int 16)]) (st' := [.int 1]) rfl ?_
            refine g_ret (ins := .ireturn) (len := 1) (r := (some (.int 1))) rfl rfl rfl ?_
            refine g_n 13 (pc' := 88) (L' := [some (.ref 281), some (.int 2), some (.int 120)]) (st' := [.int 2, .ref 281]) rfl ?_
            refine g_call (ins := .invokevirtual 1030) (len := 3) (j := 485) (as := [.ref 281, .int 2]) (rest := []) rfl rfl rfl rfl (fun _ => rfl) rfl ?_
            refine g_in (M := x_M485) (L := [some (.ref 281), some (.int 2), none, none, none, none]) x_pl485 rfl ?_
            refine g_n 40 (pc' := 86) (L' := [some (.ref 281), some (.int 2), some (.int 0), none, none, none]) (st' := [.int 0]) rfl ?_
            refine g_n 13 (pc' := 529) (L' := [some (.ref 281), some (.int 2), some (.int 0), none, none, none]) (st' := []) rfl ?_
            refine g_ret (ins := .return_) (len := 1) (r := none) rfl rfl rfl ?_
            refine g_n 2 (pc' := 93) (L' := [some (.ref 281), some (.int 2), some (.int 120)]) (st' := [.int 2, .ref 281]) rfl ?_
            refine g_call (ins := .invokevirtual 1033) (len := 3) (j := 712) (as := [.ref 281, .int 2]) (rest := []) rfl rfl rfl rfl (fun _ => rfl) rfl ?_
            refine g_in (M := x_M712) (L := [some (.ref 281), some (.int 2), none]) x_pl712 rfl ?_
            refine g_n 40 (pc' := 34) (L' := [some (.ref 281), some (.int 2), some (.int 3)]) (st' := []) rfl ?_
            refine g_n 40 (pc' := 34) (L' := [some (.ref 281), some (.int 2), some (.int 7)]) (st' := []) rfl ?_
            refine g_n 40 (pc' := 34) (L' := [some (.ref 281), some (.int 2), some (.int 11)]) (st' := []) rfl ?_
            refine g_n 40 (pc' := 86) (L' := [some (.ref 281), some (.int 2), some (.int 3)]) (st' := []) rfl ?_
            refine g_n 3 (pc' := 130) (L' := [some (.ref 281), some (.int 2), some (.int 3)]) (st' := []) rfl ?_
            refine g_ret (ins := .return_) (len := 1) (r := none) rfl rfl rfl ?_
            refine g_n 4 (pc' := 102) (L' := [some (.ref 281), some (.int 2), some (.int 120)]) (st' := [.int 0]) rfl ?_
            exact g_ret (ins := .ireturn) (len := 1) (r := (some (.int 0))) rfl rfl rfl ⟨_, rfl, rfl, (x_sv_set (x_sv_set (x_sv_set (x_sv_set (x_sv_set (x_sv_set (x_sv_set (x_sv_set (x_sv_set (x_sv_set (x_sv_set (x_sv_set (x_sv_set (x_sv_set (x_sv_set (x_sv_set (x_sv_set (x_sv_set (x_sv_set (x_sv_set (x_sv_set (x_sv_set (x_sv_set (x_sv_set (x_sv_set (x_sv_set (x_sv_set (x_sv_set (x_sv_set (x_sv_set (x_sv_set (x_sv_set (x_sv_set (x_sv_set (x_sv_set (x_sv_set (x_sv_set (x_sv_set (x_sv_set (x_sv_set (x_sv_set (x_sv_set (x_sv_set (x_sv_set (x_sv_set (x_sv_set (x_sv_set (x_sv_set (x_sv_set (x_sv_set (x_sv_set (x_sv_set (x_sv_set (x_sv_set (x_sv_set (x_sv_set (x_sv_set (x_sv_set (x_sv_set (x_sv_set (x_sv_set (x_sv_set (x_sv_set (x_sv_set (x_sv_rf _) rfl rfl) rfl rfl) rfl rfl) rfl rfl) rfl rfl) rfl rfl) rfl rfl) rfl rfl) rfl rfl) rfl rfl) rfl rfl) rfl rfl) rfl rfl) rfl rfl) rfl rfl) rfl rfl) rfl rfl) rfl rfl) rfl rfl) rfl rfl) rfl rfl) rfl rfl) rfl rfl) rfl rfl) rfl rfl) rfl rfl) rfl rfl) rfl rfl) rfl rfl) rfl rfl) rfl rfl) rfl rfl) rfl rfl) rfl rfl) rfl rfl) rfl rfl) rfl rfl) rfl rfl) rfl rfl) rfl rfl) rfl rfl) rfl rfl) rfl rfl) rfl rfl) rfl rfl) rfl rfl) rfl rfl) rfl rfl) rfl rfl) rfl rfl) rfl rfl) rfl rfl) rfl rfl) rfl rfl) rfl rfl) rfl rfl) rfl rfl) rfl rfl) rfl rfl) rfl rfl) rfl rfl) rfl rfl) rfl rfl) rfl rfl)⟩
          · have q24 : ¬ a = 2 := h22
            have p25 : 3 ≤ a.toInt := x_lo_ne q24 p21 (by decide)
            have e26 : a = 3 := x_sing p25 p6 (by decide)
            subst e26
            refine g_aa (i := 3) (a := 2) (n := 4) (v := 96) rfl rfl (by decide) (x_at (x_f2 hF) (k := 3) rfl) ?_
            refine g_n 18 (pc' := 104) (L' := [some (.ref 0), some (.int 3), some (.ref 96), some (.int 0)]) (st' := [.int 0, .ref 3]) rfl ?_
            refine g_aa (i := 0) (a := 3) (n := 12) (v := 119) rfl rfl (by decide) (x_at (x_f3 hF) (k := 0) rfl) ?_
            refine g_n 11 (pc' := 104) (L' := [some (.ref 0), some (.int 3), some (.ref 96), some (.int 1)]) (st' := [.int 1, .ref 3]) rfl ?_
            refine g_aa (i := 1) (a := 3) (n := 12) (v := 124) rfl rfl (by decide) (x_at (x_f3 hF) (k := 1) rfl) ?_
            refine g_n 11 (pc' := 104) (L' := [some (.ref 0), some (.int 3), some (.ref 96), some (.int 2)]) (st' := [.int 2, .ref 3]) rfl ?_
            refine g_aa (i := 2) (a := 3) (n := 12) (v := 129) rfl rfl (by decide) (x_at (x_f3 hF) (k := 2) rfl) ?_
            refine g_n 11 (pc' := 104) (L' := [some (.ref 0), some (.int 3), some (.ref 96), some (.int 3)]) (st' := [.int 3, .ref 3]) rfl ?_
            refine g_aa (i := 3) (a := 3) (n := 12) (v := 134) rfl rfl (by decide) (x_at (x_f3 hF) (k := 3) rfl) ?_
            refine g_n 11 (pc' := 104) (L' := [some (.ref 0), some (.int 3), some (.ref 96), some (.int 4)]) (st' := [.int 4, .ref 3]) rfl ?_
            refine g_aa (i := 4) (a := 3) (n := 12) (v := 139) rfl rfl (by decide) (x_at (x_f3 hF) (k := 4) rfl) ?_
            refine g_n 11 (pc' := 104) (L' := [some (.ref 0), some (.int 3), some (.ref 96), some (.int 5)]) (st' := [.int 5, .ref 3]) rfl ?_
            refine g_aa (i := 5) (a := 3) (n := 12) (v := 144) rfl rfl (by decide) (x_at (x_f3 hF) (k := 5) rfl) ?_
            refine g_n 11 (pc' := 104) (L' := [some (.ref 0), some (.int 3), some (.ref 96), some (.int 6)]) (st' := [.int 6, .ref 3]) rfl ?_
            refine g_aa (i := 6) (a := 3) (n := 12) (v := 149) rfl rfl (by decide) (x_at (x_f3 hF) (k := 6) rfl) ?_
            refine g_n 11 (pc' := 104) (L' := [some (.ref 0), some (.int 3), some (.ref 96), some (.int 7)]) (st' := [.int 7, .ref 3]) rfl ?_
            refine g_aa (i := 7) (a := 3) (n := 12) (v := 154) rfl rfl (by decide) (x_at (x_f3 hF) (k := 7) rfl) ?_
            refine g_n 11 (pc' := 104) (L' := [some (.ref 0), some (.int 3), some (.ref 96), some (.int 8)]) (st' := [.int 8, .ref 3]) rfl ?_
            refine g_aa (i := 8) (a := 3) (n := 12) (v := 159) rfl rfl (by decide) (x_at (x_f3 hF) (k := 8) rfl) ?_
            refine g_n 11 (pc' := 104) (L' := [some (.ref 0), some (.int 3), some (.ref 96), some (.int 9)]) (st' := [.int 9, .ref 3]) rfl ?_
            refine g_aa (i := 9) (a := 3) (n := 12) (v := 164) rfl rfl (by decide) (x_at (x_f3 hF) (k := 9) rfl) ?_
            refine g_n 11 (pc' := 104) (L' := [some (.ref 0), some (.int 3), some (.ref 96), some (.int 10)]) (st' := [.int 10, .ref 3]) rfl ?_
            refine g_aa (i := 10) (a := 3) (n := 12) (v := 169) rfl rfl (by decide) (x_at (x_f3 hF) (k := 10) rfl) ?_
            refine g_n 11 (pc' := 104) (L' := [some (.ref 0), some (.int 3), some (.ref 96), some (.int 11)]) (st' := [.int 11, .ref 3]) rfl ?_
            refine g_aa (i := 11) (a := 3) (n := 12) (v := 174) rfl rfl (by decide) (x_at (x_f3 hF) (k := 11) rfl) ?_
            refine g_n 11 (pc' := 133) (L' := [some (.ref 0), some (.int 3), some (.ref 96), some (.int 12)]) (st' := [.int 3, .ref 248]) rfl ?_
            refine g_call (ins := .invokevirtual 196) (len := 3) (j := 75) (as := [.ref 248, .int 3]) (rest := []) rfl rfl rfl rfl (fun _ => rfl) rfl ?_
            refine g_in (M := x_M75) (L := [some (.ref 248), some (.int 3), none]) x_pl75 rfl ?_
            refine g_n 11 (pc' := 21) (L' := [some (.ref 248), some (.int 3), some (.int 0)]) (st' := [.int 0, .ref 248]) rfl ?_
            refine g_call (ins := .invokevirtual 99) (len := 3) (j := 76) (as := [.ref 248, .int 0]) (rest := []) rfl rfl rfl rfl (fun _ => rfl) rfl ?_
            refine g_in (M := x_M76) (L := [some (.ref 248), some (.int 0)]) x_pl76 rfl ?_
            refine g_n 4 (pc' := 6) (L' := [some (.ref 248), some (.int 0)]) (st' := [.int 4, .int 0, .ref 255]) rfl ?_
            refine g_call (ins := .invokevirtual 95) (len := 3) (j := 263) (as := [.ref 255, .int 0, .int 4]) (rest := []) rfl rfl rfl rfl (fun _ => rfl) rfl ?_
            refine g_in (M := x_M263) (L := [some (.ref 255), some (.int 0), some (.int 4), none]) x_pl263 rfl ?_
            refine g_n 30 (pc' := 55) (L' := [some (.ref 255), some (.int 0), some (.int 4), some (.int 4)]) (st' := [.int 4, .ref 256]) rfl ?_
            refine g_la (i := 4) (a := 256) (n := 18) (v := 0) rfl rfl (by decide) (x_at (x_f256 hF) (k := 4) rfl) ?_
            refine g_n 2 (pc' := 61) (L' := [some (.ref 255), some (.int 0), some (.int 4), some (.int 4)]) (st' := [.int 0]) rfl ?_
            refine g_ret (ins := .ireturn) (len := 1) (r := (some (.int 0))) rfl rfl rfl ?_
            refine g_n 3 (pc' := 18) (L' := [some (.ref 248), some (.int 0)]) (st' := [.int 0]) rfl ?_
            refine g_ret (ins := .ireturn) (len := 1) (r := (some (.int 0))) rfl rfl rfl ?_
            refine g_n 8 (pc' := 21) (L' := [some (.ref 248), some (.int 3), some (.int 1)]) (st' := [.int 1, .ref 248]) rfl ?_
            refine g_call (ins := .invokevirtual 99) (len := 3) (j := 76) (as := [.ref 248, .int 1]) (rest := []) rfl rfl rfl rfl (fun _ => rfl) rfl ?_
            refine g_in (M := x_M76) (L := [some (.ref 248), some (.int 1)]) x_pl76 rfl ?_
            refine g_n 4 (pc' := 6) (L' := [some (.ref 248), some (.int 1)]) (st' := [.int 4, .int 1, .ref 255]) rfl ?_
            refine g_call (ins := .invokevirtual 95) (len := 3) (j := 263) (as := [.ref 255, .int 1, .int 4]) (rest := []) rfl rfl rfl rfl (fun _ => rfl) rfl ?_
            refine g_in (M := x_M263) (L := [some (.ref 255), some (.int 1), some (.int 4), none]) x_pl263 rfl ?_
            refine g_n 30 (pc' := 55) (L' := [some (.ref 255), some (.int 1), some (.int 4), some (.int 10)]) (st' := [.int 10, .ref 256]) rfl ?_
            refine g_la (i := 10) (a := 256) (n := 18) (v := 0) rfl rfl (by decide) (x_at (x_f256 hF) (k := 10) rfl) ?_
            refine g_n 2 (pc' := 61) (L' := [some (.ref 255), some (.int 1), some (.int 4), some (.int 10)]) (st' := [.int 0]) rfl ?_
            refine g_ret (ins := .ireturn) (len := 1) (r := (some (.int 0))) rfl rfl rfl ?_
            refine g_n 3 (pc' := 18) (L' := [some (.ref 248), some (.int 1)]) (st' := [.int 0]) rfl ?_
            refine g_ret (ins := .ireturn) (len := 1) (r := (some (.int 0))) rfl rfl rfl ?_
            refine g_n 8 (pc' := 21) (L' := [some (.ref 248), some (.int 3), some (.int 2)]) (st' := [.int 2, .ref 248]) rfl ?_
            refine g_call (ins := .invokevirtual 99) (len := 3) (j := 76) (as := [.ref 248, .int 2]) (rest := []) rfl rfl rfl rfl (fun _ => rfl) rfl ?_
            refine g_in (M := x_M76) (L := [some (.ref 248), some (.int 2)]) x_pl76 rfl ?_
            refine g_n 4 (pc' := 6) (L' := [some (.ref 248), some (.int 2)]) (st' := [.int 4, .int 2, .ref 255]) rfl ?_
            refine g_call (ins := .invokevirtual 95) (len := 3) (j := 263) (as := [.ref 255, .int 2, .int 4]) (rest := []) rfl rfl rfl rfl (fun _ => rfl) rfl ?_
            refine g_in (M := x_M263) (L := [some (.ref 255), some (.int 2), some (.int 4), none]) x_pl263 rfl ?_
            refine g_n 30 (pc' := 55) (L' := [some (.ref 255), some (.int 2), some (.int 4), some (.int 16)]) (st' := [.int 16, .ref 256]) rfl ?_
            refine g_la (i := 16) (a := 256) (n := 18) (v := 0) rfl rfl (by decide) (x_at (x_f256 hF) (k := 16) rfl) ?_
            refine g_n 2 (pc' := 61) (L' := [some (.ref 255), some (.int 2), some (.int 4), some (.int 16)]) (st' := [.int 0]) rfl ?_
            refine g_ret (ins := .ireturn) (len := 1) (r := (some (.int 0))) rfl rfl rfl ?_
            refine g_n 3 (pc' := 18) (L' := [some (.ref 248), some (.int 2)]) (st' := [.int 0]) rfl ?_
            refine g_ret (ins := .ireturn) (len := 1) (r := (some (.int 0))) rfl rfl rfl ?_
            refine g_n 6 (pc' := 56) (L' := [some (.ref 248), some (.int 3), some (.int 3)]) (st' := []) rfl ?_
            refine g_ret (ins := .return_) (len := 1) (r := none) rfl rfl rfl ?_
            refine g_n 5 (pc' := 145) (L' := [some (.ref 0), some (.int 3), some (.ref 96), some (.int 12)]) (st' := [.int 0]) rfl ?_
            refine g_ret (ins := .ireturn) (len := 1) (r := (some (.int 0))) rfl rfl rfl ?_
            refine ⟨⟨_, (x_obj_ne (by decide)).trans ((x_obj_ne (by decide)).trans ((x_obj_ne (by decide)).trans ((x_obj_ne (by decide)).trans ((x_obj_ne (by decide)).trans ((x_obj_ne (by decide)).trans ((x_obj_ne (by decide)).trans ((x_obj_ne (by decide)).trans ((x_obj_ne (by decide)).trans ((x_obj_ne (by decide)).trans ((x_obj_ne (by decide)).trans ((x_obj_ne (by decide)).trans ((x_obj_ne (by decide)).trans ((x_obj_ne (by decide)).trans ((x_obj_ne (by decide)).trans ((x_obj_ne (by decide)).trans ((x_obj_ne (by decide)).trans ((x_obj_ne (by decide)).trans ((x_obj_ne (by decide)).trans ((x_obj_ne (by decide)).trans ((x_obj_ne (by decide)).trans ((x_obj_ne (by decide)).trans ((x_obj_ne (by decide)).trans ((x_obj_ne (by decide)).trans ((x_obj_ne (by decide)).trans ((x_obj_ne (by decide)).trans ((x_obj_ne (by decide)).trans ((x_obj_ne (by decide)).trans ((x_obj_ne (by decide)).trans ((x_obj_ne (by decide)).trans ((x_obj_ne (by decide)).trans ((x_obj_ne (by decide)).trans ((x_obj_ne (by decide)).trans ((x_obj_ne (by decide)).trans ((x_obj_ne (by decide)).trans ((x_obj_ne (by decide)).trans ((x_obj_ne (by decide)).trans ((x_obj_ne (by decide)).trans ((x_obj_ne (by decide)).trans ((x_obj_ne (by decide)).trans ((x_obj_ne (by decide)).trans ((x_obj_ne (by decide)).trans ((x_obj_ne (by decide)).trans ((x_obj_ne (by decide)).trans ((x_obj_ne (by decide)).trans ((x_obj_ne (by decide)).trans ((x_obj_ne (by decide)).trans (rfl)))))))))))))))))))))))))))))))))))))))))))))))⟩, ?_⟩
            refine g_in (M := x_M489) (L := [some (.ref 281), some (.int 3), none]) x_pl489 rfl ?_
            refine g_n 2 (pc' := 2) (L' := [some (.ref 281), some (.int 3), none]) (st' := [.int 3, .ref 281]) rfl ?_
            refine g_call (ins := .invokevirtual 1015) (len := 3) (j := 488) (as := [.ref 281, .int 3]) (rest := []) rfl rfl rfl rfl (fun _ => rfl) rfl ?_
            refine g_in (M := x_M488) (L := [some (.ref 281), some (.int 3)]) x_pl488 rfl ?_
            refine g_n 7 (pc' := 14) (L' := [some (.ref 281), some (.int 3)]) (st' := [.int 1]) rfl ?_
            refine g_ret (ins := .ireturn) (len := 1) (r := (some (.int 1))) rfl rfl rfl ?_
            refine g_n 2 (pc' := 11) (L' := [some (.ref 281), some (.int 3), none]) (st' := [.ref 281]) rfl ?_
            refine g_call (ins := .invokevirtual 1018) (len := 3) (j := 423) (as := [.ref 281]) (rest := []) rfl rfl rfl rfl (fun _ => rfl) rfl ?_
            refine g_in (M := x_M423) (L := [some (.ref 281), none]) x_pl423 rfl ?_
            refine g_n 19 (pc' := 51) (L' := [some (.ref 281), some (.int 0)]) (st' := []) rfl ?_
            refine g_ret (ins := .return_) (len := 1) (r := none) rfl rfl rfl ?_
            refine g_n 4 (pc' := 21) (L' := [some (.ref 281), some (.int 3), none]) (st' := [.ref 281]) rfl ?_
            refine g_call (ins := .invokevirtual 1021) (len := 3) (j := 441) (as := [.ref 281]) (rest := []) rfl rfl rfl rfl (fun _ => rfl) rfl ?_
            refine g_in (M := x_M441) (L := [some (.ref 281), none]) x_pl441 rfl ?_
            refine g_n 19 (pc' := 27) (L' := [some (.ref 281), none]) (st' := [.ref 281]) rfl ?_
            refine g_call (ins := .invokevirtual 805) (len := 3) (j := 427) (as := [.ref 281]) (rest := []) rfl rfl rfl rfl (fun _ => rfl) rfl ?_
            refine g_in (M := x_M427) (L := [some (.ref 281), none, none]) x_pl427 rfl ?_
            refine g_n 37 (pc' := 192) (L' := [some (.ref 281), some (.int 0), none]) (st' := [.int 1]) rfl ?_
            refine g_ret (ins := .ireturn) (len := 1) (r := (some (.int 1))) rfl rfl rfl ?_
            refine g_n 5 (pc' := 105) (L' := [some (.ref 281), none]) (st' := [.int 1]) rfl ?_
            refine g_ret (ins := .ireturn) (len := 1) (r := (some (.int 1))) rfl rfl rfl ?_
            refine g_n 2 (pc' := 28) (L' := [some (.ref 281), some (.int 3), none]) (st' := [.ref 281]) rfl ?_
            refine g_call (ins := .invokevirtual 1024) (len := 3) (j := 478) (as := [.ref 281]) (rest := []) rfl rfl rfl rfl (fun _ => rfl) rfl ?_
            refine g_in (M := x_M478) (L := [some (.ref 281), none]) x_pl478 rfl ?_
            refine g_n 4 (pc' := 6) (L' := [some (.ref 281), none]) (st' := [.ref 281]) rfl ?_
            refine g_call (ins := .invokevirtual 976) (len := 3) (j := 464) (as := [.ref 281]) (rest := []) rfl rfl rfl rfl (fun _ => rfl) rfl ?_
            refine g_in (M := x_M464) (L := [some (.ref 281), none, none]) x_pl464 rfl ?_
            refine g_n 20 (pc' := 270) (L' := [some (.ref 281), some (.int 16), none]) (st' := []) rfl ?_
            refine g_ret (ins := .return_) (len := 1) (r := none) rfl rfl rfl ?_
            refine g_n 28 (pc' := 112) (L' := [some (.ref 281), some (.int 16)]) (st' := [.int 1]) rfl ?_
            refine g_ret (ins := .ireturn) (len := 1) (r := (some (.int 1))) rfl rfl rfl ?_
            refine g_n 13 (pc' := 88) (L' := [some (.ref 281), some (.int 3), some (.int 120)]) (st' := [.int 3, .ref 281]) rfl ?_
            refine g_call (ins := .invokevirtual 1030) (len := 3) (j := 485) (as := [.ref 281, .int 3]) (rest := []) rfl rfl rfl rfl (fun _ => rfl) rfl ?_
            refine g_in (M := x_M485) (L := [some (.ref 281), some (.int 3), none, none, none, none]) x_pl485 rfl ?_
            refine g_n 40 (pc' := 86) (L' := [some (.ref 281), some (.int 3), some (.int 0), none, none, none]) (st' := [.int 0]) rfl ?_
            refine g_n 13 (pc' := 529) (L' := [some (.ref 281), some (.int 3), some (.int 0), none, none, none]) (st' := []) rfl ?_
            refine g_ret (ins := .return_) (len := 1) (r := none) rfl rfl rfl ?_
            refine g_n 2 (pc' := 93) (L' := [some (.ref 281), some (.int 3), some (.int 120)]) (st' := [.int 3, .ref 281]) rfl ?_
            refine g_call (ins := .invokevirtual 1033) (len := 3) (j := 712) (as := [.ref 281, .int 3]) (rest := []) rfl rfl rfl rfl (fun _ => rfl) rfl ?_
            refine g_in (M := x_M712) (L := [some (.ref 281), some (.int 3), none]) x_pl712 rfl ?_
            refine g_n 40 (pc' := 34) (L' := [some (.ref 281), some (.int 3), some (.int 3)]) (st' := []) rfl ?_
            refine g_n 40 (pc' := 34) (L' := [some (.ref 281), some (.int 3), some (.int 7)]) (st' := []) rfl ?_
            refine g_n 40 (pc' := 34) (L' := [some (.ref 281), some (.int 3), some (.int 11)]) (st' := []) rfl ?_
            refine g_n 40 (pc' := 86) (L' := [some (.ref 281), some (.int 3), some (.int 3)]) (st' := []) rfl ?_
            refine g_n 3 (pc' := 130) (L' := [some (.ref 281), some (.int 3), some (.int 3)]) (st' := []) rfl ?_
            refine g_ret (ins := .return_) (len := 1) (r := none) rfl rfl rfl ?_
            refine g_n 4 (pc' := 102) (L' := [some (.ref 281), some (.int 3), some (.int 120)]) (st' := [.int 0]) rfl ?_
            exact g_ret (ins := .ireturn) (len := 1) (r := (some (.int 0))) rfl rfl rfl ⟨_, rfl, rfl, (x_sv_set (x_sv_set (x_sv_set (x_sv_set (x_sv_set (x_sv_set (x_sv_set (x_sv_set (x_sv_set (x_sv_set (x_sv_set (x_sv_set (x_sv_set (x_sv_set (x_sv_set (x_sv_set (x_sv_set (x_sv_set (x_sv_set (x_sv_set (x_sv_set (x_sv_set (x_sv_set (x_sv_set (x_sv_set (x_sv_set (x_sv_set (x_sv_set (x_sv_set (x_sv_set (x_sv_set (x_sv_set (x_sv_set (x_sv_set (x_sv_set (x_sv_set (x_sv_set (x_sv_set (x_sv_set (x_sv_set (x_sv_set (x_sv_set (x_sv_set (x_sv_set (x_sv_set (x_sv_set (x_sv_set (x_sv_set (x_sv_set (x_sv_set (x_sv_set (x_sv_set (x_sv_set (x_sv_set (x_sv_set (x_sv_set (x_sv_set (x_sv_set (x_sv_set (x_sv_set (x_sv_set (x_sv_set (x_sv_set (x_sv_set (x_sv_rf _) rfl rfl) rfl rfl) rfl rfl) rfl rfl) rfl rfl) rfl rfl) rfl rfl) rfl rfl) rfl rfl) rfl rfl) rfl rfl) rfl rfl) rfl rfl) rfl rfl) rfl rfl) rfl rfl) rfl rfl) rfl rfl) rfl rfl) rfl rfl) rfl rfl) rfl rfl) rfl rfl) rfl rfl) rfl rfl) rfl rfl) rfl rfl) rfl rfl) rfl rfl) rfl rfl) rfl rfl) rfl rfl) rfl rfl) rfl rfl) rfl rfl) rfl rfl) rfl rfl) rfl rfl) rfl rfl) rfl rfl) rfl rfl) rfl rfl) rfl rfl) rfl rfl) rfl rfl) rfl rfl) rfl rfl) rfl rfl) rfl rfl) rfl rfl) rfl rfl) rfl rfl) rfl rfl) rfl rfl) rfl rfl) rfl rfl) rfl rfl) rfl rfl) rfl rfl) rfl rfl) rfl rfl) rfl rfl) rfl rfl) rfl rfl)⟩
set_option maxRecDepth 100000 in
set_option maxHeartbeats 4000000 in
theorem x_op9 {fi : Nat → Nat → Int32} {fl : Nat → Nat → Int64} {fr : Nat → Nat → Option Nat} (hF : x_F fl fr) : x_ev 30 361 [.ref 0] (x_W fi fl fr) fun r S1 => (∃ fs, x_obj S1 281 = some (12, fs)) ∧ x_ev 30 421 [.ref 281] S1 (x_finI (x_W fi fl fr) r) := by
  refine g_in (M := x_M361) (L := [some (.ref 0)]) x_pl361 rfl ?_
  refine g_n 2 (pc' := 4) (L' := [some (.ref 0)]) (st' := [.int (-2)]) rfl ?_
  refine g_ret (ins := .ireturn) (len := 1) (r := (some (.int (-2)))) rfl rfl rfl ?_
  refine ⟨⟨_, rfl⟩, ?_⟩
  refine g_in (M := x_M421) (L := [some (.ref 281)]) x_pl421 rfl ?_
  refine g_n 2 (pc' := 4) (L' := [some (.ref 281)]) (st' := [.int (-2)]) rfl ?_
  exact g_ret (ins := .ireturn) (len := 1) (r := (some (.int (-2)))) rfl rfl rfl ⟨_, rfl, rfl, (x_sv_rf _)⟩
set_option maxRecDepth 100000 in
set_option maxHeartbeats 4000000 in
theorem x_op10 {fi : Nat → Nat → Int32} {fl : Nat → Nat → Int64} {fr : Nat → Nat → Option Nat} (hF : x_F fl fr) (a b : Int32) : x_ev 30 362 [.ref 0, .int a, .int b] (x_W fi fl fr) fun r S1 => (∃ fs, x_obj S1 281 = some (12, fs)) ∧ x_ev 30 490 [.ref 281, .int a, .int b] S1 (x_finI (x_W fi fl fr) r) := by
  refine g_in (M := x_M362) (L := [some (.ref 0), some (.int a), some (.int b)]) x_pl362 rfl ?_
  refine g_n 1 (pc' := 1) (L' := [some (.ref 0), some (.int a), some (.int b)]) (st' := [.int a]) rfl ?_
  refine g_call (ins := .invokestatic 173) (len := 3) (j := 348) (as := [.int a]) (rest := []) rfl rfl rfl rfl (fun _ => rfl) rfl ?_
  refine g_in (M := x_M348) (L := [some (.int a)]) x_pl348 rfl ?_
  refine g_n 1 (pc' := 1) (L' := [some (.int a)]) (st' := [.int a]) rfl ?_
  refine g_br (c := a < (0 : Int32)) (t := 13) (f := 4) (L' := [some (.int a)]) (st' := []) rfl (fun h1 => ?_) (fun h1 => ?_)
  · have p2 : a.toInt ≤ -1 := x_up_lt h1 (by decide)
    refine g_n 1 (pc' := 14) (L' := [some (.int a)]) (st' := [.int 0]) rfl ?_
    refine g_ret (ins := .ireturn) (len := 1) (r := (some (.int 0))) rfl rfl rfl ?_
    refine g_n 2 (pc' := 17) (L' := [some (.ref 0), some (.int a), some (.int b)]) (st' := [.int (-1)]) rfl ?_
    refine g_ret (ins := .ireturn) (len := 1) (r := (some (.int (-1)))) rfl rfl rfl ?_
    refine ⟨⟨_, rfl⟩, ?_⟩
    refine g_in (M := x_M490) (L := [some (.ref 281), some (.int a), some (.int b)]) x_pl490 rfl ?_
    refine g_n 2 (pc' := 2) (L' := [some (.ref 281), some (.int a), some (.int b)]) (st' := [.int a, .ref 281]) rfl ?_
    refine g_call (ins := .invokevirtual 1015) (len := 3) (j := 488) (as := [.ref 281, .int a]) (rest := []) rfl rfl rfl rfl (fun _ => rfl) rfl ?_
    refine g_in (M := x_M488) (L := [some (.ref 281), some (.int a)]) x_pl488 rfl ?_
    refine g_n 1 (pc' := 1) (L' := [some (.ref 281), some (.int a)]) (st' := [.int a]) rfl ?_
    refine g_brT (c := a < (0 : Int32)) (t := 13) (f := 4) (L' := [some (.ref 281), some (.int a)]) (st' := []) rfl (x_Tlt (u := -1) (l := 0) p2 (by decide) (by decide)) ?_
    refine g_n 1 (pc' := 14) (L' := [some (.ref 281), some (.int a)]) (st' := [.int 0]) rfl ?_
    refine g_ret (ins := .ireturn) (len := 1) (r := (some (.int 0))) rfl rfl rfl ?_
    refine g_n 2 (pc' := 18) (L' := [some (.ref 281), some (.int a), some (.int b)]) (st' := [.int (-1)]) rfl ?_
    exact g_ret (ins := .ireturn) (len := 1) (r := (some (.int (-1)))) rfl rfl rfl ⟨_, rfl, rfl, (x_sv_rf _)⟩
  · have p3 : 0 ≤ a.toInt := x_lo_le (x_nlt h1) (by decide)
    refine g_n 2 (pc' := 6) (L' := [some (.int a)]) (st' := [.int 4, .int a]) rfl ?_
    refine g_br (c := (4 : Int32) ≤ a) (t := 13) (f := 9) (L' := [some (.int a)]) (st' := []) rfl (fun h4 => ?_) (fun h4 => ?_)
    · have p5 : 4 ≤ a.toInt := x_lo_le h4 (by decide)
      refine g_n 1 (pc' := 14) (L' := [some (.int a)]) (st' := [.int 0]) rfl ?_
      refine g_ret (ins := .ireturn) (len := 1) (r := (some (.int 0))) rfl rfl rfl ?_
      refine g_n 2 (pc' := 17) (L' := [some (.ref 0), some (.int a), some (.int b)]) (st' := [.int (-1)]) rfl ?_
      refine g_ret (ins := .ireturn) (len := 1) (r := (some (.int (-1)))) rfl rfl rfl ?_
      refine ⟨⟨_, rfl⟩, ?_⟩
      refine g_in (M := x_M490) (L := [some (.ref 281), some (.int a), some (.int b)]) x_pl490 rfl ?_
      refine g_n 2 (pc' := 2) (L' := [some (.ref 281), some (.int a), some (.int b)]) (st' := [.int a, .ref 281]) rfl ?_
      refine g_call (ins := .invokevirtual 1015) (len := 3) (j := 488) (as := [.ref 281, .int a]) (rest := []) rfl rfl rfl rfl (fun _ => rfl) rfl ?_
      refine g_in (M := x_M488) (L := [some (.ref 281), some (.int a)]) x_pl488 rfl ?_
      refine g_n 1 (pc' := 1) (L' := [some (.ref 281), some (.int a)]) (st' := [.int a]) rfl ?_
      refine g_brF (c := a < (0 : Int32)) (t := 13) (f := 4) (L' := [some (.ref 281), some (.int a)]) (st' := []) rfl (x_Flt (l := 4) (u := 0) p5 (by decide) (by decide)) ?_
      refine g_n 2 (pc' := 6) (L' := [some (.ref 281), some (.int a)]) (st' := [.int 4, .int a]) rfl ?_
      refine g_brT (c := (4 : Int32) ≤ a) (t := 13) (f := 9) (L' := [some (.ref 281), some (.int a)]) (st' := []) rfl (x_Tle (u := 4) (l := 4) (by decide) p5 (by decide)) ?_
      refine g_n 1 (pc' := 14) (L' := [some (.ref 281), some (.int a)]) (st' := [.int 0]) rfl ?_
      refine g_ret (ins := .ireturn) (len := 1) (r := (some (.int 0))) rfl rfl rfl ?_
      refine g_n 2 (pc' := 18) (L' := [some (.ref 281), some (.int a), some (.int b)]) (st' := [.int (-1)]) rfl ?_
      exact g_ret (ins := .ireturn) (len := 1) (r := (some (.int (-1)))) rfl rfl rfl ⟨_, rfl, rfl, (x_sv_rf _)⟩
    · have p6 : a.toInt ≤ 3 := x_up_lt (x_nle h4) (by decide)
      refine g_n 2 (pc' := 14) (L' := [some (.int a)]) (st' := [.int 1]) rfl ?_
      refine g_ret (ins := .ireturn) (len := 1) (r := (some (.int 1))) rfl rfl rfl ?_
      refine g_n 2 (pc' := 8) (L' := [some (.ref 0), some (.int a), some (.int b)]) (st' := [.int b]) rfl ?_
      refine g_br (c := b < (0 : Int32)) (t := 16) (f := 11) (L' := [some (.ref 0), some (.int a), some (.int b)]) (st' := []) rfl (fun h7 => ?_) (fun h7 => ?_)
      · have p8 : b.toInt ≤ -1 := x_up_lt h7 (by decide)
        refine g_n 1 (pc' := 17) (L' := [some (.ref 0), some (.int a), some (.int b)]) (st' := [.int (-1)]) rfl ?_
        refine g_ret (ins := .ireturn) (len := 1) (r := (some (.int (-1)))) rfl rfl rfl ?_
        refine ⟨⟨_, rfl⟩, ?_⟩
        refine g_in (M := x_M490) (L := [some (.ref 281), some (.int a), some (.int b)]) x_pl490 rfl ?_
        refine g_n 2 (pc' := 2) (L' := [some (.ref 281), some (.int a), some (.int b)]) (st' := [.int a, .ref 281]) rfl ?_
        refine g_call (ins := .invokevirtual 1015) (len := 3) (j := 488) (as := [.ref 281, .int a]) (rest := []) rfl rfl rfl rfl (fun _ => rfl) rfl ?_
        refine g_in (M := x_M488) (L := [some (.ref 281), some (.int a)]) x_pl488 rfl ?_
        refine g_n 1 (pc' := 1) (L' := [some (.ref 281), some (.int a)]) (st' := [.int a]) rfl ?_
        refine g_brF (c := a < (0 : Int32)) (t := 13) (f := 4) (L' := [some (.ref 281), some (.int a)]) (st' := []) rfl (x_Flt (l := 0) (u := 0) p3 (by decide) (by decide)) ?_
        refine g_n 2 (pc' := 6) (L' := [some (.ref 281), some (.int a)]) (st' := [.int 4, .int a]) rfl ?_
        refine g_brF (c := (4 : Int32) ≤ a) (t := 13) (f := 9) (L' := [some (.ref 281), some (.int a)]) (st' := []) rfl (x_Fle (l := 4) (u := 3) (by decide) p6 (by decide)) ?_
        refine g_n 2 (pc' := 14) (L' := [some (.ref 281), some (.int a)]) (st' := [.int 1]) rfl ?_
        refine g_ret (ins := .ireturn) (len := 1) (r := (some (.int 1))) rfl rfl rfl ?_
        refine g_n 2 (pc' := 9) (L' := [some (.ref 281), some (.int a), some (.int b)]) (st' := [.int b]) rfl ?_
        refine g_brT (c := b < (0 : Int32)) (t := 17) (f := 12) (L' := [some (.ref 281), some (.int a), some (.int b)]) (st' := []) rfl (x_Tlt (u := -1) (l := 0) p8 (by decide) (by decide)) ?_
        refine g_n 1 (pc' := 18) (L' := [some (.ref 281), some (.int a), some (.int b)]) (st' := [.int (-1)]) rfl ?_
        exact g_ret (ins := .ireturn) (len := 1) (r := (some (.int (-1)))) rfl rfl rfl ⟨_, rfl, rfl, (x_sv_rf _)⟩
      · have p9 : 0 ≤ b.toInt := x_lo_le (x_nlt h7) (by decide)
        refine g_n 2 (pc' := 13) (L' := [some (.ref 0), some (.int a), some (.int b)]) (st' := [.int 1, .int b]) rfl ?_
        refine g_br (c := b ≤ (1 : Int32)) (t := 18) (f := 16) (L' := [some (.ref 0), some (.int a), some (.int b)]) (st' := []) rfl (fun h10 => ?_) (fun h10 => ?_)
        · have p11 : b.toInt ≤ 1 := x_up_le h10 (by decide)
          refine g_n 3 (pc' := 23) (L' := [some (.ref 0), some (.int a), some (.int b)]) (st' := [.int a, .ref 2]) rfl ?_
          by_cases h12 : a = 0
          · have e13 : a = 0 := h12
            subst e13
            refine g_aa (i := 0) (a := 2) (n := 4) (v := 27) rfl rfl (by decide) (x_at (x_f2 hF) (k := 0) rfl) ?_
            refine g_n 3 (pc' := 32) (L' := [some (.ref 0), some (.int 0), some (.int b)]) (st' := [.int (-2)]) rfl ?_
            refine g_ret (ins := .ireturn) (len := 1) (r := (some (.int (-2)))) rfl rfl rfl ?_
            refine ⟨⟨_, rfl⟩, ?_⟩
            refine g_in (M := x_M490) (L := [some (.ref 281), some (.int 0), some (.int b)]) x_pl490 rfl ?_
            refine g_n 2 (pc' := 2) (L' := [some (.ref 281), some (.int 0), some (.int b)]) (st' := [.int 0, .ref 281]) rfl ?_
            refine g_call (ins := .invokevirtual 1015) (len := 3) (j := 488) (as := [.ref 281, .int 0]) (rest := []) rfl rfl rfl rfl (fun _ => rfl) rfl ?_
            refine g_in (M := x_M488) (L := [some (.ref 281), some (.int 0)]) x_pl488 rfl ?_
            refine g_n 7 (pc' := 14) (L' := [some (.ref 281), some (.int 0)]) (st' := [.int 1]) rfl ?_
            refine g_ret (ins := .ireturn) (len := 1) (r := (some (.int 1))) rfl rfl rfl ?_
            refine g_n 2 (pc' := 9) (L' := [some (.ref 281), some (.int 0), some (.int b)]) (st' := [.int b]) rfl ?_
            refine g_brF (c := b < (0 : Int32)) (t := 17) (f := 12) (L' := [some (.ref 281), some (.int 0), some (.int b)]) (st' := []) rfl (x_Flt (l := 0) (u := 0) p9 (by decide) (by decide)) ?_
            refine g_n 2 (pc' := 14) (L' := [some (.ref 281), some (.int 0), some (.int b)]) (st' := [.int 1, .int b]) rfl ?_
            refine g_brT (c := b ≤ (1 : Int32)) (t := 19) (f := 17) (L' := [some (.ref 281), some (.int 0), some (.int b)]) (st' := []) rfl (x_Tle (u := 1) (l := 1) p11 (by decide) (by decide)) ?_
            refine g_n 6 (pc' := 30) (L' := [some (.ref 281), some (.int 0), some (.int b)]) (st' := [.int (-2)]) rfl ?_
            exact g_ret (ins := .ireturn) (len := 1) (r := (some (.int (-2)))) rfl rfl rfl ⟨_, rfl, rfl, (x_sv_rf _)⟩
          · have q14 : ¬ a = 0 := h12
            have p15 : 1 ≤ a.toInt := x_lo_ne q14 p3 (by decide)
            by_cases h16 : a = 1
            · have e17 : a = 1 := h16
              subst e17
              refine g_aa (i := 1) (a := 2) (n := 4) (v := 50) rfl rfl (by decide) (x_at (x_f2 hF) (k := 1) rfl) ?_
              refine g_n 3 (pc' := 32) (L' := [some (.ref 0), some (.int 1), some (.int b)]) (st' := [.int (-2)]) rfl ?_
              refine g_ret (ins := .ireturn) (len := 1) (r := (some (.int (-2)))) rfl rfl rfl ?_
              refine ⟨⟨_, rfl⟩, ?_⟩
              refine g_in (M := x_M490) (L := [some (.ref 281), some (.int 1), some (.int b)]) x_pl490 rfl ?_
              refine g_n 2 (pc' := 2) (L' := [some (.ref 281), some (.int 1), some (.int b)]) (st' := [.int 1, .ref 281]) rfl ?_
              refine g_call (ins := .invokevirtual 1015) (len := 3) (j := 488) (as := [.ref 281, .int 1]) (rest := []) rfl rfl rfl rfl (fun _ => rfl) rfl ?_
              refine g_in (M := x_M488) (L := [some (.ref 281), some (.int 1)]) x_pl488 rfl ?_
              refine g_n 7 (pc' := 14) (L' := [some (.ref 281), some (.int 1)]) (st' := [.int 1]) rfl ?_
              refine g_ret (ins := .ireturn) (len := 1) (r := (some (.int 1))) rfl rfl rfl ?_
              refine g_n 2 (pc' := 9) (L' := [some (.ref 281), some (.int 1), some (.int b)]) (st' := [.int b]) rfl ?_
              refine g_brF (c := b < (0 : Int32)) (t := 17) (f := 12) (L' := [some (.ref 281), some (.int 1), some (.int b)]) (st' := []) rfl (x_Flt (l := 0) (u := 0) p9 (by decide) (by decide)) ?_
              refine g_n 2 (pc' := 14) (L' := [some (.ref 281), some (.int 1), some (.int b)]) (st' := [.int 1, .int b]) rfl ?_
              refine g_brT (c := b ≤ (1 : Int32)) (t := 19) (f := 17) (L' := [some (.ref 281), some (.int 1), some (.int b)]) (st' := []) rfl (x_Tle (u := 1) (l := 1) p11 (by decide) (by decide)) ?_
              refine g_n 6 (pc' := 30) (L' := [some (.ref 281), some (.int 1), some (.int b)]) (st' := [.int (-2)]) rfl ?_
              exact g_ret (ins := .ireturn) (len := 1) (r := (some (.int (-2)))) rfl rfl rfl ⟨_, rfl, rfl, (x_sv_rf _)⟩
            · have q18 : ¬ a = 1 := h16
              have p19 : 2 ≤ a.toInt := x_lo_ne q18 p15 (by decide)
              by_cases h20 : a = 2
              · have e21 : a = 2 := h20
                subst e21
                refine g_aa (i := 2) (a := 2) (n := 4) (v := 73) rfl rfl (by decide) (x_at (x_f2 hF) (k := 2) rfl) ?_
                refine g_n 3 (pc' := 32) (L' := [some (.ref 0), some (.int 2), some (.int b)]) (st' := [.int (-2)]) rfl ?_
                refine g_ret (ins := .ireturn) (len := 1) (r := (some (.int (-2)))) rfl rfl rfl ?_
                refine ⟨⟨_, rfl⟩, ?_⟩
                refine g_in (M := x_M490) (L := [some (.ref 281), some (.int 2), some (.int b)]) x_pl490 rfl ?_
                refine g_n 2 (pc' := 2) (L' := [some (.ref 281), some (.int 2), some (.int b)]) (st' := [.int 2, .ref 281]) rfl ?_
                refine g_call (ins := .invokevirtual 1015) (len := 3) (j := 488) (as := [.ref 281, .int 2]) (rest := []) rfl rfl rfl rfl (fun _ => rfl) rfl ?_
                refine g_in (M := x_M488) (L := [some (.ref 281), some (.int 2)]) x_pl488 rfl ?_
                refine g_n 7 (pc' := 14) (L' := [some (.ref 281), some (.int 2)]) (st' := [.int 1]) rfl ?_
                refine g_ret (ins := .ireturn) (len := 1) (r := (some (.int 1))) rfl rfl rfl ?_
                refine g_n 2 (pc' := 9) (L' := [some (.ref 281), some (.int 2), some (.int b)]) (st' := [.int b]) rfl ?_
                refine g_brF (c := b < (0 : Int32)) (t := 17) (f := 12) (L' := [some (.ref 281), some (.int 2), some (.int b)]) (st' := []) rfl (x_Flt (l := 0) (u := 0) p9 (by decide) (by decide)) ?_
                refine g_n 2 (pc' := 14) (L' := [some (.ref 281), some (.int 2), some (.int b)]) (st' := [.int 1, .int b]) rfl ?_
                refine g_brT (c := b ≤ (1 : Int32)) (t := 19) (f := 17) (L' := [some (.ref 281), some (.int 2), some (.int b)]) (st' := []) rfl (x_Tle (u := 1) (l := 1) p11 (by decide) (by decide)) ?_
                refine g_n 6 (pc' := 30) (L' := [some (.ref 281), some (.int 2), some (.int b)]) (st' := [.int (-2)]) rfl ?_
                exact g_ret (ins := .ireturn) (len := 1) (r := (some (.int (-2)))) rfl rfl rfl ⟨_, rfl, rfl, (x_sv_rf _)⟩
              · have q22 : ¬ a = 2 := h20
                have p23 : 3 ≤ a.toInt := x_lo_ne q22 p19 (by decide)
                have e24 : a = 3 := x_sing p23 p6 (by decide)
                subst e24
                refine g_aa (i := 3) (a := 2) (n := 4) (v := 96) rfl rfl (by decide) (x_at (x_f2 hF) (k := 3) rfl) ?_
                refine g_n 3 (pc' := 32) (L' := [some (.ref 0), some (.int 3), some (.int b)]) (st' := [.int (-2)]) rfl ?_
                refine g_ret (ins := .ireturn) (len := 1) (r := (some (.int (-2)))) rfl rfl rfl ?_
                refine ⟨⟨_, rfl⟩, ?_⟩
                refine g_in (M := x_M490) (L := [some (.ref 281), some (.int 3), some (.int b)]) x_pl490 rfl ?_
                refine g_n 2 (pc' := 2) (L' := [some (.ref 281), some (.int 3), some (.int b)]) (st' := [.int 3, .ref 281]) rfl ?_
                refine g_call (ins := .invokevirtual 1015) (len := 3) (j := 488) (as := [.ref 281, .int 3]) (rest := []) rfl rfl rfl rfl (fun _ => rfl) rfl ?_
                refine g_in (M := x_M488) (L := [some (.ref 281), some (.int 3)]) x_pl488 rfl ?_
                refine g_n 7 (pc' := 14) (L' := [some (.ref 281), some (.int 3)]) (st' := [.int 1]) rfl ?_
                refine g_ret (ins := .ireturn) (len := 1) (r := (some (.int 1))) rfl rfl rfl ?_
                refine g_n 2 (pc' := 9) (L' := [some (.ref 281), some (.int 3), some (.int b)]) (st' := [.int b]) rfl ?_
                refine g_brF (c := b < (0 : Int32)) (t := 17) (f := 12) (L' := [some (.ref 281), some (.int 3), some (.int b)]) (st' := []) rfl (x_Flt (l := 0) (u := 0) p9 (by decide) (by decide)) ?_
                refine g_n 2 (pc' := 14) (L' := [some (.ref 281), some (.int 3), some (.int b)]) (st' := [.int 1, .int b]) rfl ?_
                refine g_brT (c := b ≤ (1 : Int32)) (t := 19) (f := 17) (L' := [some (.ref 281), some (.int 3), some (.int b)]) (st' := []) rfl (x_Tle (u := 1) (l := 1) p11 (by decide) (by decide)) ?_
                refine g_n 6 (pc' := 30) (L' := [some (.ref 281), some (.int 3), some (.int b)]) (st' := [.int (-2)]) rfl ?_
                exact g_ret (ins := .ireturn) (len := 1) (r := (some (.int (-2)))) rfl rfl rfl ⟨_, rfl, rfl, (x_sv_rf _)⟩
        · have p25 : 2 ≤ b.toInt := x_lo_lt (x_nle h10) (by decide)
          refine g_n 1 (pc' := 17) (L' := [some (.ref 0), some (.int a), some (.int b)]) (st' := [.int (-1)]) rfl ?_
          refine g_ret (ins := .ireturn) (len := 1) (r := (some (.int (-1)))) rfl rfl rfl ?_
          refine ⟨⟨_, rfl⟩, ?_⟩
          refine g_in (M := x_M490) (L := [some (.ref 281), some (.int a), some (.int b)]) x_pl490 rfl ?_
          refine g_n 2 (pc' := 2) (L' := [some (.ref 281), some (.int a), some (.int b)]) (st' := [.int a, .ref 281]) rfl ?_
          refine g_call (ins := .invokevirtual 1015) (len := 3) (j := 488) (as := [.ref 281, .int a]) (rest := []) rfl rfl rfl rfl (fun _ => rfl) rfl ?_
          refine g_in (M := x_M488) (L := [some (.ref 281), some (.int a)]) x_pl488 rfl ?_
          refine g_n 1 (pc' := 1) (L' := [some (.ref 281), some (.int a)]) (st' := [.int a]) rfl ?_
          refine g_brF (c := a < (0 : Int32)) (t := 13) (f := 4) (L' := [some (.ref 281), some (.int a)]) (st' := []) rfl (x_Flt (l := 0) (u := 0) p3 (by decide) (by decide)) ?_
          refine g_n 2 (pc' := 6) (L' := [some (.ref 281), some (.int a)]) (st' := [.int 4, .int a]) rfl ?_
          refine g_brF (c := (4 : Int32) ≤ a) (t := 13) (f := 9) (L' := [some (.ref 281), some (.int a)]) (st' := []) rfl (x_Fle (l := 4) (u := 3) (by decide) p6 (by decide)) ?_
          refine g_n 2 (pc' := 14) (L' := [some (.ref 281), some (.int a)]) (st' := [.int 1]) rfl ?_
          refine g_ret (ins := .ireturn) (len := 1) (r := (some (.int 1))) rfl rfl rfl ?_
          refine g_n 2 (pc' := 9) (L' := [some (.ref 281), some (.int a), some (.int b)]) (st' := [.int b]) rfl ?_
          refine g_brF (c := b < (0 : Int32)) (t := 17) (f := 12) (L' := [some (.ref 281), some (.int a), some (.int b)]) (st' := []) rfl (x_Flt (l := 2) (u := 0) p25 (by decide) (by decide)) ?_
          refine g_n 2 (pc' := 14) (L' := [some (.ref 281), some (.int a), some (.int b)]) (st' := [.int 1, .int b]) rfl ?_
          refine g_brF (c := b ≤ (1 : Int32)) (t := 19) (f := 17) (L' := [some (.ref 281), some (.int a), some (.int b)]) (st' := []) rfl (x_Fle (l := 2) (u := 1) p25 (by decide) (by decide)) ?_
          refine g_n 1 (pc' := 18) (L' := [some (.ref 281), some (.int a), some (.int b)]) (st' := [.int (-1)]) rfl ?_
          exact g_ret (ins := .ireturn) (len := 1) (r := (some (.int (-1)))) rfl rfl rfl ⟨_, rfl, rfl, (x_sv_rf _)⟩
