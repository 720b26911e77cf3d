/-! First calls on the fresh objects. -/
set_option maxRecDepth 100000 in
set_option maxHeartbeats 4000000 in
theorem x_op47 {fi : Nat → Nat → Int32} {fl : Nat → Nat → Int64} {fr : Nat → Nat → Option Nat} (hF : x_F fl fr) (a : Int32) : x_ev 30 409 [.ref 0, .int a] (x_W fi fl fr) fun r S1 => (∃ fs, x_obj S1 281 = some (12, fs)) ∧ x_ev 30 750 [.ref 281, .int a] S1 (x_finI (x_W fi fl fr) r) := by
  refine g_in (M := x_M409) (L := [some (.ref 0), some (.int a)]) x_pl409 rfl ?_
  refine g_n 1 (pc' := 1) (L' := [some (.ref 0), some (.int a)]) (st' := [.int a]) rfl ?_
  by_cases h1 : a < 0
  · have p2 : a.toInt ≤ -1 := x_up_lt h1 (by decide)
    refine g_swd (pc' := 88) rfl (Or.inl (by omega)) rfl ?_
    refine g_n 1 (pc' := 89) (L' := [some (.ref 0), some (.int a)]) (st' := [.int (-1)]) rfl ?_
    refine g_ret (ins := .ireturn) (len := 1) (r := (some (.int (-1)))) rfl rfl rfl ?_
    refine ⟨⟨_, rfl⟩, ?_⟩
    refine g_in (M := x_M750) (L := [some (.ref 281), some (.int a)]) x_pl750 rfl ?_
    refine g_n 1 (pc' := 1) (L' := [some (.ref 281), some (.int a)]) (st' := [.int a]) rfl ?_
    refine g_swd (pc' := 70) rfl (Or.inl (by omega)) rfl ?_
    refine g_n 1 (pc' := 71) (L' := [some (.ref 281), some (.int a)]) (st' := [.int (-1)]) rfl ?_
    exact g_ret (ins := .ireturn) (len := 1) (r := (some (.int (-1)))) rfl rfl rfl ⟨_, rfl, rfl, (x_sv_rf _)⟩
  · have p3 : 0 ≤ a.toInt := x_lo_le (x_nlt h1) (by decide)
    by_cases h4 : 5 < a
    · have p5 : 6 ≤ a.toInt := x_lo_lt h4 (by decide)
      refine g_swd (pc' := 88) rfl (Or.inr (by omega)) rfl ?_
      refine g_n 1 (pc' := 89) (L' := [some (.ref 0), some (.int a)]) (st' := [.int (-1)]) rfl ?_
      refine g_ret (ins := .ireturn) (len := 1) (r := (some (.int (-1)))) rfl rfl rfl ?_
      refine ⟨⟨_, rfl⟩, ?_⟩
      refine g_in (M := x_M750) (L := [some (.ref 281), some (.int a)]) x_pl750 rfl ?_
      refine g_n 1 (pc' := 1) (L' := [some (.ref 281), some (.int a)]) (st' := [.int a]) rfl ?_
      refine g_swd (pc' := 70) rfl (Or.inr (by omega)) rfl ?_
      refine g_n 1 (pc' := 71) (L' := [some (.ref 281), some (.int a)]) (st' := [.int (-1)]) rfl ?_
      exact g_ret (ins := .ireturn) (len := 1) (r := (some (.int (-1)))) rfl rfl rfl ⟨_, rfl, rfl, (x_sv_rf _)⟩
    · have p6 : a.toInt ≤ 5 := x_up_le (x_nlt h4) (by decide)
      by_cases h7 : a = 0
      · have e8 : a = 0 := h7
        subst e8
        refine g_n 4 (pc' := 47) (L' := [some (.ref 0), some (.int 0)]) (st' := [.int 0]) rfl ?_
        refine g_ret (ins := .ireturn) (len := 1) (r := (some (.int 0))) rfl rfl rfl ?_
        refine ⟨⟨_, rfl⟩, ?_⟩
        refine g_in (M := x_M750) (L := [some (.ref 281), some (.int 0)]) x_pl750 rfl ?_
        refine g_n 4 (pc' := 44) (L' := [some (.ref 281), some (.int 0)]) (st' := [.int 0]) rfl ?_
        exact g_ret (ins := .ireturn) (len := 1) (r := (some (.int 0))) rfl rfl rfl ⟨_, rfl, rfl, (x_sv_rf _)⟩
      · have q9 : ¬ a = 0 := h7
        have p10 : 1 ≤ a.toInt := x_lo_ne q9 p3 (by decide)
        by_cases h11 : a = 1
        · have e12 : a = 1 := h11
          subst e12
          refine g_n 4 (pc' := 55) (L' := [some (.ref 0), some (.int 1)]) (st' := [.int 0]) rfl ?_
          refine g_ret (ins := .ireturn) (len := 1) (r := (some (.int 0))) rfl rfl rfl ?_
          refine ⟨⟨_, rfl⟩, ?_⟩
          refine g_in (M := x_M750) (L := [some (.ref 281), some (.int 1)]) x_pl750 rfl ?_
          refine g_n 4 (pc' := 49) (L' := [some (.ref 281), some (.int 1)]) (st' := [.int 0]) rfl ?_
          exact g_ret (ins := .ireturn) (len := 1) (r := (some (.int 0))) rfl rfl rfl ⟨_, rfl, rfl, (x_sv_rf _)⟩
        · have q13 : ¬ a = 1 := h11
          have p14 : 2 ≤ a.toInt := x_lo_ne q13 p10 (by decide)
          by_cases h15 : a = 2
          · have e16 : a = 2 := h15
            subst e16
            refine g_n 4 (pc' := 63) (L' := [some (.ref 0), some (.int 2)]) (st' := [.int 0]) rfl ?_
            refine g_ret (ins := .ireturn) (len := 1) (r := (some (.int 0))) rfl rfl rfl ?_
            refine ⟨⟨_, rfl⟩, ?_⟩
            refine g_in (M := x_M750) (L := [some (.ref 281), some (.int 2)]) x_pl750 rfl ?_
            refine g_n 4 (pc' := 54) (L' := [some (.ref 281), some (.int 2)]) (st' := [.int 0]) rfl ?_
            exact g_ret (ins := .ireturn) (len := 1) (r := (some (.int 0))) rfl rfl rfl ⟨_, rfl, rfl, (x_sv_rf _)⟩
          · have q17 : ¬ a = 2 := h15
            have p18 : 3 ≤ a.toInt := x_lo_ne q17 p14 (by decide)
            by_cases h19 : a = 3
            · have e20 : a = 3 := h19
              subst e20
              refine g_n 3 (pc' := 68) (L' := [some (.ref 0), some (.int 3)]) (st' := [.ref 248]) rfl ?_
              refine g_call (ins := .invokevirtual 524) (len := 3) (j := 74) (as := [.ref 248]) (rest := []) rfl rfl rfl rfl (fun _ => rfl) rfl ?_
              refine g_in (M := x_M74) (L := [some (.ref 248), none, none]) x_pl74 rfl ?_
              refine g_n 12 (pc' := 16) (L' := [some (.ref 248), some (.int 0), some (.int 0)]) (st' := [.int 3, .int 0, .ref 264, .int 0]) rfl ?_
              refine g_call (ins := .invokevirtual 95) (len := 3) (j := 263) (as := [.ref 264, .int 0, .int 3]) (rest := [.int 0]) rfl rfl rfl rfl (fun _ => rfl) rfl ?_
              refine g_in (M := x_M263) (L := [some (.ref 264), some (.int 0), some (.int 3), none]) x_pl263 rfl ?_
              refine g_n 30 (pc' := 55) (L' := [some (.ref 264), some (.int 0), some (.int 3), some (.int 3)]) (st' := [.int 3, .ref 265]) rfl ?_
              refine g_la (i := 3) (a := 265) (n := 16) (v := 0) rfl rfl (by decide) (x_at (x_f265 hF) (k := 3) rfl) ?_
              refine g_n 2 (pc' := 61) (L' := [some (.ref 264), some (.int 0), some (.int 3), some (.int 3)]) (st' := [.int 0]) rfl ?_
              refine g_ret (ins := .ireturn) (len := 1) (r := (some (.int 0))) rfl rfl rfl ?_
              refine g_n 12 (pc' := 16) (L' := [some (.ref 248), some (.int 0), some (.int 1)]) (st' := [.int 3, .int 1, .ref 264, .int 0]) rfl ?_
              refine g_call (ins := .invokevirtual 95) (len := 3) (j := 263) (as := [.ref 264, .int 1, .int 3]) (rest := [.int 0]) rfl rfl rfl rfl (fun _ => rfl) rfl ?_
              refine g_in (M := x_M263) (L := [some (.ref 264), some (.int 1), some (.int 3), none]) x_pl263 rfl ?_
              refine g_n 30 (pc' := 55) (L' := [some (.ref 264), some (.int 1), some (.int 3), some (.int 7)]) (st' := [.int 7, .ref 265]) rfl ?_
              refine g_la (i := 7) (a := 265) (n := 16) (v := 0) rfl rfl (by decide) (x_at (x_f265 hF) (k := 7) rfl) ?_
              refine g_n 2 (pc' := 61) (L' := [some (.ref 264), some (.int 1), some (.int 3), some (.int 7)]) (st' := [.int 0]) rfl ?_
              refine g_ret (ins := .ireturn) (len := 1) (r := (some (.int 0))) rfl rfl rfl ?_
              refine g_n 12 (pc' := 16) (L' := [some (.ref 248), some (.int 0), some (.int 2)]) (st' := [.int 3, .int 2, .ref 264, .int 0]) rfl ?_
              refine g_call (ins := .invokevirtual 95) (len := 3) (j := 263) (as := [.ref 264, .int 2, .int 3]) (rest := [.int 0]) rfl rfl rfl rfl (fun _ => rfl) rfl ?_
              refine g_in (M := x_M263) (L := [some (.ref 264), some (.int 2), some (.int 3), none]) x_pl263 rfl ?_
              refine g_n 30 (pc' := 55) (L' := [some (.ref 264), some (.int 2), some (.int 3), some (.int 11)]) (st' := [.int 11, .ref 265]) rfl ?_
              refine g_la (i := 11) (a := 265) (n := 16) (v := 0) rfl rfl (by decide) (x_at (x_f265 hF) (k := 11) rfl) ?_
              refine g_n 2 (pc' := 61) (L' := [some (.ref 264), some (.int 2), some (.int 3), some (.int 11)]) (st' := [.int 0]) rfl ?_
              refine g_ret (ins := .ireturn) (len := 1) (r := (some (.int 0))) rfl rfl rfl ?_
              refine g_n 12 (pc' := 16) (L' := [some (.ref 248), some (.int 0), some (.int 3)]) (st' := [.int 3, .int 3, .ref 264, .int 0]) rfl ?_
              refine g_call (ins := .invokevirtual 95) (len := 3) (j := 263) (as := [.ref 264, .int 3, .int 3]) (rest := [.int 0]) rfl rfl rfl rfl (fun _ => rfl) rfl ?_
              refine g_in (M := x_M263) (L := [some (.ref 264), some (.int 3), some (.int 3), none]) x_pl263 rfl ?_
              refine g_n 30 (pc' := 55) (L' := [some (.ref 264), some (.int 3), some (.int 3), some (.int 15)]) (st' := [.int 15, .ref 265]) rfl ?_
              refine g_la (i := 15) (a := 265) (n := 16) (v := 0) rfl rfl (by decide) (x_at (x_f265 hF) (k := 15) rfl) ?_
              refine g_n 2 (pc' := 61) (L' := [some (.ref 264), some (.int 3), some (.int 3), some (.int 15)]) (st' := [.int 0]) rfl ?_
              refine g_ret (ins := .ireturn) (len := 1) (r := (some (.int 0))) rfl rfl rfl ?_
              refine g_n 8 (pc' := 28) (L' := [some (.ref 248), some (.int 0), some (.int 4)]) (st' := [.int 0]) rfl ?_
              refine g_ret (ins := .ireturn) (len := 1) (r := (some (.int 0))) rfl rfl rfl ?_
              refine g_ret (ins := .ireturn) (len := 1) (r := (some (.int 0))) rfl rfl rfl ?_
              refine ⟨⟨_, rfl⟩, ?_⟩
              refine g_in (M := x_M750) (L := [some (.ref 281), some (.int 3)]) x_pl750 rfl ?_
              refine g_n 4 (pc' := 59) (L' := [some (.ref 281), some (.int 3)]) (st' := [.int 0]) rfl ?_
              exact g_ret (ins := .ireturn) (len := 1) (r := (some (.int 0))) rfl rfl rfl ⟨_, rfl, rfl, (x_sv_rf _)⟩
            · have q21 : ¬ a = 3 := h19
              have p22 : 4 ≤ a.toInt := x_lo_ne q21 p18 (by decide)
              by_cases h23 : a = 4
              · have e24 : a = 4 := h23
                subst e24
                refine g_n 4 (pc' := 79) (L' := [some (.ref 0), some (.int 4)]) (st' := [.int 0]) rfl ?_
                refine g_ret (ins := .ireturn) (len := 1) (r := (some (.int 0))) rfl rfl rfl ?_
                refine ⟨⟨_, rfl⟩, ?_⟩
                refine g_in (M := x_M750) (L := [some (.ref 281), some (.int 4)]) x_pl750 rfl ?_
                refine g_n 4 (pc' := 64) (L' := [some (.ref 281), some (.int 4)]) (st' := [.int 0]) rfl ?_
                exact g_ret (ins := .ireturn) (len := 1) (r := (some (.int 0))) rfl rfl rfl ⟨_, rfl, rfl, (x_sv_rf _)⟩
              · have q25 : ¬ a = 4 := h23
                have p26 : 5 ≤ a.toInt := x_lo_ne q25 p22 (by decide)
                have e27 : a = 5 := x_sing p26 p6 (by decide)
                subst e27
                refine g_n 4 (pc' := 87) (L' := [some (.ref 0), some (.int 5)]) (st' := [.int 0]) rfl ?_
                refine g_ret (ins := .ireturn) (len := 1) (r := (some (.int 0))) rfl rfl rfl ?_
                refine ⟨⟨_, rfl⟩, ?_⟩
                refine g_in (M := x_M750) (L := [some (.ref 281), some (.int 5)]) x_pl750 rfl ?_
                refine g_n 4 (pc' := 69) (L' := [some (.ref 281), some (.int 5)]) (st' := [.int 0]) rfl ?_
                exact g_ret (ins := .ireturn) (len := 1) (r := (some (.int 0))) rfl rfl rfl ⟨_, rfl, rfl, (x_sv_rf _)⟩
