/-! First calls on the fresh objects. -/
set_option maxRecDepth 100000 in
set_option maxHeartbeats 4000000 in
theorem x_op37 {fi : Nat → Nat → Int32} {fl : Nat → Nat → Int64} {fr : Nat → Nat → Option Nat} (hF : x_F fl fr) (a b : Int32) : x_ev 30 397 [.ref 0, .int a, .int b] (x_W fi fl fr) fun r S1 => (∃ fs, x_obj S1 281 = some (12, fs)) ∧ x_ev 30 724 [.ref 281, .int a, .int b] S1 (x_finI (x_W fi fl fr) r) := by
  refine g_in (M := x_M397) (L := [some (.ref 0), some (.int a), some (.int b)]) x_pl397 rfl ?_
  refine g_n 3 (pc' := 5) (L' := [some (.ref 0), some (.int a), some (.int b)]) (st' := [.int a, .ref 248]) rfl ?_
  refine g_call (ins := .invokevirtual 441) (len := 3) (j := 80) (as := [.ref 248, .int a]) (rest := []) rfl rfl rfl rfl (fun _ => rfl) rfl ?_
  refine g_in (M := x_M80) (L := [some (.ref 248), some (.int a)]) x_pl80 rfl ?_
  refine g_n 1 (pc' := 1) (L' := [some (.ref 248), some (.int a)]) (st' := [.int a]) rfl ?_
  refine g_br (c := a < (0 : Int32)) (t := 16) (f := 4) (L' := [some (.ref 248), some (.int a)]) (st' := []) rfl (fun h1 => ?_) (fun h1 => ?_)
  · have p2 : a.toInt ≤ -1 := x_up_lt h1 (by decide)
    refine g_n 1 (pc' := 17) (L' := [some (.ref 248), some (.int a)]) (st' := [.int 0]) rfl ?_
    refine g_ret (ins := .ireturn) (len := 1) (r := (some (.int 0))) rfl rfl rfl ?_
    refine g_n 2 (pc' := 16) (L' := [some (.ref 0), some (.int a), some (.int b)]) (st' := [.int (-1)]) rfl ?_
    refine g_ret (ins := .ireturn) (len := 1) (r := (some (.int (-1)))) rfl rfl rfl ?_
    refine ⟨⟨_, rfl⟩, ?_⟩
    refine g_in (M := x_M724) (L := [some (.ref 281), some (.int a), some (.int b)]) x_pl724 rfl ?_
    refine g_n 1 (pc' := 1) (L' := [some (.ref 281), some (.int a), some (.int b)]) (st' := [.int a]) rfl ?_
    refine g_brT (c := a < (0 : Int32)) (t := 16) (f := 4) (L' := [some (.ref 281), some (.int a), some (.int b)]) (st' := []) rfl (x_Tlt (u := -1) (l := 0) p2 (by decide) (by decide)) ?_
    refine g_n 1 (pc' := 17) (L' := [some (.ref 281), some (.int a), some (.int b)]) (st' := [.int (-1)]) rfl ?_
    exact g_ret (ins := .ireturn) (len := 1) (r := (some (.int (-1)))) rfl rfl rfl ⟨_, rfl, rfl, (x_sv_rf _)⟩
  · have p3 : 0 ≤ a.toInt := x_lo_le (x_nlt h1) (by decide)
    refine g_n 3 (pc' := 9) (L' := [some (.ref 248), some (.int a)]) (st' := [.int 0, .int a]) rfl ?_
    refine g_brT (c := (0 : Int32) ≤ a) (t := 16) (f := 12) (L' := [some (.ref 248), some (.int a)]) (st' := []) rfl (x_Tle (u := 0) (l := 0) (by decide) p3 (by decide)) ?_
    refine g_n 1 (pc' := 17) (L' := [some (.ref 248), some (.int a)]) (st' := [.int 0]) rfl ?_
    refine g_ret (ins := .ireturn) (len := 1) (r := (some (.int 0))) rfl rfl rfl ?_
    refine g_n 2 (pc' := 16) (L' := [some (.ref 0), some (.int a), some (.int b)]) (st' := [.int (-1)]) rfl ?_
    refine g_ret (ins := .ireturn) (len := 1) (r := (some (.int (-1)))) rfl rfl rfl ?_
    refine ⟨⟨_, rfl⟩, ?_⟩
    refine g_in (M := x_M724) (L := [some (.ref 281), some (.int a), some (.int b)]) x_pl724 rfl ?_
    refine g_n 1 (pc' := 1) (L' := [some (.ref 281), some (.int a), some (.int b)]) (st' := [.int a]) rfl ?_
    refine g_brF (c := a < (0 : Int32)) (t := 16) (f := 4) (L' := [some (.ref 281), some (.int a), some (.int b)]) (st' := []) rfl (x_Flt (l := 0) (u := 0) p3 (by decide) (by decide)) ?_
    refine g_n 3 (pc' := 9) (L' := [some (.ref 281), some (.int a), some (.int b)]) (st' := [.int 0, .int a]) rfl ?_
    refine g_brT (c := (0 : Int32) ≤ a) (t := 16) (f := 12) (L' := [some (.ref 281), some (.int a), some (.int b)]) (st' := []) rfl (x_Tle (u := 0) (l := 0) (by decide) p3 (by decide)) ?_
    refine g_n 1 (pc' := 17) (L' := [some (.ref 281), some (.int a), some (.int b)]) (st' := [.int (-1)]) rfl ?_
    exact g_ret (ins := .ireturn) (len := 1) (r := (some (.int (-1)))) rfl rfl rfl ⟨_, rfl, rfl, (x_sv_rf _)⟩
set_option maxRecDepth 100000 in
set_option maxHeartbeats 4000000 in
theorem x_op38 {fi : Nat → Nat → Int32} {fl : Nat → Nat → Int64} {fr : Nat → Nat → Option Nat} (hF : x_F fl fr) (a : Int32) : x_ev 30 398 [.ref 0, .int a] (x_W fi fl fr) fun r S1 => (∃ fs, x_obj S1 281 = some (12, fs)) ∧ x_ev 30 729 [.ref 281, .int a] S1 (x_finI (x_W fi fl fr) r) := by
  refine g_in (M := x_M398) (L := [some (.ref 0), some (.int a), none, none]) x_pl398 rfl ?_
  refine g_n 3 (pc' := 5) (L' := [some (.ref 0), some (.int a), none, none]) (st' := [.int a, .ref 248]) rfl ?_
  refine g_call (ins := .invokevirtual 441) (len := 3) (j := 80) (as := [.ref 248, .int a]) (rest := []) rfl rfl rfl rfl (fun _ => rfl) rfl ?_
  refine g_in (M := x_M80) (L := [some (.ref 248), some (.int a)]) x_pl80 rfl ?_
  refine g_n 1 (pc' := 1) (L' := [some (.ref 248), some (.int a)]) (st' := [.int a]) rfl ?_
  refine g_br (c := a < (0 : Int32)) (t := 16) (f := 4) (L' := [some (.ref 248), some (.int a)]) (st' := []) rfl (fun h1 => ?_) (fun h1 => ?_)
  · have p2 : a.toInt ≤ -1 := x_up_lt h1 (by decide)
    refine g_n 1 (pc' := 17) (L' := [some (.ref 248), some (.int a)]) (st' := [.int 0]) rfl ?_
    refine g_ret (ins := .ireturn) (len := 1) (r := (some (.int 0))) rfl rfl rfl ?_
    refine g_n 2 (pc' := 12) (L' := [some (.ref 0), some (.int a), none, none]) (st' := [.int (-1)]) rfl ?_
    refine g_ret (ins := .ireturn) (len := 1) (r := (some (.int (-1)))) rfl rfl rfl ?_
    refine ⟨⟨_, rfl⟩, ?_⟩
    refine g_in (M := x_M729) (L := [some (.ref 281), some (.int a), none, none, none, none, none, none]) x_pl729 rfl ?_
    refine g_n 1 (pc' := 1) (L' := [some (.ref 281), some (.int a), none, none, none, none, none, none]) (st' := [.int a]) rfl ?_
    refine g_brT (c := a < (0 : Int32)) (t := 12) (f := 4) (L' := [some (.ref 281), some (.int a), none, none, none, none, none, none]) (st' := []) rfl (x_Tlt (u := -1) (l := 0) p2 (by decide) (by decide)) ?_
    refine g_n 1 (pc' := 13) (L' := [some (.ref 281), some (.int a), none, none, none, none, none, none]) (st' := [.int (-1)]) rfl ?_
    exact g_ret (ins := .ireturn) (len := 1) (r := (some (.int (-1)))) rfl rfl rfl ⟨_, rfl, rfl, (x_sv_rf _)⟩
  · have p3 : 0 ≤ a.toInt := x_lo_le (x_nlt h1) (by decide)
    refine g_n 3 (pc' := 9) (L' := [some (.ref 248), some (.int a)]) (st' := [.int 0, .int a]) rfl ?_
    refine g_brT (c := (0 : Int32) ≤ a) (t := 16) (f := 12) (L' := [some (.ref 248), some (.int a)]) (st' := []) rfl (x_Tle (u := 0) (l := 0) (by decide) p3 (by decide)) ?_
    refine g_n 1 (pc' := 17) (L' := [some (.ref 248), some (.int a)]) (st' := [.int 0]) rfl ?_
    refine g_ret (ins := .ireturn) (len := 1) (r := (some (.int 0))) rfl rfl rfl ?_
    refine g_n 2 (pc' := 12) (L' := [some (.ref 0), some (.int a), none, none]) (st' := [.int (-1)]) rfl ?_
    refine g_ret (ins := .ireturn) (len := 1) (r := (some (.int (-1)))) rfl rfl rfl ?_
    refine ⟨⟨_, rfl⟩, ?_⟩
    refine g_in (M := x_M729) (L := [some (.ref 281), some (.int a), none, none, none, none, none, none]) x_pl729 rfl ?_
    refine g_n 1 (pc' := 1) (L' := [some (.ref 281), some (.int a), none, none, none, none, none, none]) (st' := [.int a]) rfl ?_
    refine g_brF (c := a < (0 : Int32)) (t := 12) (f := 4) (L' := [some (.ref 281), some (.int a), none, none, none, none, none, none]) (st' := []) rfl (x_Flt (l := 0) (u := 0) p3 (by decide) (by decide)) ?_
    refine g_n 3 (pc' := 9) (L' := [some (.ref 281), some (.int a), none, none, none, none, none, none]) (st' := [.int 0, .int a]) rfl ?_
    refine g_brF (c := a < (0 : Int32)) (t := 14) (f := 12) (L' := [some (.ref 281), some (.int a), none, none, none, none, none, none]) (st' := []) rfl (x_Flt (l := 0) (u := 0) p3 (by decide) (by decide)) ?_
    refine g_n 1 (pc' := 13) (L' := [some (.ref 281), some (.int a), none, none, none, none, none, none]) (st' := [.int (-1)]) rfl ?_
    exact g_ret (ins := .ireturn) (len := 1) (r := (some (.int (-1)))) rfl rfl rfl ⟨_, rfl, rfl, (x_sv_rf _)⟩
set_option maxRecDepth 100000 in
set_option maxHeartbeats 4000000 in
theorem x_op39 {fi : Nat → Nat → Int32} {fl : Nat → Nat → Int64} {fr : Nat → Nat → Option Nat} (hF : x_F fl fr) (a : Int32) : x_ev 30 401 [.ref 0, .int a] (x_W fi fl fr) fun r S1 => (∃ fs, x_obj S1 281 = some (12, fs)) ∧ x_ev 30 727 [.ref 281, .int a] S1 (x_finI (x_W fi fl fr) r) := by
  refine g_in (M := x_M401) (L := [some (.ref 0), some (.int a)]) x_pl401 rfl ?_
  refine g_n 3 (pc' := 5) (L' := [some (.ref 0), some (.int a)]) (st' := [.int a, .ref 248]) rfl ?_
  refine g_call (ins := .invokevirtual 441) (len := 3) (j := 80) (as := [.ref 248, .int a]) (rest := []) rfl rfl rfl rfl (fun _ => rfl) rfl ?_
  refine g_in (M := x_M80) (L := [some (.ref 248), some (.int a)]) x_pl80 rfl ?_
  refine g_n 1 (pc' := 1) (L' := [some (.ref 248), some (.int a)]) (st' := [.int a]) rfl ?_
  refine g_br (c := a < (0 : Int32)) (t := 16) (f := 4) (L' := [some (.ref 248), some (.int a)]) (st' := []) rfl (fun h1 => ?_) (fun h1 => ?_)
  · have p2 : a.toInt ≤ -1 := x_up_lt h1 (by decide)
    refine g_n 1 (pc' := 17) (L' := [some (.ref 248), some (.int a)]) (st' := [.int 0]) rfl ?_
    refine g_ret (ins := .ireturn) (len := 1) (r := (some (.int 0))) rfl rfl rfl ?_
    refine g_n 2 (pc' := 12) (L' := [some (.ref 0), some (.int a)]) (st' := [.int (-1)]) rfl ?_
    refine g_ret (ins := .ireturn) (len := 1) (r := (some (.int (-1)))) rfl rfl rfl ?_
    refine ⟨⟨_, rfl⟩, ?_⟩
    refine g_in (M := x_M727) (L := [some (.ref 281), some (.int a)]) x_pl727 rfl ?_
    refine g_n 1 (pc' := 1) (L' := [some (.ref 281), some (.int a)]) (st' := [.int a]) rfl ?_
    refine g_brT (c := a < (0 : Int32)) (t := 12) (f := 4) (L' := [some (.ref 281), some (.int a)]) (st' := []) rfl (x_Tlt (u := -1) (l := 0) p2 (by decide) (by decide)) ?_
    refine g_n 1 (pc' := 13) (L' := [some (.ref 281), some (.int a)]) (st' := [.int (-1)]) rfl ?_
    exact g_ret (ins := .ireturn) (len := 1) (r := (some (.int (-1)))) rfl rfl rfl ⟨_, rfl, rfl, (x_sv_rf _)⟩
  · have p3 : 0 ≤ a.toInt := x_lo_le (x_nlt h1) (by decide)
    refine g_n 3 (pc' := 9) (L' := [some (.ref 248), some (.int a)]) (st' := [.int 0, .int a]) rfl ?_
    refine g_brT (c := (0 : Int32) ≤ a) (t := 16) (f := 12) (L' := [some (.ref 248), some (.int a)]) (st' := []) rfl (x_Tle (u := 0) (l := 0) (by decide) p3 (by decide)) ?_
    refine g_n 1 (pc' := 17) (L' := [some (.ref 248), some (.int a)]) (st' := [.int 0]) rfl ?_
    refine g_ret (ins := .ireturn) (len := 1) (r := (some (.int 0))) rfl rfl rfl ?_
    refine g_n 2 (pc' := 12) (L' := [some (.ref 0), some (.int a)]) (st' := [.int (-1)]) rfl ?_
    refine g_ret (ins := .ireturn) (len := 1) (r := (some (.int (-1)))) rfl rfl rfl ?_
    refine ⟨⟨_, rfl⟩, ?_⟩
    refine g_in (M := x_M727) (L := [some (.ref 281), some (.int a)]) x_pl727 rfl ?_
    refine g_n 1 (pc' := 1) (L' := [some (.ref 281), some (.int a)]) (st' := [.int a]) rfl ?_
    refine g_brF (c := a < (0 : Int32)) (t := 12) (f := 4) (L' := [some (.ref 281), some (.int a)]) (st' := []) rfl (x_Flt (l := 0) (u := 0) p3 (by decide) (by decide)) ?_
    refine g_n 3 (pc' := 9) (L' := [some (.ref 281), some (.int a)]) (st' := [.int 0, .int a]) rfl ?_
    refine g_brF (c := a < (0 : Int32)) (t := 14) (f := 12) (L' := [some (.ref 281), some (.int a)]) (st' := []) rfl (x_Flt (l := 0) (u := 0) p3 (by decide) (by decide)) ?_
    refine g_n 1 (pc' := 13) (L' := [some (.ref 281), some (.int a)]) (st' := [.int (-1)]) rfl ?_
    exact g_ret (ins := .ireturn) (len := 1) (r := (some (.int (-1)))) rfl rfl rfl ⟨_, rfl, rfl, (x_sv_rf _)⟩
set_option maxRecDepth 100000 in
set_option maxHeartbeats 4000000 in
theorem x_op40 {fi : Nat → Nat → Int32} {fl : Nat → Nat → Int64} {fr : Nat → Nat → Option Nat} (hF : x_F fl fr) (a : Int32) : x_ev 30 402 [.ref 0, .int a] (x_W fi fl fr) fun r S1 => (∃ fs, x_obj S1 281 = some (12, fs)) ∧ x_ev 30 728 [.ref 281, .int a] S1 (x_finI (x_W fi fl fr) r) := by
  refine g_in (M := x_M402) (L := [some (.ref 0), some (.int a)]) x_pl402 rfl ?_
  refine g_n 3 (pc' := 5) (L' := [some (.ref 0), some (.int a)]) (st' := [.int a, .ref 248]) rfl ?_
  refine g_call (ins := .invokevirtual 441) (len := 3) (j := 80) (as := [.ref 248, .int a]) (rest := []) rfl rfl rfl rfl (fun _ => rfl) rfl ?_
  refine g_in (M := x_M80) (L := [some (.ref 248), some (.int a)]) x_pl80 rfl ?_
  refine g_n 1 (pc' := 1) (L' := [some (.ref 248), some (.int a)]) (st' := [.int a]) rfl ?_
  refine g_br (c := a < (0 : Int32)) (t := 16) (f := 4) (L' := [some (.ref 248), some (.int a)]) (st' := []) rfl (fun h1 => ?_) (fun h1 => ?_)
  · have p2 : a.toInt ≤ -1 := x_up_lt h1 (by decide)
    refine g_n 1 (pc' := 17) (L' := [some (.ref 248), some (.int a)]) (st' := [.int 0]) rfl ?_
    refine g_ret (ins := .ireturn) (len := 1) (r := (some (.int 0))) rfl rfl rfl ?_
    refine g_n 2 (pc' := 12) (L' := [some (.ref 0), some (.int a)]) (st' := [.int (-1)]) rfl ?_
    refine g_ret (ins := .ireturn) (len := 1) (r := (some (.int (-1)))) rfl rfl rfl ?_
    refine ⟨⟨_, rfl⟩, ?_⟩
    refine g_in (M := x_M728) (L := [some (.ref 281), some (.int a)]) x_pl728 rfl ?_
    refine g_n 1 (pc' := 1) (L' := [some (.ref 281), some (.int a)]) (st' := [.int a]) rfl ?_
    refine g_brT (c := a < (0 : Int32)) (t := 12) (f := 4) (L' := [some (.ref 281), some (.int a)]) (st' := []) rfl (x_Tlt (u := -1) (l := 0) p2 (by decide) (by decide)) ?_
    refine g_n 1 (pc' := 13) (L' := [some (.ref 281), some (.int a)]) (st' := [.int (-1)]) rfl ?_
    exact g_ret (ins := .ireturn) (len := 1) (r := (some (.int (-1)))) rfl rfl rfl ⟨_, rfl, rfl, (x_sv_rf _)⟩
  · have p3 : 0 ≤ a.toInt := x_lo_le (x_nlt h1) (by decide)
    refine g_n 3 (pc' := 9) (L' := [some (.ref 248), some (.int a)]) (st' := [.int 0, .int a]) rfl ?_
    refine g_brT (c := (0 : Int32) ≤ a) (t := 16) (f := 12) (L' := [some (.ref 248), some (.int a)]) (st' := []) rfl (x_Tle (u := 0) (l := 0) (by decide) p3 (by decide)) ?_
    refine g_n 1 (pc' := 17) (L' := [some (.ref 248), some (.int a)]) (st' := [.int 0]) rfl ?_
    refine g_ret (ins := .ireturn) (len := 1) (r := (some (.int 0))) rfl rfl rfl ?_
    refine g_n 2 (pc' := 12) (L' := [some (.ref 0), some (.int a)]) (st' := [.int (-1)]) rfl ?_
    refine g_ret (ins := .ireturn) (len := 1) (r := (some (.int (-1)))) rfl rfl rfl ?_
    refine ⟨⟨_, rfl⟩, ?_⟩
    refine g_in (M := x_M728) (L := [some (.ref 281), some (.int a)]) x_pl728 rfl ?_
    refine g_n 1 (pc' := 1) (L' := [some (.ref 281), some (.int a)]) (st' := [.int a]) rfl ?_
    refine g_brF (c := a < (0 : Int32)) (t := 12) (f := 4) (L' := [some (.ref 281), some (.int a)]) (st' := []) rfl (x_Flt (l := 0) (u := 0) p3 (by decide) (by decide)) ?_
    refine g_n 3 (pc' := 9) (L' := [some (.ref 281), some (.int a)]) (st' := [.int 0, .int a]) rfl ?_
    refine g_brF (c := a < (0 : Int32)) (t := 14) (f := 12) (L' := [some (.ref 281), some (.int a)]) (st' := []) rfl (x_Flt (l := 0) (u := 0) p3 (by decide) (by decide)) ?_
    refine g_n 1 (pc' := 13) (L' := [some (.ref 281), some (.int a)]) (st' := [.int (-1)]) rfl ?_
    exact g_ret (ins := .ireturn) (len := 1) (r := (some (.int (-1)))) rfl rfl rfl ⟨_, rfl, rfl, (x_sv_rf _)⟩
set_option maxRecDepth 100000 in
set_option maxHeartbeats 4000000 in
theorem x_op41 {fi : Nat → Nat → Int32} {fl : Nat → Nat → Int64} {fr : Nat → Nat → Option Nat} (hF : x_F fl fr) (a : Int32) : x_ev 30 403 [.ref 0, .int a] (x_W fi fl fr) fun r S1 => (∃ fs, x_obj S1 281 = some (12, fs)) ∧ x_ev 30 743 [.ref 281, .int a] S1 (x_finI (x_W fi fl fr) r) := by
  refine g_in (M := x_M403) (L := [some (.ref 0), some (.int a), none]) x_pl403 rfl ?_
  refine g_n 2 (pc' := 2) (L' := [some (.ref 0), some (.int a), none]) (st' := [.int 1, .int a]) rfl ?_
  refine g_br (c := a < (1 : Int32)) (t := 11) (f := 5) (L' := [some (.ref 0), some (.int a), none]) (st' := []) rfl (fun h1 => ?_) (fun h1 => ?_)
  · have p2 : a.toInt ≤ 0 := x_up_lt h1 (by decide)
    refine g_n 1 (pc' := 12) (L' := [some (.ref 0), some (.int a), none]) (st' := [.int (-1)]) rfl ?_
    refine g_ret (ins := .ireturn) (len := 1) (r := (some (.int (-1)))) rfl rfl rfl ?_
    refine ⟨⟨_, rfl⟩, ?_⟩
    refine g_in (M := x_M743) (L := [some (.ref 281), some (.int a), none, none, none, none]) x_pl743 rfl ?_
    refine g_n 2 (pc' := 2) (L' := [some (.ref 281), some (.int a), none, none, none, none]) (st' := [.int 1, .int a]) rfl ?_
    refine g_brT (c := a < (1 : Int32)) (t := 11) (f := 5) (L' := [some (.ref 281), some (.int a), none, none, none, none]) (st' := []) rfl (x_Tlt (u := 0) (l := 1) p2 (by decide) (by decide)) ?_
    refine g_n 1 (pc' := 12) (L' := [some (.ref 281), some (.int a), none, none, none, none]) (st' := [.int (-1)]) rfl ?_
    exact g_ret (ins := .ireturn) (len := 1) (r := (some (.int (-1)))) rfl rfl rfl ⟨_, rfl, rfl, (x_sv_rf _)⟩
  · have p3 : 1 ≤ a.toInt := x_lo_le (x_nlt h1) (by decide)
    refine g_n 2 (pc' := 8) (L' := [some (.ref 0), some (.int a), none]) (st' := [.int 100, .int a]) rfl ?_
    refine g_br (c := a ≤ (100 : Int32)) (t := 13) (f := 11) (L' := [some (.ref 0), some (.int a), none]) (st' := []) rfl (fun h4 => ?_) (fun h4 => ?_)
    · have p5 : a.toInt ≤ 100 := x_up_le h4 (by decide)
      refine g_n 2 (pc' := 17) (L' := [some (.ref 0), some (.int a), none]) (st' := [.ref 248]) rfl ?_
      refine g_call (ins := .invokevirtual 410) (len := 3) (j := 70) (as := [.ref 248]) (rest := []) rfl rfl rfl rfl (fun _ => rfl) rfl ?_
      refine g_in (M := x_M70) (L := [some (.ref 248)]) x_pl70 rfl ?_
      refine g_n 4 (pc' := 12) (L' := [some (.ref 248)]) (st' := [.int 0]) rfl ?_
      refine g_ret (ins := .ireturn) (len := 1) (r := (some (.int 0))) rfl rfl rfl ?_
      refine g_n 2 (pc' := 25) (L' := [some (.ref 0), some (.int a), none]) (st' := [.int (-2)]) rfl ?_
      refine g_ret (ins := .ireturn) (len := 1) (r := (some (.int (-2)))) rfl rfl rfl ?_
      refine ⟨⟨_, rfl⟩, ?_⟩
      refine g_in (M := x_M743) (L := [some (.ref 281), some (.int a), none, none, none, none]) x_pl743 rfl ?_
      refine g_n 2 (pc' := 2) (L' := [some (.ref 281), some (.int a), none, none, none, none]) (st' := [.int 1, .int a]) rfl ?_
      refine g_brF (c := a < (1 : Int32)) (t := 11) (f := 5) (L' := [some (.ref 281), some (.int a), none, none, none, none]) (st' := []) rfl (x_Flt (l := 1) (u := 1) p3 (by decide) (by decide)) ?_
      refine g_n 2 (pc' := 8) (L' := [some (.ref 281), some (.int a), none, none, none, none]) (st' := [.int 100, .int a]) rfl ?_
      refine g_brT (c := a ≤ (100 : Int32)) (t := 13) (f := 11) (L' := [some (.ref 281), some (.int a), none, none, none, none]) (st' := []) rfl (x_Tle (u := 100) (l := 100) p5 (by decide) (by decide)) ?_
      refine g_n 4 (pc' := 22) (L' := [some (.ref 281), some (.int a), none, none, none, none]) (st' := [.int (-2)]) rfl ?_
      exact g_ret (ins := .ireturn) (len := 1) (r := (some (.int (-2)))) rfl rfl rfl ⟨_, rfl, rfl, (x_sv_rf _)⟩
    · have p6 : 101 ≤ a.toInt := x_lo_lt (x_nle h4) (by decide)
      refine g_n 1 (pc' := 12) (L' := [some (.ref 0), some (.int a), none]) (st' := [.int (-1)]) rfl ?_
      refine g_ret (ins := .ireturn) (len := 1) (r := (some (.int (-1)))) rfl rfl rfl ?_
      refine ⟨⟨_, rfl⟩, ?_⟩
      refine g_in (M := x_M743) (L := [some (.ref 281), some (.int a), none, none, none, none]) x_pl743 rfl ?_
      refine g_n 2 (pc' := 2) (L' := [some (.ref 281), some (.int a), none, none, none, none]) (st' := [.int 1, .int a]) rfl ?_
      refine g_brF (c := a < (1 : Int32)) (t := 11) (f := 5) (L' := [some (.ref 281), some (.int a), none, none, none, none]) (st' := []) rfl (x_Flt (l := 101) (u := 1) p6 (by decide) (by decide)) ?_
      refine g_n 2 (pc' := 8) (L' := [some (.ref 281), some (.int a), none, none, none, none]) (st' := [.int 100, .int a]) rfl ?_
      refine g_brF (c := a ≤ (100 : Int32)) (t := 13) (f := 11) (L' := [some (.ref 281), some (.int a), none, none, none, none]) (st' := []) rfl (x_Fle (l := 101) (u := 100) p6 (by decide) (by decide)) ?_
      refine g_n 1 (pc' := 12) (L' := [some (.ref 281), some (.int a), none, none, none, none]) (st' := [.int (-1)]) rfl ?_
      exact g_ret (ins := .ireturn) (len := 1) (r := (some (.int (-1)))) rfl rfl rfl ⟨_, rfl, rfl, (x_sv_rf _)⟩
set_option maxRecDepth 100000 in
set_option maxHeartbeats 4000000 in
theorem x_op42 {fi : Nat → Nat → Int32} {fl : Nat → Nat → Int64} {fr : Nat → Nat → Option Nat} (hF : x_F fl fr) (a b c : Int32) : x_ev 30 404 [.ref 0, .int a, .int b, .int c] (x_W fi fl fr) fun r S1 => (∃ fs, x_obj S1 281 = some (12, fs)) ∧ x_ev 30 745 [.ref 281, .int a, .int b, .int c] S1 (x_finI (x_W fi fl fr) r) := by
  refine g_in (M := x_M404) (L := [some (.ref 0), some (.int a), some (.int b), some (.int c)]) x_pl404 rfl ?_
  refine g_n 1 (pc' := 1) (L' := [some (.ref 0), some (.int a), some (.int b), some (.int c)]) (st' := [.int a]) rfl ?_
  refine g_call (ins := .invokestatic 407) (len := 3) (j := 350) (as := [.int a]) (rest := []) rfl rfl rfl rfl (fun _ => rfl) rfl ?_
  refine g_in (M := x_M350) (L := [some (.int a)]) x_pl350 rfl ?_
  refine g_n 1 (pc' := 1) (L' := [some (.int a)]) (st' := [.int a]) rfl ?_
  refine g_br (c := a < (0 : Int32)) (t := 13) (f := 4) (L' := [some (.int a)]) (st' := []) rfl (fun h1 => ?_) (fun h1 => ?_)
  · have p2 : a.toInt ≤ -1 := x_up_lt h1 (by decide)
    refine g_n 1 (pc' := 14) (L' := [some (.int a)]) (st' := [.int 0]) rfl ?_
    refine g_ret (ins := .ireturn) (len := 1) (r := (some (.int 0))) rfl rfl rfl ?_
    refine g_n 2 (pc' := 29) (L' := [some (.ref 0), some (.int a), some (.int b), some (.int c)]) (st' := [.int (-1)]) rfl ?_
    refine g_ret (ins := .ireturn) (len := 1) (r := (some (.int (-1)))) rfl rfl rfl ?_
    refine ⟨⟨_, rfl⟩, ?_⟩
    refine g_in (M := x_M745) (L := [some (.ref 281), some (.int a), some (.int b), some (.int c), none]) x_pl745 rfl ?_
    refine g_n 3 (pc' := 3) (L' := [some (.ref 281), some (.int a), some (.int b), some (.int c), none]) (st' := [.int b, .int a, .ref 281]) rfl ?_
    refine g_call (ins := .invokevirtual 2006) (len := 3) (j := 744) (as := [.ref 281, .int a, .int b]) (rest := []) rfl rfl rfl rfl (fun _ => rfl) rfl ?_
    refine g_in (M := x_M744) (L := [some (.ref 281), some (.int a), some (.int b)]) x_pl744 rfl ?_
    refine g_n 1 (pc' := 1) (L' := [some (.ref 281), some (.int a), some (.int b)]) (st' := [.int a]) rfl ?_
    refine g_brT (c := a < (0 : Int32)) (t := 45) (f := 4) (L' := [some (.ref 281), some (.int a), some (.int b)]) (st' := []) rfl (x_Tlt (u := -1) (l := 0) p2 (by decide) (by decide)) ?_
    refine g_n 1 (pc' := 47) (L' := [some (.ref 281), some (.int a), some (.int b)]) (st' := [.int (-2)]) rfl ?_
    refine g_ret (ins := .ireturn) (len := 1) (r := (some (.int (-2)))) rfl rfl rfl ?_
    refine g_n 4 (pc' := 23) (L' := [some (.ref 281), some (.int a), some (.int b), some (.int c), some (.int (-2))]) (st' := [.int (-1)]) rfl ?_
    exact g_ret (ins := .ireturn) (len := 1) (r := (some (.int (-1)))) rfl rfl rfl ⟨_, rfl, rfl, (x_sv_rf _)⟩
  · have p3 : 0 ≤ a.toInt := x_lo_le (x_nlt h1) (by decide)
    refine g_n 2 (pc' := 6) (L' := [some (.int a)]) (st' := [.int 3, .int a]) rfl ?_
    refine g_br (c := (3 : Int32) ≤ a) (t := 13) (f := 9) (L' := [some (.int a)]) (st' := []) rfl (fun h4 => ?_) (fun h4 => ?_)
    · have p5 : 3 ≤ a.toInt := x_lo_le h4 (by decide)
      refine g_n 1 (pc' := 14) (L' := [some (.int a)]) (st' := [.int 0]) rfl ?_
      refine g_ret (ins := .ireturn) (len := 1) (r := (some (.int 0))) rfl rfl rfl ?_
      refine g_n 2 (pc' := 29) (L' := [some (.ref 0), some (.int a), some (.int b), some (.int c)]) (st' := [.int (-1)]) rfl ?_
      refine g_ret (ins := .ireturn) (len := 1) (r := (some (.int (-1)))) rfl rfl rfl ?_
      refine ⟨⟨_, rfl⟩, ?_⟩
      refine g_in (M := x_M745) (L := [some (.ref 281), some (.int a), some (.int b), some (.int c), none]) x_pl745 rfl ?_
      refine g_n 3 (pc' := 3) (L' := [some (.ref 281), some (.int a), some (.int b), some (.int c), none]) (st' := [.int b, .int a, .ref 281]) rfl ?_
      refine g_call (ins := .invokevirtual 2006) (len := 3) (j := 744) (as := [.ref 281, .int a, .int b]) (rest := []) rfl rfl rfl rfl (fun _ => rfl) rfl ?_
      refine g_in (M := x_M744) (L := [some (.ref 281), some (.int a), some (.int b)]) x_pl744 rfl ?_
      refine g_n 1 (pc' := 1) (L' := [some (.ref 281), some (.int a), some (.int b)]) (st' := [.int a]) rfl ?_
      refine g_brF (c := a < (0 : Int32)) (t := 45) (f := 4) (L' := [some (.ref 281), some (.int a), some (.int b)]) (st' := []) rfl (x_Flt (l := 3) (u := 0) p5 (by decide) (by decide)) ?_
      refine g_n 2 (pc' := 6) (L' := [some (.ref 281), some (.int a), some (.int b)]) (st' := [.int 2, .int a]) rfl ?_
      refine g_brT (c := (2 : Int32) < a) (t := 45) (f := 9) (L' := [some (.ref 281), some (.int a), some (.int b)]) (st' := []) rfl (x_Tlt (u := 2) (l := 3) (by decide) p5 (by decide)) ?_
      refine g_n 1 (pc' := 47) (L' := [some (.ref 281), some (.int a), some (.int b)]) (st' := [.int (-2)]) rfl ?_
      refine g_ret (ins := .ireturn) (len := 1) (r := (some (.int (-2)))) rfl rfl rfl ?_
      refine g_n 4 (pc' := 23) (L' := [some (.ref 281), some (.int a), some (.int b), some (.int c), some (.int (-2))]) (st' := [.int (-1)]) rfl ?_
      exact g_ret (ins := .ireturn) (len := 1) (r := (some (.int (-1)))) rfl rfl rfl ⟨_, rfl, rfl, (x_sv_rf _)⟩
    · have p6 : a.toInt ≤ 2 := x_up_lt (x_nle h4) (by decide)
      refine g_n 2 (pc' := 14) (L' := [some (.int a)]) (st' := [.int 1]) rfl ?_
      refine g_ret (ins := .ireturn) (len := 1) (r := (some (.int 1))) rfl rfl rfl ?_
      refine g_n 2 (pc' := 8) (L' := [some (.ref 0), some (.int a), some (.int b), some (.int c)]) (st' := [.int c]) rfl ?_
      refine g_br (c := c < (0 : Int32)) (t := 28) (f := 11) (L' := [some (.ref 0), some (.int a), some (.int b), some (.int c)]) (st' := []) rfl (fun h7 => ?_) (fun h7 => ?_)
      · have p8 : c.toInt ≤ -1 := x_up_lt h7 (by decide)
        refine g_n 1 (pc' := 29) (L' := [some (.ref 0), some (.int a), some (.int b), some (.int c)]) (st' := [.int (-1)]) rfl ?_
        refine g_ret (ins := .ireturn) (len := 1) (r := (some (.int (-1)))) rfl rfl rfl ?_
        refine ⟨⟨_, rfl⟩, ?_⟩
        refine g_in (M := x_M745) (L := [some (.ref 281), some (.int a), some (.int b), some (.int c), none]) x_pl745 rfl ?_
        refine g_n 3 (pc' := 3) (L' := [some (.ref 281), some (.int a), some (.int b), some (.int c), none]) (st' := [.int b, .int a, .ref 281]) rfl ?_
        refine g_call (ins := .invokevirtual 2006) (len := 3) (j := 744) (as := [.ref 281, .int a, .int b]) (rest := []) rfl rfl rfl rfl (fun _ => rfl) rfl ?_
        refine g_in (M := x_M744) (L := [some (.ref 281), some (.int a), some (.int b)]) x_pl744 rfl ?_
        refine g_n 1 (pc' := 1) (L' := [some (.ref 281), some (.int a), some (.int b)]) (st' := [.int a]) rfl ?_
        refine g_brF (c := a < (0 : Int32)) (t := 45) (f := 4) (L' := [some (.ref 281), some (.int a), some (.int b)]) (st' := []) rfl (x_Flt (l := 0) (u := 0) p3 (by decide) (by decide)) ?_
        refine g_n 2 (pc' := 6) (L' := [some (.ref 281), some (.int a), some (.int b)]) (st' := [.int 2, .int a]) rfl ?_
        refine g_brF (c := (2 : Int32) < a) (t := 45) (f := 9) (L' := [some (.ref 281), some (.int a), some (.int b)]) (st' := []) rfl (x_Flt (l := 2) (u := 2) (by decide) p6 (by decide)) ?_
        refine g_n 3 (pc' := 14) (L' := [some (.ref 281), some (.int a), some (.int b)]) (st' := [.int a, .ref 470]) rfl ?_
        by_cases h9 : a = 0
        · have e10 : a = 0 := h9
          subst e10
          refine g_n 3 (pc' := 47) (L' := [some (.ref 281), some (.int 0), some (.int b)]) (st' := [.int (-2)]) rfl ?_
          refine g_ret (ins := .ireturn) (len := 1) (r := (some (.int (-2)))) rfl rfl rfl ?_
          refine g_n 4 (pc' := 23) (L' := [some (.ref 281), some (.int 0), some (.int b), some (.int c), some (.int (-2))]) (st' := [.int (-1)]) rfl ?_
          exact g_ret (ins := .ireturn) (len := 1) (r := (some (.int (-1)))) rfl rfl rfl ⟨_, rfl, rfl, (x_sv_rf _)⟩
        · have q11 : ¬ a = 0 := h9
          have p12 : 1 ≤ a.toInt := x_lo_ne q11 p3 (by decide)
          by_cases h13 : a = 1
          · have e14 : a = 1 := h13
            subst e14
            refine g_n 3 (pc' := 47) (L' := [some (.ref 281), some (.int 1), some (.int b)]) (st' := [.int (-2)]) rfl ?_
            refine g_ret (ins := .ireturn) (len := 1) (r := (some (.int (-2)))) rfl rfl rfl ?_
            refine g_n 4 (pc' := 23) (L' := [some (.ref 281), some (.int 1), some (.int b), some (.int c), some (.int (-2))]) (st' := [.int (-1)]) rfl ?_
            exact g_ret (ins := .ireturn) (len := 1) (r := (some (.int (-1)))) rfl rfl rfl ⟨_, rfl, rfl, (x_sv_rf _)⟩
          · have q15 : ¬ a = 1 := h13
            have p16 : 2 ≤ a.toInt := x_lo_ne q15 p12 (by decide)
            have e17 : a = 2 := x_sing p16 p6 (by decide)
            subst e17
            refine g_n 3 (pc' := 47) (L' := [some (.ref 281), some (.int 2), some (.int b)]) (st' := [.int (-2)]) rfl ?_
            refine g_ret (ins := .ireturn) (len := 1) (r := (some (.int (-2)))) rfl rfl rfl ?_
            refine g_n 4 (pc' := 23) (L' := [some (.ref 281), some (.int 2), some (.int b), some (.int c), some (.int (-2))]) (st' := [.int (-1)]) rfl ?_
            exact g_ret (ins := .ireturn) (len := 1) (r := (some (.int (-1)))) rfl rfl rfl ⟨_, rfl, rfl, (x_sv_rf _)⟩
      · have p18 : 0 ≤ c.toInt := x_lo_le (x_nlt h7) (by decide)
        refine g_n 2 (pc' := 13) (L' := [some (.ref 0), some (.int a), some (.int b), some (.int c)]) (st' := [.int 3, .int c]) rfl ?_
        refine g_br (c := (3 : Int32) < c) (t := 28) (f := 16) (L' := [some (.ref 0), some (.int a), some (.int b), some (.int c)]) (st' := []) rfl (fun h19 => ?_) (fun h19 => ?_)
        · have p20 : 4 ≤ c.toInt := x_lo_lt h19 (by decide)
          refine g_n 1 (pc' := 29) (L' := [some (.ref 0), some (.int a), some (.int b), some (.int c)]) (st' := [.int (-1)]) rfl ?_
          refine g_ret (ins := .ireturn) (len := 1) (r := (some (.int (-1)))) rfl rfl rfl ?_
          refine ⟨⟨_, rfl⟩, ?_⟩
          refine g_in (M := x_M745) (L := [some (.ref 281), some (.int a), some (.int b), some (.int c), none]) x_pl745 rfl ?_
          refine g_n 3 (pc' := 3) (L' := [some (.ref 281), some (.int a), some (.int b), some (.int c), none]) (st' := [.int b, .int a, .ref 281]) rfl ?_
          refine g_call (ins := .invokevirtual 2006) (len := 3) (j := 744) (as := [.ref 281, .int a, .int b]) (rest := []) rfl rfl rfl rfl (fun _ => rfl) rfl ?_
          refine g_in (M := x_M744) (L := [some (.ref 281), some (.int a), some (.int b)]) x_pl744 rfl ?_
          refine g_n 1 (pc' := 1) (L' := [some (.ref 281), some (.int a), some (.int b)]) (st' := [.int a]) rfl ?_
          refine g_brF (c := a < (0 : Int32)) (t := 45) (f := 4) (L' := [some (.ref 281), some (.int a), some (.int b)]) (st' := []) rfl (x_Flt (l := 0) (u := 0) p3 (by decide) (by decide)) ?_
          refine g_n 2 (pc' := 6) (L' := [some (.ref 281), some (.int a), some (.int b)]) (st' := [.int 2, .int a]) rfl ?_
          refine g_brF (c := (2 : Int32) < a) (t := 45) (f := 9) (L' := [some (.ref 281), some (.int a), some (.int b)]) (st' := []) rfl (x_Flt (l := 2) (u := 2) (by decide) p6 (by decide)) ?_
          refine g_n 3 (pc' := 14) (L' := [some (.ref 281), some (.int a), some (.int b)]) (st' := [.int a, .ref 470]) rfl ?_
          by_cases h21 : a = 0
          · have e22 : a = 0 := h21
            subst e22
            refine g_n 3 (pc' := 47) (L' := [some (.ref 281), some (.int 0), some (.int b)]) (st' := [.int (-2)]) rfl ?_
            refine g_ret (ins := .ireturn) (len := 1) (r := (some (.int (-2)))) rfl rfl rfl ?_
            refine g_n 4 (pc' := 23) (L' := [some (.ref 281), some (.int 0), some (.int b), some (.int c), some (.int (-2))]) (st' := [.int (-1)]) rfl ?_
            exact g_ret (ins := .ireturn) (len := 1) (r := (some (.int (-1)))) rfl rfl rfl ⟨_, rfl, rfl, (x_sv_rf _)⟩
          · have q23 : ¬ a = 0 := h21
            have p24 : 1 ≤ a.toInt := x_lo_ne q23 p3 (by decide)
            by_cases h25 : a = 1
            · have e26 : a = 1 := h25
              subst e26
              refine g_n 3 (pc' := 47) (L' := [some (.ref 281), some (.int 1), some (.int b)]) (st' := [.int (-2)]) rfl ?_
              refine g_ret (ins := .ireturn) (len := 1) (r := (some (.int (-2)))) rfl rfl rfl ?_
              refine g_n 4 (pc' := 23) (L' := [some (.ref 281), some (.int 1), some (.int b), some (.int c), some (.int (-2))]) (st' := [.int (-1)]) rfl ?_
              exact g_ret (ins := .ireturn) (len := 1) (r := (some (.int (-1)))) rfl rfl rfl ⟨_, rfl, rfl, (x_sv_rf _)⟩
            · have q27 : ¬ a = 1 := h25
              have p28 : 2 ≤ a.toInt := x_lo_ne q27 p24 (by decide)
              have e29 : a = 2 := x_sing p28 p6 (by decide)
              subst e29
              refine g_n 3 (pc' := 47) (L' := [some (.ref 281), some (.int 2), some (.int b)]) (st' := [.int (-2)]) rfl ?_
              refine g_ret (ins := .ireturn) (len := 1) (r := (some (.int (-2)))) rfl rfl rfl ?_
              refine g_n 4 (pc' := 23) (L' := [some (.ref 281), some (.int 2), some (.int b), some (.int c), some (.int (-2))]) (st' := [.int (-1)]) rfl ?_
              exact g_ret (ins := .ireturn) (len := 1) (r := (some (.int (-1)))) rfl rfl rfl ⟨_, rfl, rfl, (x_sv_rf _)⟩
        · have p30 : c.toInt ≤ 3 := x_up_le (x_nlt h19) (by decide)
          refine g_n 4 (pc' := 22) (L' := [some (.ref 0), some (.int a), some (.int b), some (.int c)]) (st' := [.int b, .int a, .ref 248]) rfl ?_
          refine g_call (ins := .invokevirtual 509) (len := 3) (j := 98) (as := [.ref 248, .int a, .int b]) (rest := []) rfl rfl rfl rfl (fun _ => rfl) rfl ?_
          refine g_in (M := x_M98) (L := [some (.ref 248), some (.int a), some (.int b), none]) x_pl98 rfl ?_
          refine g_n 5 (pc' := 7) (L' := [some (.ref 248), some (.int a), some (.int b), none]) (st' := [.int 3, .int a, .ref 255, .int b]) rfl ?_
          refine g_call (ins := .invokevirtual 95) (len := 3) (j := 263) (as := [.ref 255, .int a, .int 3]) (rest := [.int b]) rfl rfl rfl rfl (fun _ => rfl) rfl ?_
          refine g_in (M := x_M263) (L := [some (.ref 255), some (.int a), some (.int 3), none]) x_pl263 rfl ?_
          refine g_n 1 (pc' := 1) (L' := [some (.ref 255), some (.int a), some (.int 3), none]) (st' := [.int a]) rfl ?_
          refine g_brF (c := a < (0 : Int32)) (t := 35) (f := 4) (L' := [some (.ref 255), some (.int a), some (.int 3), none]) (st' := []) rfl (x_Flt (l := 0) (u := 0) p3 (by decide) (by decide)) ?_
          refine g_n 3 (pc' := 9) (L' := [some (.ref 255), some (.int a), some (.int 3), none]) (st' := [.int 3, .int a]) rfl ?_
          refine g_brF (c := (3 : Int32) ≤ a) (t := 35) (f := 12) (L' := [some (.ref 255), some (.int a), some (.int 3), none]) (st' := []) rfl (x_Fle (l := 3) (u := 2) (by decide) p6 (by decide)) ?_
          refine g_n 9 (pc' := 29) (L' := [some (.ref 255), some (.int a), some (.int 3), none]) (st' := [.int 6, .int a]) rfl ?_
          by_cases h31 : a = 0
          · have e32 : a = 0 := h31
            subst e32
            refine g_n 15 (pc' := 55) (L' := [some (.ref 255), some (.int 0), some (.int 3), some (.int 3)]) (st' := [.int 3, .ref 256]) rfl ?_
            refine g_la (i := 3) (a := 256) (n := 18) (v := 0) rfl rfl (by decide) (x_at (x_f256 hF) (k := 3) rfl) ?_
            refine g_n 2 (pc' := 61) (L' := [some (.ref 255), some (.int 0), some (.int 3), some (.int 3)]) (st' := [.int 0]) rfl ?_
            refine g_ret (ins := .ireturn) (len := 1) (r := (some (.int 0))) rfl rfl rfl ?_
            refine g_n 4 (pc' := 14) (L' := [some (.ref 248), some (.int 0), some (.int b), some (.int _)]) (st' := [.int 0, .ref 248]) rfl ?_
            refine g_call (ins := .invokevirtual 99) (len := 3) (j := 76) (as := [.ref 248, .int 0]) (rest := []) rfl rfl rfl rfl (fun _ => rfl) rfl ?_
            refine g_in (M := x_M76) (L := [some (.ref 248), some (.int 0)]) x_pl76 rfl ?_
            refine g_n 4 (pc' := 6) (L' := [some (.ref 248), some (.int 0)]) (st' := [.int 4, .int 0, .ref 255]) rfl ?_
            refine g_call (ins := .invokevirtual 95) (len := 3) (j := 263) (as := [.ref 255, .int 0, .int 4]) (rest := []) rfl rfl rfl rfl (fun _ => rfl) rfl ?_
            refine g_in (M := x_M263) (L := [some (.ref 255), some (.int 0), some (.int 4), none]) x_pl263 rfl ?_
            refine g_n 30 (pc' := 55) (L' := [some (.ref 255), some (.int 0), some (.int 4), some (.int 4)]) (st' := [.int 4, .ref 256]) rfl ?_
            refine g_la (i := 4) (a := 256) (n := 18) (v := 0) rfl rfl (by decide) (x_at (x_f256 hF) (k := 4) rfl) ?_
            refine g_n 2 (pc' := 61) (L' := [some (.ref 255), some (.int 0), some (.int 4), some (.int 4)]) (st' := [.int 0]) rfl ?_
            refine g_ret (ins := .ireturn) (len := 1) (r := (some (.int 0))) rfl rfl rfl ?_
            refine g_n 3 (pc' := 18) (L' := [some (.ref 248), some (.int 0)]) (st' := [.int 0]) rfl ?_
            refine g_ret (ins := .ireturn) (len := 1) (r := (some (.int 0))) rfl rfl rfl ?_
            refine g_n 2 (pc' := 47) (L' := [some (.ref 248), some (.int 0), some (.int b), some (.int _)]) (st' := [.int (-1)]) rfl ?_
            refine g_ret (ins := .ireturn) (len := 1) (r := (some (.int (-1)))) rfl rfl rfl ?_
            refine g_n 2 (pc' := 29) (L' := [some (.ref 0), some (.int 0), some (.int b), some (.int c)]) (st' := [.int (-1)]) rfl ?_
            refine g_ret (ins := .ireturn) (len := 1) (r := (some (.int (-1)))) rfl rfl rfl ?_
            refine ⟨⟨_, rfl⟩, ?_⟩
            refine g_in (M := x_M745) (L := [some (.ref 281), some (.int 0), some (.int b), some (.int c), none]) x_pl745 rfl ?_
            refine g_n 3 (pc' := 3) (L' := [some (.ref 281), some (.int 0), some (.int b), some (.int c), none]) (st' := [.int b, .int 0, .ref 281]) rfl ?_
            refine g_call (ins := .invokevirtual 2006) (len := 3) (j := 744) (as := [.ref 281, .int 0, .int b]) (rest := []) rfl rfl rfl rfl (fun _ => rfl) rfl ?_
            refine g_in (M := x_M744) (L := [some (.ref 281), some (.int 0), some (.int b)]) x_pl744 rfl ?_
            refine g_n 11 (pc' := 47) (L' := [some (.ref 281), some (.int 0), some (.int b)]) (st' := [.int (-2)]) rfl ?_
            refine g_ret (ins := .ireturn) (len := 1) (r := (some (.int (-2)))) rfl rfl rfl ?_
            refine g_n 4 (pc' := 23) (L' := [some (.ref 281), some (.int 0), some (.int b), some (.int c), some (.int (-2))]) (st' := [.int (-1)]) rfl ?_
            exact g_ret (ins := .ireturn) (len := 1) (r := (some (.int (-1)))) rfl rfl rfl ⟨_, rfl, rfl, (x_sv_rf _)⟩
          · have q33 : ¬ a = 0 := h31
            have p34 : 1 ≤ a.toInt := x_lo_ne q33 p3 (by decide)
            by_cases h35 : a = 1
            · have e36 : a = 1 := h35
              subst e36
              refine g_n 15 (pc' := 55) (L' := [some (.ref 255), some (.int 1), some (.int 3), some (.int 9)]) (st' := [.int 9, .ref 256]) rfl ?_
              refine g_la (i := 9) (a := 256) (n := 18) (v := 0) rfl rfl (by decide) (x_at (x_f256 hF) (k := 9) rfl) ?_
              refine g_n 2 (pc' := 61) (L' := [some (.ref 255), some (.int 1), some (.int 3), some (.int 9)]) (st' := [.int 0]) rfl ?_
              refine g_ret (ins := .ireturn) (len := 1) (r := (some (.int 0))) rfl rfl rfl ?_
              refine g_n 4 (pc' := 14) (L' := [some (.ref 248), some (.int 1), some (.int b), some (.int _)]) (st' := [.int 1, .ref 248]) rfl ?_
              refine g_call (ins := .invokevirtual 99) (len := 3) (j := 76) (as := [.ref 248, .int 1]) (rest := []) rfl rfl rfl rfl (fun _ => rfl) rfl ?_
              refine g_in (M := x_M76) (L := [some (.ref 248), some (.int 1)]) x_pl76 rfl ?_
              refine g_n 4 (pc' := 6) (L' := [some (.ref 248), some (.int 1)]) (st' := [.int 4, .int 1, .ref 255]) rfl ?_
              refine g_call (ins := .invokevirtual 95) (len := 3) (j := 263) (as := [.ref 255, .int 1, .int 4]) (rest := []) rfl rfl rfl rfl (fun _ => rfl) rfl ?_
              refine g_in (M := x_M263) (L := [some (.ref 255), some (.int 1), some (.int 4), none]) x_pl263 rfl ?_
              refine g_n 30 (pc' := 55) (L' := [some (.ref 255), some (.int 1), some (.int 4), some (.int 10)]) (st' := [.int 10, .ref 256]) rfl ?_
              refine g_la (i := 10) (a := 256) (n := 18) (v := 0) rfl rfl (by decide) (x_at (x_f256 hF) (k := 10) rfl) ?_
              refine g_n 2 (pc' := 61) (L' := [some (.ref 255), some (.int 1), some (.int 4), some (.int 10)]) (st' := [.int 0]) rfl ?_
              refine g_ret (ins := .ireturn) (len := 1) (r := (some (.int 0))) rfl rfl rfl ?_
              refine g_n 3 (pc' := 18) (L' := [some (.ref 248), some (.int 1)]) (st' := [.int 0]) rfl ?_
              refine g_ret (ins := .ireturn) (len := 1) (r := (some (.int 0))) rfl rfl rfl ?_
              refine g_n 2 (pc' := 47) (L' := [some (.ref 248), some (.int 1), some (.int b), some (.int _)]) (st' := [.int (-1)]) rfl ?_
              refine g_ret (ins := .ireturn) (len := 1) (r := (some (.int (-1)))) rfl rfl rfl ?_
              refine g_n 2 (pc' := 29) (L' := [some (.ref 0), some (.int 1), some (.int b), some (.int c)]) (st' := [.int (-1)]) rfl ?_
              refine g_ret (ins := .ireturn) (len := 1) (r := (some (.int (-1)))) rfl rfl rfl ?_
              refine ⟨⟨_, rfl⟩, ?_⟩
              refine g_in (M := x_M745) (L := [some (.ref 281), some (.int 1), some (.int b), some (.int c), none]) x_pl745 rfl ?_
              refine g_n 3 (pc' := 3) (L' := [some (.ref 281), some (.int 1), some (.int b), some (.int c), none]) (st' := [.int b, .int 1, .ref 281]) rfl ?_
              refine g_call (ins := .invokevirtual 2006) (len := 3) (j := 744) (as := [.ref 281, .int 1, .int b]) (rest := []) rfl rfl rfl rfl (fun _ => rfl) rfl ?_
              refine g_in (M := x_M744) (L := [some (.ref 281), some (.int 1), some (.int b)]) x_pl744 rfl ?_
              refine g_n 11 (pc' := 47) (L' := [some (.ref 281), some (.int 1), some (.int b)]) (st' := [.int (-2)]) rfl ?_
              refine g_ret (ins := .ireturn) (len := 1) (r := (some (.int (-2)))) rfl rfl rfl ?_
              refine g_n 4 (pc' := 23) (L' := [some (.ref 281), some (.int 1), some (.int b), some (.int c), some (.int (-2))]) (st' := [.int (-1)]) rfl ?_
              exact g_ret (ins := .ireturn) (len := 1) (r := (some (.int (-1)))) rfl rfl rfl ⟨_, rfl, rfl, (x_sv_rf _)⟩
            · have q37 : ¬ a = 1 := h35
              have p38 : 2 ≤ a.toInt := x_lo_ne q37 p34 (by decide)
              have e39 : a = 2 := x_sing p38 p6 (by decide)
              subst e39
              refine g_n 15 (pc' := 55) (L' := [some (.ref 255), some (.int 2), some (.int 3), some (.int 15)]) (st' := [.int 15, .ref 256]) rfl ?_
              refine g_la (i := 15) (a := 256) (n := 18) (v := 0) rfl rfl (by decide) (x_at (x_f256 hF) (k := 15) rfl) ?_
              refine g_n 2 (pc' := 61) (L' := [some (.ref 255), some (.int 2), some (.int 3), some (.int 15)]) (st' := [.int 0]) rfl ?_
              refine g_ret (ins := .ireturn) (len := 1) (r := (some (.int 0))) rfl rfl rfl ?_
              refine g_n 4 (pc' := 14) (L' := [some (.ref 248), some (.int 2), some (.int b), some (.int _)]) (st' := [.int 2, .ref 248]) rfl ?_
              refine g_call (ins := .invokevirtual 99) (len := 3) (j := 76) (as := [.ref 248, .int 2]) (rest := []) rfl rfl rfl rfl (fun _ => rfl) rfl ?_
              refine g_in (M := x_M76) (L := [some (.ref 248), some (.int 2)]) x_pl76 rfl ?_
              refine g_n 4 (pc' := 6) (L' := [some (.ref 248), some (.int 2)]) (st' := [.int 4, .int 2, .ref 255]) rfl ?_
              refine g_call (ins := .invokevirtual 95) (len := 3) (j := 263) (as := [.ref 255, .int 2, .int 4]) (rest := []) rfl rfl rfl rfl (fun _ => rfl) rfl ?_
              refine g_in (M := x_M263) (L := [some (.ref 255), some (.int 2), some (.int 4), none]) x_pl263 rfl ?_
              refine g_n 30 (pc' := 55) (L' := [some (.ref 255), some (.int 2), some (.int 4), some (.int 16)]) (st' := [.int 16, .ref 256]) rfl ?_
              refine g_la (i := 16) (a := 256) (n := 18) (v := 0) rfl rfl (by decide) (x_at (x_f256 hF) (k := 16) rfl) ?_
              refine g_n 2 (pc' := 61) (L' := [some (.ref 255), some (.int 2), some (.int 4), some (.int 16)]) (st' := [.int 0]) rfl ?_
              refine g_ret (ins := .ireturn) (len := 1) (r := (some (.int 0))) rfl rfl rfl ?_
              refine g_n 3 (pc' := 18) (L' := [some (.ref 248), some (.int 2)]) (st' := [.int 0]) rfl ?_
              refine g_ret (ins := .ireturn) (len := 1) (r := (some (.int 0))) rfl rfl rfl ?_
              refine g_n 2 (pc' := 47) (L' := [some (.ref 248), some (.int 2), some (.int b), some (.int _)]) (st' := [.int (-1)]) rfl ?_
              refine g_ret (ins := .ireturn) (len := 1) (r := (some (.int (-1)))) rfl rfl rfl ?_
              refine g_n 2 (pc' := 29) (L' := [some (.ref 0), some (.int 2), some (.int b), some (.int c)]) (st' := [.int (-1)]) rfl ?_
              refine g_ret (ins := .ireturn) (len := 1) (r := (some (.int (-1)))) rfl rfl rfl ?_
              refine ⟨⟨_, rfl⟩, ?_⟩
              refine g_in (M := x_M745) (L := [some (.ref 281), some (.int 2), some (.int b), some (.int c), none]) x_pl745 rfl ?_
              refine g_n 3 (pc' := 3) (L' := [some (.ref 281), some (.int 2), some (.int b), some (.int c), none]) (st' := [.int b, .int 2, .ref 281]) rfl ?_
              refine g_call (ins := .invokevirtual 2006) (len := 3) (j := 744) (as := [.ref 281, .int 2, .int b]) (rest := []) rfl rfl rfl rfl (fun _ => rfl) rfl ?_
              refine g_in (M := x_M744) (L := [some (.ref 281), some (.int 2), some (.int b)]) x_pl744 rfl ?_
              refine g_n 11 (pc' := 47) (L' := [some (.ref 281), some (.int 2), some (.int b)]) (st' := [.int (-2)]) rfl ?_
              refine g_ret (ins := .ireturn) (len := 1) (r := (some (.int (-2)))) rfl rfl rfl ?_
              refine g_n 4 (pc' := 23) (L' := [some (.ref 281), some (.int 2), some (.int b), some (.int c), some (.int (-2))]) (st' := [.int (-1)]) rfl ?_
              exact g_ret (ins := .ireturn) (len := 1) (r := (some (.int (-1)))) rfl rfl rfl ⟨_, rfl, rfl, (x_sv_rf _)⟩
set_option maxRecDepth 100000 in
set_option maxHeartbeats 4000000 in
theorem x_op43 {fi : Nat → Nat → Int32} {fl : Nat → Nat → Int64} {fr : Nat → Nat → Option Nat} (hF : x_F fl fr) (a b c : Int32) : x_ev 30 405 [.ref 0, .int a, .int b, .int c] (x_W fi fl fr) fun r S1 => (∃ fs, x_obj S1 281 = some (12, fs)) ∧ x_ev 30 746 [.ref 281, .int a, .int b, .int c] S1 (x_finI (x_W fi fl fr) r) := by
  refine g_in (M := x_M405) (L := [some (.ref 0), some (.int a), some (.int b), some (.int c), none]) x_pl405 rfl ?_
  refine g_n 1 (pc' := 1) (L' := [some (.ref 0), some (.int a), some (.int b), some (.int c), none]) (st' := [.int a]) rfl ?_
  refine g_call (ins := .invokestatic 407) (len := 3) (j := 350) (as := [.int a]) (rest := []) rfl rfl rfl rfl (fun _ => rfl) rfl ?_
  refine g_in (M := x_M350) (L := [some (.int a)]) x_pl350 rfl ?_
  refine g_n 1 (pc' := 1) (L' := [some (.int a)]) (st' := [.int a]) rfl ?_
  refine g_br (c := a < (0 : Int32)) (t := 13) (f := 4) (L' := [some (.int a)]) (st' := []) rfl (fun h1 => ?_) (fun h1 => ?_)
  · have p2 : a.toInt ≤ -1 := x_up_lt h1 (by decide)
    refine g_n 1 (pc' := 14) (L' := [some (.int a)]) (st' := [.int 0]) rfl ?_
    refine g_ret (ins := .ireturn) (len := 1) (r := (some (.int 0))) rfl rfl rfl ?_
    refine g_n 2 (pc' := 27) (L' := [some (.ref 0), some (.int a), some (.int b), some (.int c), none]) (st' := [.int (-1)]) rfl ?_
    refine g_ret (ins := .ireturn) (len := 1) (r := (some (.int (-1)))) rfl rfl rfl ?_
    refine ⟨⟨_, rfl⟩, ?_⟩
    refine g_in (M := x_M746) (L := [some (.ref 281), some (.int a), some (.int b), some (.int c), none, none]) x_pl746 rfl ?_
    refine g_n 3 (pc' := 3) (L' := [some (.ref 281), some (.int a), some (.int b), some (.int c), none, none]) (st' := [.int b, .int a, .ref 281]) rfl ?_
    refine g_call (ins := .invokevirtual 2006) (len := 3) (j := 744) (as := [.ref 281, .int a, .int b]) (rest := []) rfl rfl rfl rfl (fun _ => rfl) rfl ?_
    refine g_in (M := x_M744) (L := [some (.ref 281), some (.int a), some (.int b)]) x_pl744 rfl ?_
    refine g_n 1 (pc' := 1) (L' := [some (.ref 281), some (.int a), some (.int b)]) (st' := [.int a]) rfl ?_
    refine g_brT (c := a < (0 : Int32)) (t := 45) (f := 4) (L' := [some (.ref 281), some (.int a), some (.int b)]) (st' := []) rfl (x_Tlt (u := -1) (l := 0) p2 (by decide) (by decide)) ?_
    refine g_n 1 (pc' := 47) (L' := [some (.ref 281), some (.int a), some (.int b)]) (st' := [.int (-2)]) rfl ?_
    refine g_ret (ins := .ireturn) (len := 1) (r := (some (.int (-2)))) rfl rfl rfl ?_
    refine g_n 4 (pc' := 22) (L' := [some (.ref 281), some (.int a), some (.int b), some (.int c), some (.int (-2)), none]) (st' := [.int (-1)]) rfl ?_
    exact g_ret (ins := .ireturn) (len := 1) (r := (some (.int (-1)))) rfl rfl rfl ⟨_, rfl, rfl, (x_sv_rf _)⟩
  · have p3 : 0 ≤ a.toInt := x_lo_le (x_nlt h1) (by decide)
    refine g_n 2 (pc' := 6) (L' := [some (.int a)]) (st' := [.int 3, .int a]) rfl ?_
    refine g_br (c := (3 : Int32) ≤ a) (t := 13) (f := 9) (L' := [some (.int a)]) (st' := []) rfl (fun h4 => ?_) (fun h4 => ?_)
    · have p5 : 3 ≤ a.toInt := x_lo_le h4 (by decide)
      refine g_n 1 (pc' := 14) (L' := [some (.int a)]) (st' := [.int 0]) rfl ?_
      refine g_ret (ins := .ireturn) (len := 1) (r := (some (.int 0))) rfl rfl rfl ?_
      refine g_n 2 (pc' := 27) (L' := [some (.ref 0), some (.int a), some (.int b), some (.int c), none]) (st' := [.int (-1)]) rfl ?_
      refine g_ret (ins := .ireturn) (len := 1) (r := (some (.int (-1)))) rfl rfl rfl ?_
      refine ⟨⟨_, rfl⟩, ?_⟩
      refine g_in (M := x_M746) (L := [some (.ref 281), some (.int a), some (.int b), some (.int c), none, none]) x_pl746 rfl ?_
      refine g_n 3 (pc' := 3) (L' := [some (.ref 281), some (.int a), some (.int b), some (.int c), none, none]) (st' := [.int b, .int a, .ref 281]) rfl ?_
      refine g_call (ins := .invokevirtual 2006) (len := 3) (j := 744) (as := [.ref 281, .int a, .int b]) (rest := []) rfl rfl rfl rfl (fun _ => rfl) rfl ?_
      refine g_in (M := x_M744) (L := [some (.ref 281), some (.int a), some (.int b)]) x_pl744 rfl ?_
      refine g_n 1 (pc' := 1) (L' := [some (.ref 281), some (.int a), some (.int b)]) (st' := [.int a]) rfl ?_
      refine g_brF (c := a < (0 : Int32)) (t := 45) (f := 4) (L' := [some (.ref 281), some (.int a), some (.int b)]) (st' := []) rfl (x_Flt (l := 3) (u := 0) p5 (by decide) (by decide)) ?_
      refine g_n 2 (pc' := 6) (L' := [some (.ref 281), some (.int a), some (.int b)]) (st' := [.int 2, .int a]) rfl ?_
      refine g_brT (c := (2 : Int32) < a) (t := 45) (f := 9) (L' := [some (.ref 281), some (.int a), some (.int b)]) (st' := []) rfl (x_Tlt (u := 2) (l := 3) (by decide) p5 (by decide)) ?_
      refine g_n 1 (pc' := 47) (L' := [some (.ref 281), some (.int a), some (.int b)]) (st' := [.int (-2)]) rfl ?_
      refine g_ret (ins := .ireturn) (len := 1) (r := (some (.int (-2)))) rfl rfl rfl ?_
      refine g_n 4 (pc' := 22) (L' := [some (.ref 281), some (.int a), some (.int b), some (.int c), some (.int (-2)), none]) (st' := [.int (-1)]) rfl ?_
      exact g_ret (ins := .ireturn) (len := 1) (r := (some (.int (-1)))) rfl rfl rfl ⟨_, rfl, rfl, (x_sv_rf _)⟩
    · have p6 : a.toInt ≤ 2 := x_up_lt (x_nle h4) (by decide)
      refine g_n 2 (pc' := 14) (L' := [some (.int a)]) (st' := [.int 1]) rfl ?_
      refine g_ret (ins := .ireturn) (len := 1) (r := (some (.int 1))) rfl rfl rfl ?_
      refine g_n 2 (pc' := 8) (L' := [some (.ref 0), some (.int a), some (.int b), some (.int c), none]) (st' := [.int c]) rfl ?_
      refine g_call (ins := .invokestatic 280) (len := 3) (j := 349) (as := [.int c]) (rest := []) rfl rfl rfl rfl (fun _ => rfl) rfl ?_
      refine g_in (M := x_M349) (L := [some (.int c)]) x_pl349 rfl ?_
      refine g_n 1 (pc' := 1) (L' := [some (.int c)]) (st' := [.int c]) rfl ?_
      refine g_br (c := c < (0 : Int32)) (t := 14) (f := 4) (L' := [some (.int c)]) (st' := []) rfl (fun h7 => ?_) (fun h7 => ?_)
      · have p8 : c.toInt ≤ -1 := x_up_lt h7 (by decide)
        refine g_n 1 (pc' := 15) (L' := [some (.int c)]) (st' := [.int 0]) rfl ?_
        refine g_ret (ins := .ireturn) (len := 1) (r := (some (.int 0))) rfl rfl rfl ?_
        refine g_n 2 (pc' := 27) (L' := [some (.ref 0), some (.int a), some (.int b), some (.int c), none]) (st' := [.int (-1)]) rfl ?_
        refine g_ret (ins := .ireturn) (len := 1) (r := (some (.int (-1)))) rfl rfl rfl ?_
        refine ⟨⟨_, rfl⟩, ?_⟩
        refine g_in (M := x_M746) (L := [some (.ref 281), some (.int a), some (.int b), some (.int c), none, none]) x_pl746 rfl ?_
        refine g_n 3 (pc' := 3) (L' := [some (.ref 281), some (.int a), some (.int b), some (.int c), none, none]) (st' := [.int b, .int a, .ref 281]) rfl ?_
        refine g_call (ins := .invokevirtual 2006) (len := 3) (j := 744) (as := [.ref 281, .int a, .int b]) (rest := []) rfl rfl rfl rfl (fun _ => rfl) rfl ?_
        refine g_in (M := x_M744) (L := [some (.ref 281), some (.int a), some (.int b)]) x_pl744 rfl ?_
        refine g_n 1 (pc' := 1) (L' := [some (.ref 281), some (.int a), some (.int b)]) (st' := [.int a]) rfl ?_
        refine g_brF (c := a < (0 : Int32)) (t := 45) (f := 4) (L' := [some (.ref 281), some (.int a), some (.int b)]) (st' := []) rfl (x_Flt (l := 0) (u := 0) p3 (by decide) (by decide)) ?_
        refine g_n 2 (pc' := 6) (L' := [some (.ref 281), some (.int a), some (.int b)]) (st' := [.int 2, .int a]) rfl ?_
        refine g_brF (c := (2 : Int32) < a) (t := 45) (f := 9) (L' := [some (.ref 281), some (.int a), some (.int b)]) (st' := []) rfl (x_Flt (l := 2) (u := 2) (by decide) p6 (by decide)) ?_
        refine g_n 3 (pc' := 14) (L' := [some (.ref 281), some (.int a), some (.int b)]) (st' := [.int a, .ref 470]) rfl ?_
        by_cases h9 : a = 0
        · have e10 : a = 0 := h9
          subst e10
          refine g_n 3 (pc' := 47) (L' := [some (.ref 281), some (.int 0), some (.int b)]) (st' := [.int (-2)]) rfl ?_
          refine g_ret (ins := .ireturn) (len := 1) (r := (some (.int (-2)))) rfl rfl rfl ?_
          refine g_n 4 (pc' := 22) (L' := [some (.ref 281), some (.int 0), some (.int b), some (.int c), some (.int (-2)), none]) (st' := [.int (-1)]) rfl ?_
          exact g_ret (ins := .ireturn) (len := 1) (r := (some (.int (-1)))) rfl rfl rfl ⟨_, rfl, rfl, (x_sv_rf _)⟩
        · have q11 : ¬ a = 0 := h9
          have p12 : 1 ≤ a.toInt := x_lo_ne q11 p3 (by decide)
          by_cases h13 : a = 1
          · have e14 : a = 1 := h13
            subst e14
            refine g_n 3 (pc' := 47) (L' := [some (.ref 281), some (.int 1), some (.int b)]) (st' := [.int (-2)]) rfl ?_
            refine g_ret (ins := .ireturn) (len := 1) (r := (some (.int (-2)))) rfl rfl rfl ?_
            refine g_n 4 (pc' := 22) (L' := [some (.ref 281), some (.int 1), some (.int b), some (.int c), some (.int (-2)), none]) (st' := [.int (-1)]) rfl ?_
            exact g_ret (ins := .ireturn) (len := 1) (r := (some (.int (-1)))) rfl rfl rfl ⟨_, rfl, rfl, (x_sv_rf _)⟩
          · have q15 : ¬ a = 1 := h13
            have p16 : 2 ≤ a.toInt := x_lo_ne q15 p12 (by decide)
            have e17 : a = 2 := x_sing p16 p6 (by decide)
            subst e17
            refine g_n 3 (pc' := 47) (L' := [some (.ref 281), some (.int 2), some (.int b)]) (st' := [.int (-2)]) rfl ?_
            refine g_ret (ins := .ireturn) (len := 1) (r := (some (.int (-2)))) rfl rfl rfl ?_
            refine g_n 4 (pc' := 22) (L' := [some (.ref 281), some (.int 2), some (.int b), some (.int c), some (.int (-2)), none]) (st' := [.int (-1)]) rfl ?_
            exact g_ret (ins := .ireturn) (len := 1) (r := (some (.int (-1)))) rfl rfl rfl ⟨_, rfl, rfl, (x_sv_rf _)⟩
      · have p18 : 0 ≤ c.toInt := x_lo_le (x_nlt h7) (by decide)
        refine g_n 2 (pc' := 7) (L' := [some (.int c)]) (st' := [.int 12, .int c]) rfl ?_
        refine g_br (c := (12 : Int32) ≤ c) (t := 14) (f := 10) (L' := [some (.int c)]) (st' := []) rfl (fun h19 => ?_) (fun h19 => ?_)
        · have p20 : 12 ≤ c.toInt := x_lo_le h19 (by decide)
          refine g_n 1 (pc' := 15) (L' := [some (.int c)]) (st' := [.int 0]) rfl ?_
          refine g_ret (ins := .ireturn) (len := 1) (r := (some (.int 0))) rfl rfl rfl ?_
          refine g_n 2 (pc' := 27) (L' := [some (.ref 0), some (.int a), some (.int b), some (.int c), none]) (st' := [.int (-1)]) rfl ?_
          refine g_ret (ins := .ireturn) (len := 1) (r := (some (.int (-1)))) rfl rfl rfl ?_
          refine ⟨⟨_, rfl⟩, ?_⟩
          refine g_in (M := x_M746) (L := [some (.ref 281), some (.int a), some (.int b), some (.int c), none, none]) x_pl746 rfl ?_
          refine g_n 3 (pc' := 3) (L' := [some (.ref 281), some (.int a), some (.int b), some (.int c), none, none]) (st' := [.int b, .int a, .ref 281]) rfl ?_
          refine g_call (ins := .invokevirtual 2006) (len := 3) (j := 744) (as := [.ref 281, .int a, .int b]) (rest := []) rfl rfl rfl rfl (fun _ => rfl) rfl ?_
          refine g_in (M := x_M744) (L := [some (.ref 281), some (.int a), some (.int b)]) x_pl744 rfl ?_
          refine g_n 1 (pc' := 1) (L' := [some (.ref 281), some (.int a), some (.int b)]) (st' := [.int a]) rfl ?_
          refine g_brF (c := a < (0 : Int32)) (t := 45) (f := 4) (L' := [some (.ref 281), some (.int a), some (.int b)]) (st' := []) rfl (x_Flt (l := 0) (u := 0) p3 (by decide) (by decide)) ?_
          refine g_n 2 (pc' := 6) (L' := [some (.ref 281), some (.int a), some (.int b)]) (st' := [.int 2, .int a]) rfl ?_
          refine g_brF (c := (2 : Int32) < a) (t := 45) (f := 9) (L' := [some (.ref 281), some (.int a), some (.int b)]) (st' := []) rfl (x_Flt (l := 2) (u := 2) (by decide) p6 (by decide)) ?_
          refine g_n 3 (pc' := 14) (L' := [some (.ref 281), some (.int a), some (.int b)]) (st' := [.int a, .ref 470]) rfl ?_
          by_cases h21 : a = 0
          · have e22 : a = 0 := h21
            subst e22
            refine g_n 3 (pc' := 47) (L' := [some (.ref 281), some (.int 0), some (.int b)]) (st' := [.int (-2)]) rfl ?_
            refine g_ret (ins := .ireturn) (len := 1) (r := (some (.int (-2)))) rfl rfl rfl ?_
            refine g_n 4 (pc' := 22) (L' := [some (.ref 281), some (.int 0), some (.int b), some (.int c), some (.int (-2)), none]) (st' := [.int (-1)]) rfl ?_
            exact g_ret (ins := .ireturn) (len := 1) (r := (some (.int (-1)))) rfl rfl rfl ⟨_, rfl, rfl, (x_sv_rf _)⟩
          · have q23 : ¬ a = 0 := h21
            have p24 : 1 ≤ a.toInt := x_lo_ne q23 p3 (by decide)
            by_cases h25 : a = 1
            · have e26 : a = 1 := h25
              subst e26
              refine g_n 3 (pc' := 47) (L' := [some (.ref 281), some (.int 1), some (.int b)]) (st' := [.int (-2)]) rfl ?_
              refine g_ret (ins := .ireturn) (len := 1) (r := (some (.int (-2)))) rfl rfl rfl ?_
              refine g_n 4 (pc' := 22) (L' := [some (.ref 281), some (.int 1), some (.int b), some (.int c), some (.int (-2)), none]) (st' := [.int (-1)]) rfl ?_
              exact g_ret (ins := .ireturn) (len := 1) (r := (some (.int (-1)))) rfl rfl rfl ⟨_, rfl, rfl, (x_sv_rf _)⟩
            · have q27 : ¬ a = 1 := h25
              have p28 : 2 ≤ a.toInt := x_lo_ne q27 p24 (by decide)
              have e29 : a = 2 := x_sing p28 p6 (by decide)
              subst e29
              refine g_n 3 (pc' := 47) (L' := [some (.ref 281), some (.int 2), some (.int b)]) (st' := [.int (-2)]) rfl ?_
              refine g_ret (ins := .ireturn) (len := 1) (r := (some (.int (-2)))) rfl rfl rfl ?_
              refine g_n 4 (pc' := 22) (L' := [some (.ref 281), some (.int 2), some (.int b), some (.int c), some (.int (-2)), none]) (st' := [.int (-1)]) rfl ?_
              exact g_ret (ins := .ireturn) (len := 1) (r := (some (.int (-1)))) rfl rfl rfl ⟨_, rfl, rfl, (x_sv_rf _)⟩
        · have p30 : c.toInt ≤ 11 := x_up_lt (x_nle h19) (by decide)
          refine g_n 2 (pc' := 15) (L' := [some (.int c)]) (st' := [.int 1]) rfl ?_
          refine g_ret (ins := .ireturn) (len := 1) (r := (some (.int 1))) rfl rfl rfl ?_
          refine g_n 5 (pc' := 20) (L' := [some (.ref 0), some (.int a), some (.int b), some (.int c), none]) (st' := [.int b, .int a, .ref 248]) rfl ?_
          refine g_call (ins := .invokevirtual 509) (len := 3) (j := 98) (as := [.ref 248, .int a, .int b]) (rest := []) rfl rfl rfl rfl (fun _ => rfl) rfl ?_
          refine g_in (M := x_M98) (L := [some (.ref 248), some (.int a), some (.int b), none]) x_pl98 rfl ?_
          refine g_n 5 (pc' := 7) (L' := [some (.ref 248), some (.int a), some (.int b), none]) (st' := [.int 3, .int a, .ref 255, .int b]) rfl ?_
          refine g_call (ins := .invokevirtual 95) (len := 3) (j := 263) (as := [.ref 255, .int a, .int 3]) (rest := [.int b]) rfl rfl rfl rfl (fun _ => rfl) rfl ?_
          refine g_in (M := x_M263) (L := [some (.ref 255), some (.int a), some (.int 3), none]) x_pl263 rfl ?_
          refine g_n 1 (pc' := 1) (L' := [some (.ref 255), some (.int a), some (.int 3), none]) (st' := [.int a]) rfl ?_
          refine g_brF (c := a < (0 : Int32)) (t := 35) (f := 4) (L' := [some (.ref 255), some (.int a), some (.int 3), none]) (st' := []) rfl (x_Flt (l := 0) (u := 0) p3 (by decide) (by decide)) ?_
          refine g_n 3 (pc' := 9) (L' := [some (.ref 255), some (.int a), some (.int 3), none]) (st' := [.int 3, .int a]) rfl ?_
          refine g_brF (c := (3 : Int32) ≤ a) (t := 35) (f := 12) (L' := [some (.ref 255), some (.int a), some (.int 3), none]) (st' := []) rfl (x_Fle (l := 3) (u := 2) (by decide) p6 (by decide)) ?_
          refine g_n 9 (pc' := 29) (L' := [some (.ref 255), some (.int a), some (.int 3), none]) (st' := [.int 6, .int a]) rfl ?_
          by_cases h31 : a = 0
          · have e32 : a = 0 := h31
            subst e32
            refine g_n 15 (pc' := 55) (L' := [some (.ref 255), some (.int 0), some (.int 3), some (.int 3)]) (st' := [.int 3, .ref 256]) rfl ?_
            refine g_la (i := 3) (a := 256) (n := 18) (v := 0) rfl rfl (by decide) (x_at (x_f256 hF) (k := 3) rfl) ?_
            refine g_n 2 (pc' := 61) (L' := [some (.ref 255), some (.int 0), some (.int 3), some (.int 3)]) (st' := [.int 0]) rfl ?_
            refine g_ret (ins := .ireturn) (len := 1) (r := (some (.int 0))) rfl rfl rfl ?_
            refine g_n 4 (pc' := 14) (L' := [some (.ref 248), some (.int 0), some (.int b), some (.int _)]) (st' := [.int 0, .ref 248]) rfl ?_
            refine g_call (ins := .invokevirtual 99) (len := 3) (j := 76) (as := [.ref 248, .int 0]) (rest := []) rfl rfl rfl rfl (fun _ => rfl) rfl ?_
            refine g_in (M := x_M76) (L := [some (.ref 248), some (.int 0)]) x_pl76 rfl ?_
            refine g_n 4 (pc' := 6) (L' := [some (.ref 248), some (.int 0)]) (st' := [.int 4, .int 0, .ref 255]) rfl ?_
            refine g_call (ins := .invokevirtual 95) (len := 3) (j := 263) (as := [.ref 255, .int 0, .int 4]) (rest := []) rfl rfl rfl rfl (fun _ => rfl) rfl ?_
            refine g_in (M := x_M263) (L := [some (.ref 255), some (.int 0), some (.int 4), none]) x_pl263 rfl ?_
            refine g_n 30 (pc' := 55) (L' := [some (.ref 255), some (.int 0), some (.int 4), some (.int 4)]) (st' := [.int 4, .ref 256]) rfl ?_
            refine g_la (i := 4) (a := 256) (n := 18) (v := 0) rfl rfl (by decide) (x_at (x_f256 hF) (k := 4) rfl) ?_
            refine g_n 2 (pc' := 61) (L' := [some (.ref 255), some (.int 0), some (.int 4), some (.int 4)]) (st' := [.int 0]) rfl ?_
            refine g_ret (ins := .ireturn) (len := 1) (r := (some (.int 0))) rfl rfl rfl ?_
            refine g_n 3 (pc' := 18) (L' := [some (.ref 248), some (.int 0)]) (st' := [.int 0]) rfl ?_
            refine g_ret (ins := .ireturn) (len := 1) (r := (some (.int 0))) rfl rfl rfl ?_
            refine g_n 2 (pc' := 47) (L' := [some (.ref 248), some (.int 0), some (.int b), some (.int _)]) (st' := [.int (-1)]) rfl ?_
            refine g_ret (ins := .ireturn) (len := 1) (r := (some (.int (-1)))) rfl rfl rfl ?_
            refine g_n 2 (pc' := 27) (L' := [some (.ref 0), some (.int 0), some (.int b), some (.int c), none]) (st' := [.int (-1)]) rfl ?_
            refine g_ret (ins := .ireturn) (len := 1) (r := (some (.int (-1)))) rfl rfl rfl ?_
            refine ⟨⟨_, rfl⟩, ?_⟩
            refine g_in (M := x_M746) (L := [some (.ref 281), some (.int 0), some (.int b), some (.int c), none, none]) x_pl746 rfl ?_
            refine g_n 3 (pc' := 3) (L' := [some (.ref 281), some (.int 0), some (.int b), some (.int c), none, none]) (st' := [.int b, .int 0, .ref 281]) rfl ?_
            refine g_call (ins := .invokevirtual 2006) (len := 3) (j := 744) (as := [.ref 281, .int 0, .int b]) (rest := []) rfl rfl rfl rfl (fun _ => rfl) rfl ?_
            refine g_in (M := x_M744) (L := [some (.ref 281), some (.int 0), some (.int b)]) x_pl744 rfl ?_
            refine g_n 11 (pc' := 47) (L' := [some (.ref 281), some (.int 0), some (.int b)]) (st' := [.int (-2)]) rfl ?_
            refine g_ret (ins := .ireturn) (len := 1) (r := (some (.int (-2)))) rfl rfl rfl ?_
            refine g_n 4 (pc' := 22) (L' := [some (.ref 281), some (.int 0), some (.int b), some (.int c), some (.int (-2)), none]) (st' := [.int (-1)]) rfl ?_
            exact g_ret (ins := .ireturn) (len := 1) (r := (some (.int (-1)))) rfl rfl rfl ⟨_, rfl, rfl, (x_sv_rf _)⟩
          · have q33 : ¬ a = 0 := h31
            have p34 : 1 ≤ a.toInt := x_lo_ne q33 p3 (by decide)
            by_cases h35 : a = 1
            · have e36 : a = 1 := h35
              subst e36
              refine g_n 15 (pc' := 55) (L' := [some (.ref 255), some (.int 1), some (.int 3), some (.int 9)]) (st' := [.int 9, .ref 256]) rfl ?_
              refine g_la (i := 9) (a := 256) (n := 18) (v := 0) rfl rfl (by decide) (x_at (x_f256 hF) (k := 9) rfl) ?_
              refine g_n 2 (pc' := 61) (L' := [some (.ref 255), some (.int 1), some (.int 3), some (.int 9)]) (st' := [.int 0]) rfl ?_
              refine g_ret (ins := .ireturn) (len := 1) (r := (some (.int 0))) rfl rfl rfl ?_
              refine g_n 4 (pc' := 14) (L' := [some (.ref 248), some (.int 1), some (.int b), some (.int _)]) (st' := [.int 1, .ref 248]) rfl ?_
              refine g_call (ins := .invokevirtual 99) (len := 3) (j := 76) (as := [.ref 248, .int 1]) (rest := []) rfl rfl rfl rfl (fun _ => rfl) rfl ?_
              refine g_in (M := x_M76) (L := [some (.ref 248), some (.int 1)]) x_pl76 rfl ?_
              refine g_n 4 (pc' := 6) (L' := [some (.ref 248), some (.int 1)]) (st' := [.int 4, .int 1, .ref 255]) rfl ?_
              refine g_call (ins := .invokevirtual 95) (len := 3) (j := 263) (as := [.ref 255, .int 1, .int 4]) (rest := []) rfl rfl rfl rfl (fun _ => rfl) rfl ?_
              refine g_in (M := x_M263) (L := [some (.ref 255), some (.int 1), some (.int 4), none]) x_pl263 rfl ?_
              refine g_n 30 (pc' := 55) (L' := [some (.ref 255), some (.int 1), some (.int 4), some (.int 10)]) (st' := [.int 10, .ref 256]) rfl ?_
              refine g_la (i := 10) (a := 256) (n := 18) (v := 0) rfl rfl (by decide) (x_at (x_f256 hF) (k := 10) rfl) ?_
              refine g_n 2 (pc' := 61) (L' := [some (.ref 255), some (.int 1), some (.int 4), some (.int 10)]) (st' := [.int 0]) rfl ?_
              refine g_ret (ins := .ireturn) (len := 1) (r := (some (.int 0))) rfl rfl rfl ?_
              refine g_n 3 (pc' := 18) (L' := [some (.ref 248), some (.int 1)]) (st' := [.int 0]) rfl ?_
              refine g_ret (ins := .ireturn) (len := 1) (r := (some (.int 0))) rfl rfl rfl ?_
              refine g_n 2 (pc' := 47) (L' := [some (.ref 248), some (.int 1), some (.int b), some (.int _)]) (st' := [.int (-1)]) rfl ?_
              refine g_ret (ins := .ireturn) (len := 1) (r := (some (.int (-1)))) rfl rfl rfl ?_
              refine g_n 2 (pc' := 27) (L' := [some (.ref 0), some (.int 1), some (.int b), some (.int c), none]) (st' := [.int (-1)]) rfl ?_
              refine g_ret (ins := .ireturn) (len := 1) (r := (some (.int (-1)))) rfl rfl rfl ?_
              refine ⟨⟨_, rfl⟩, ?_⟩
              refine g_in (M := x_M746) (L := [some (.ref 281), some (.int 1), some (.int b), some (.int c), none, none]) x_pl746 rfl ?_
              refine g_n 3 (pc' := 3) (L' := [some (.ref 281), some (.int 1), some (.int b), some (.int c), none, none]) (st' := [.int b, .int 1, .ref 281]) rfl ?_
              refine g_call (ins := .invokevirtual 2006) (len := 3) (j := 744) (as := [.ref 281, .int 1, .int b]) (rest := []) rfl rfl rfl rfl (fun _ => rfl) rfl ?_
              refine g_in (M := x_M744) (L := [some (.ref 281), some (.int 1), some (.int b)]) x_pl744 rfl ?_
              refine g_n 11 (pc' := 47) (L' := [some (.ref 281), some (.int 1), some (.int b)]) (st' := [.int (-2)]) rfl ?_
              refine g_ret (ins := .ireturn) (len := 1) (r := (some (.int (-2)))) rfl rfl rfl ?_
              refine g_n 4 (pc' := 22) (L' := [some (.ref 281), some (.int 1), some (.int b), some (.int c), some (.int (-2)), none]) (st' := [.int (-1)]) rfl ?_
              exact g_ret (ins := .ireturn) (len := 1) (r := (some (.int (-1)))) rfl rfl rfl ⟨_, rfl, rfl, (x_sv_rf _)⟩
            · have q37 : ¬ a = 1 := h35
              have p38 : 2 ≤ a.toInt := x_lo_ne q37 p34 (by decide)
              have e39 : a = 2 := x_sing p38 p6 (by decide)
              subst e39
              refine g_n 15 (pc' := 55) (L' := [some (.ref 255), some (.int 2), some (.int 3), some (.int 15)]) (st' := [.int 15, .ref 256]) rfl ?_
              refine g_la (i := 15) (a := 256) (n := 18) (v := 0) rfl rfl (by decide) (x_at (x_f256 hF) (k := 15) rfl) ?_
              refine g_n 2 (pc' := 61) (L' := [some (.ref 255), some (.int 2), some (.int 3), some (.int 15)]) (st' := [.int 0]) rfl ?_
              refine g_ret (ins := .ireturn) (len := 1) (r := (some (.int 0))) rfl rfl rfl ?_
              refine g_n 4 (pc' := 14) (L' := [some (.ref 248), some (.int 2), some (.int b), some (.int _)]) (st' := [.int 2, .ref 248]) rfl ?_
              refine g_call (ins := .invokevirtual 99) (len := 3) (j := 76) (as := [.ref 248, .int 2]) (rest := []) rfl rfl rfl rfl (fun _ => rfl) rfl ?_
              refine g_in (M := x_M76) (L := [some (.ref 248), some (.int 2)]) x_pl76 rfl ?_
              refine g_n 4 (pc' := 6) (L' := [some (.ref 248), some (.int 2)]) (st' := [.int 4, .int 2, .ref 255]) rfl ?_
              refine g_call (ins := .invokevirtual 95) (len := 3) (j := 263) (as := [.ref 255, .int 2, .int 4]) (rest := []) rfl rfl rfl rfl (fun _ => rfl) rfl ?_
              refine g_in (M := x_M263) (L := [some (.ref 255), some (.int 2), some (.int 4), none]) x_pl263 rfl ?_
              refine g_n 30 (pc' := 55) (L' := [some (.ref 255), some (.int 2), some (.int 4), some (.int 16)]) (st' := [.int 16, .ref 256]) rfl ?_
              refine g_la (i := 16) (a := 256) (n := 18) (v := 0) rfl rfl (by decide) (x_at (x_f256 hF) (k := 16) rfl) ?_
              refine g_n 2 (pc' := 61) (L' := [some (.ref 255), some (.int 2), some (.int 4), some (.int 16)]) (st' := [.int 0]) rfl ?_
              refine g_ret (ins := .ireturn) (len := 1) (r := (some (.int 0))) rfl rfl rfl ?_
              refine g_n 3 (pc' := 18) (L' := [some (.ref 248), some (.int 2)]) (st' := [.int 0]) rfl ?_
              refine g_ret (ins := .ireturn) (len := 1) (r := (some (.int 0))) rfl rfl rfl ?_
              refine g_n 2 (pc' := 47) (L' := [some (.ref 248), some (.int 2), some (.int b), some (.int _)]) (st' := [.int (-1)]) rfl ?_
              refine g_ret (ins := .ireturn) (len := 1) (r := (some (.int (-1)))) rfl rfl rfl ?_
              refine g_n 2 (pc' := 27) (L' := [some (.ref 0), some (.int 2), some (.int b), some (.int c), none]) (st' := [.int (-1)]) rfl ?_
              refine g_ret (ins := .ireturn) (len := 1) (r := (some (.int (-1)))) rfl rfl rfl ?_
              refine ⟨⟨_, rfl⟩, ?_⟩
              refine g_in (M := x_M746) (L := [some (.ref 281), some (.int 2), some (.int b), some (.int c), none, none]) x_pl746 rfl ?_
              refine g_n 3 (pc' := 3) (L' := [some (.ref 281), some (.int 2), some (.int b), some (.int c), none, none]) (st' := [.int b, .int 2, .ref 281]) rfl ?_
              refine g_call (ins := .invokevirtual 2006) (len := 3) (j := 744) (as := [.ref 281, .int 2, .int b]) (rest := []) rfl rfl rfl rfl (fun _ => rfl) rfl ?_
              refine g_in (M := x_M744) (L := [some (.ref 281), some (.int 2), some (.int b)]) x_pl744 rfl ?_
              refine g_n 11 (pc' := 47) (L' := [some (.ref 281), some (.int 2), some (.int b)]) (st' := [.int (-2)]) rfl ?_
              refine g_ret (ins := .ireturn) (len := 1) (r := (some (.int (-2)))) rfl rfl rfl ?_
              refine g_n 4 (pc' := 22) (L' := [some (.ref 281), some (.int 2), some (.int b), some (.int c), some (.int (-2)), none]) (st' := [.int (-1)]) rfl ?_
              exact g_ret (ins := .ireturn) (len := 1) (r := (some (.int (-1)))) rfl rfl rfl ⟨_, rfl, rfl, (x_sv_rf _)⟩
set_option maxRecDepth 100000 in
set_option maxHeartbeats 4000000 in
theorem x_op44 {fi : Nat → Nat → Int32} {fl : Nat → Nat → Int64} {fr : Nat → Nat → Option Nat} (hF : x_F fl fr) (a : Int32) : x_ev 30 406 [.ref 0, .int a] (x_W fi fl fr) fun r S1 => (∃ fs, x_obj S1 281 = some (12, fs)) ∧ x_ev 30 747 [.ref 281, .int a] S1 (x_finL (x_W fi fl fr) r) := by
  refine g_in (M := x_M406) (L := [some (.ref 0), some (.int a), none]) x_pl406 rfl ?_
  refine g_n 2 (pc' := 4) (L' := [some (.ref 0), some (.int a), none]) (st' := [.ref 248]) rfl ?_
  refine g_call (ins := .invokevirtual 410) (len := 3) (j := 70) (as := [.ref 248]) (rest := []) rfl rfl rfl rfl (fun _ => rfl) rfl ?_
  refine g_in (M := x_M70) (L := [some (.ref 248)]) x_pl70 rfl ?_
  refine g_n 4 (pc' := 12) (L' := [some (.ref 248)]) (st' := [.int 0]) rfl ?_
  refine g_ret (ins := .ireturn) (len := 1) (r := (some (.int 0))) rfl rfl rfl ?_
  refine g_n 6 (pc' := 75) (L' := [some (.ref 0), some (.int a), some (.int 0)]) (st' := [.long 0]) rfl ?_
  refine g_ret (ins := .lreturn) (len := 1) (r := (some (.long 0))) rfl rfl rfl ?_
  refine ⟨⟨_, rfl⟩, ?_⟩
  refine g_in (M := x_M747) (L := [some (.ref 281), some (.int a)]) x_pl747 rfl ?_
  refine g_n 4 (pc' := 34) (L' := [some (.ref 281), some (.int a)]) (st' := [.long 0]) rfl ?_
  exact g_ret (ins := .lreturn) (len := 1) (r := (some (.long 0))) rfl rfl rfl ⟨_, rfl, rfl, (x_sv_rf _)⟩
set_option maxRecDepth 100000 in
set_option maxHeartbeats 4000000 in
theorem x_op45 {fi : Nat → Nat → Int32} {fl : Nat → Nat → Int64} {fr : Nat → Nat → Option Nat} (hF : x_F fl fr) (a : Int32) : x_ev 30 407 [.ref 0, .int a] (x_W fi fl fr) fun r S1 => (∃ fs, x_obj S1 281 = some (12, fs)) ∧ x_ev 30 748 [.ref 281, .int a] S1 (x_finI (x_W fi fl fr) r) := by
  refine g_in (M := x_M407) (L := [some (.ref 0), some (.int a)]) x_pl407 rfl ?_
  refine g_n 1 (pc' := 1) (L' := [some (.ref 0), some (.int a)]) (st' := [.int a]) rfl ?_
  refine g_br (c := (0 : Int32) ≤ a) (t := 6) (f := 4) (L' := [some (.ref 0), some (.int a)]) (st' := []) rfl (fun h1 => ?_) (fun h1 => ?_)
  · have p2 : 0 ≤ a.toInt := x_lo_le h1 (by decide)
    refine g_n 2 (pc' := 10) (L' := [some (.ref 0), some (.int a)]) (st' := [.ref 248]) rfl ?_
    refine g_call (ins := .invokevirtual 410) (len := 3) (j := 70) (as := [.ref 248]) (rest := []) rfl rfl rfl rfl (fun _ => rfl) rfl ?_
    refine g_in (M := x_M70) (L := [some (.ref 248)]) x_pl70 rfl ?_
    refine g_n 4 (pc' := 12) (L' := [some (.ref 248)]) (st' := [.int 0]) rfl ?_
    refine g_ret (ins := .ireturn) (len := 1) (r := (some (.int 0))) rfl rfl rfl ?_
    refine g_n 2 (pc' := 31) (L' := [some (.ref 0), some (.int a)]) (st' := [.int (-2)]) rfl ?_
    refine g_ret (ins := .ireturn) (len := 1) (r := (some (.int (-2)))) rfl rfl rfl ?_
    refine ⟨⟨_, rfl⟩, ?_⟩
    refine g_in (M := x_M748) (L := [some (.ref 281), some (.int a)]) x_pl748 rfl ?_
    refine g_n 4 (pc' := 8) (L' := [some (.ref 281), some (.int a)]) (st' := [.int a]) rfl ?_
    refine g_brT (c := (0 : Int32) ≤ a) (t := 15) (f := 11) (L' := [some (.ref 281), some (.int a)]) (st' := []) rfl (x_Tle (u := 0) (l := 0) (by decide) p2 (by decide)) ?_
    refine g_n 1 (pc' := 17) (L' := [some (.ref 281), some (.int a)]) (st' := [.int (-2)]) rfl ?_
    exact g_ret (ins := .ireturn) (len := 1) (r := (some (.int (-2)))) rfl rfl rfl ⟨_, rfl, rfl, (x_sv_rf _)⟩
  · have p3 : a.toInt ≤ -1 := x_up_lt (x_nle h1) (by decide)
    refine g_n 1 (pc' := 5) (L' := [some (.ref 0), some (.int a)]) (st' := [.int (-1)]) rfl ?_
    refine g_ret (ins := .ireturn) (len := 1) (r := (some (.int (-1)))) rfl rfl rfl ?_
    refine ⟨⟨_, rfl⟩, ?_⟩
    refine g_in (M := x_M748) (L := [some (.ref 281), some (.int a)]) x_pl748 rfl ?_
    refine g_n 4 (pc' := 8) (L' := [some (.ref 281), some (.int a)]) (st' := [.int a]) rfl ?_
    refine g_brF (c := (0 : Int32) ≤ a) (t := 15) (f := 11) (L' := [some (.ref 281), some (.int a)]) (st' := []) rfl (x_Fle (l := 0) (u := -1) (by decide) p3 (by decide)) ?_
    refine g_n 2 (pc' := 17) (L' := [some (.ref 281), some (.int a)]) (st' := [.int (-1)]) rfl ?_
    exact g_ret (ins := .ireturn) (len := 1) (r := (some (.int (-1)))) rfl rfl rfl ⟨_, rfl, rfl, (x_sv_rf _)⟩
set_option maxRecDepth 100000 in
set_option maxHeartbeats 4000000 in
theorem x_op46 {fi : Nat → Nat → Int32} {fl : Nat → Nat → Int64} {fr : Nat → Nat → Option Nat} (hF : x_F fl fr) : x_ev 30 408 [.ref 0] (x_W fi fl fr) fun r S1 => (∃ fs, x_obj S1 281 = some (12, fs)) ∧ x_ev 30 749 [.ref 281] S1 (x_finI (x_W fi fl fr) r) := by
  refine g_in (M := x_M408) (L := [some (.ref 0)]) x_pl408 rfl ?_
  refine g_n 2 (pc' := 4) (L' := [some (.ref 0)]) (st' := [.ref 248]) rfl ?_
  refine g_call (ins := .invokevirtual 410) (len := 3) (j := 70) (as := [.ref 248]) (rest := []) rfl rfl rfl rfl (fun _ => rfl) rfl ?_
  refine g_in (M := x_M70) (L := [some (.ref 248)]) x_pl70 rfl ?_
  refine g_n 4 (pc' := 12) (L' := [some (.ref 248)]) (st' := [.int 0]) rfl ?_
  refine g_ret (ins := .ireturn) (len := 1) (r := (some (.int 0))) rfl rfl rfl ?_
  refine g_n 2 (pc' := 22) (L' := [some (.ref 0)]) (st' := [.int (-2)]) rfl ?_
  refine g_ret (ins := .ireturn) (len := 1) (r := (some (.int (-2)))) rfl rfl rfl ?_
  refine ⟨⟨_, rfl⟩, ?_⟩
  refine g_in (M := x_M749) (L := [some (.ref 281), none]) x_pl749 rfl ?_
  refine g_n 4 (pc' := 9) (L' := [some (.ref 281), none]) (st' := [.int (-2)]) rfl ?_
  exact g_ret (ins := .ireturn) (len := 1) (r := (some (.int (-2)))) rfl rfl rfl ⟨_, rfl, rfl, (x_sv_rf _)⟩
