/-! The methods of WireHouse$Schema are what the tables say. -/
theorem x_PA4 : x_P4 = x_plain x_A4 := by rfl
set_option maxRecDepth 100000 in
theorem x_okA4 : ∀ q ∈ x_P4.flatten, x_okL x_cls x_MT x_big x_nx "WireHouse$Schema" q.1 q.2 := by
  rw [x_PA4]
  exact x_ckA_ok x_ch_ok x_cn_ok (by decide +kernel)
theorem x_oM106 : x_okM x_big x_M106 := x_ckM_ok x_ch_ok (ix := 31152) (by decide +kernel)
theorem x_oM107 : x_okM x_big x_M107 := x_ckM_ok x_ch_ok (ix := 34237) (by decide +kernel)
theorem x_oM108 : x_okM x_big x_M108 := x_ckM_ok x_ch_ok (ix := 35223) (by decide +kernel)
theorem x_oM109 : x_okM x_big x_M109 := x_ckM_ok x_ch_ok (ix := 35062) (by decide +kernel)
theorem x_oM110 : x_okM x_big x_M110 := x_ckM_ok x_ch_ok (ix := 35113) (by decide +kernel)
theorem x_oM111 : x_okM x_big x_M111 := x_ckM_ok x_ch_ok (ix := 35165) (by decide +kernel)
theorem x_oM112 : x_okM x_big x_M112 := x_ckM_ok x_ch_ok (ix := 35157) (by decide +kernel)
theorem x_oM113 : x_okM x_big x_M113 := x_ckM_ok x_ch_ok (ix := 36004) (by decide +kernel)
theorem x_oM114 : x_okM x_big x_M114 := x_ckM_ok x_ch_ok (ix := 39159) (by decide +kernel)
theorem x_oM115 : x_okM x_big x_M115 := x_ckM_ok x_ch_ok (ix := 40083) (by decide +kernel)
theorem x_oM116 : x_okM x_big x_M116 := x_ckM_ok x_ch_ok (ix := 36207) (by decide +kernel)
theorem x_oM117 : x_okM x_big x_M117 := x_ckM_ok x_ch_ok (ix := 36234) (by decide +kernel)
theorem x_oM118 : x_okM x_big x_M118 := x_ckM_ok x_ch_ok (ix := 37199) (by decide +kernel)
theorem x_oM119 : x_okM x_big x_M119 := x_ckM_ok x_ch_ok (ix := 35183) (by decide +kernel)
theorem x_oM120 : x_okM x_big x_M120 := x_ckM_ok x_ch_ok (ix := 36055) (by decide +kernel)
theorem x_oM121 : x_okM x_big x_M121 := x_ckM_ok x_ch_ok (ix := 36061) (by decide +kernel)
theorem x_oM122 : x_okM x_big x_M122 := x_ckM_ok x_ch_ok (ix := 36067) (by decide +kernel)
theorem x_oM123 : x_okM x_big x_M123 := x_ckM_ok x_ch_ok (ix := 36085) (by decide +kernel)
theorem x_oM124 : x_okM x_big x_M124 := x_ckM_ok x_ch_ok (ix := 36081) (by decide +kernel)
theorem x_oM125 : x_okM x_big x_M125 := x_ckM_ok x_ch_ok (ix := 36071) (by decide +kernel)
theorem x_oM126 : x_okM x_big x_M126 := x_ckM_ok x_ch_ok (ix := 36159) (by decide +kernel)
theorem x_oM127 : x_okM x_big x_M127 := x_ckM_ok x_ch_ok (ix := 40236) (by decide +kernel)
theorem x_oM128 : x_okM x_big x_M128 := x_ckM_ok x_ch_ok (ix := 36151) (by decide +kernel)
theorem x_oM129 : x_okM x_big x_M129 := x_ckM_ok x_ch_ok (ix := 36170) (by decide +kernel)
theorem x_oM130 : x_okM x_big x_M130 := x_ckM_ok x_ch_ok (ix := 36156) (by decide +kernel)
theorem x_oM131 : x_okM x_big x_M131 := x_ckM_ok x_ch_ok (ix := 36166) (by decide +kernel)
set_option maxRecDepth 100000 in
theorem x_okK4 : ∀ M ∈ x_MT4, x_okM x_big M ∧ ∀ q ∈ M.2.2.2.2.2.2.flatten, x_okL x_cls x_MT x_big x_nx M.1.cls q.1 q.2 := List.forall_mem_cons.mpr ⟨⟨x_oM106, x_okA4⟩, List.forall_mem_cons.mpr ⟨⟨x_oM107, x_okA4⟩, List.forall_mem_cons.mpr ⟨⟨x_oM108, x_okA4⟩, List.forall_mem_cons.mpr ⟨⟨x_oM109, x_okA4⟩, List.forall_mem_cons.mpr ⟨⟨x_oM110, x_okA4⟩, List.forall_mem_cons.mpr ⟨⟨x_oM111, x_okA4⟩, List.forall_mem_cons.mpr ⟨⟨x_oM112, x_okA4⟩, List.forall_mem_cons.mpr ⟨⟨x_oM113, x_okA4⟩, List.forall_mem_cons.mpr ⟨⟨x_oM114, x_okA4⟩, List.forall_mem_cons.mpr ⟨⟨x_oM115, x_okA4⟩, List.forall_mem_cons.mpr ⟨⟨x_oM116, x_okA4⟩, List.forall_mem_cons.mpr ⟨⟨x_oM117, x_okA4⟩, List.forall_mem_cons.mpr ⟨⟨x_oM118, x_okA4⟩, List.forall_mem_cons.mpr ⟨⟨x_oM119, x_okA4⟩, List.forall_mem_cons.mpr ⟨⟨x_oM120, x_okA4⟩, List.forall_mem_cons.mpr ⟨⟨x_oM121, x_okA4⟩, List.forall_mem_cons.mpr ⟨⟨x_oM122, x_okA4⟩, List.forall_mem_cons.mpr ⟨⟨x_oM123, x_okA4⟩, List.forall_mem_cons.mpr ⟨⟨x_oM124, x_okA4⟩, List.forall_mem_cons.mpr ⟨⟨x_oM125, x_okA4⟩, List.forall_mem_cons.mpr ⟨⟨x_oM126, x_okA4⟩, List.forall_mem_cons.mpr ⟨⟨x_oM127, x_okA4⟩, List.forall_mem_cons.mpr ⟨⟨x_oM128, x_okA4⟩, List.forall_mem_cons.mpr ⟨⟨x_oM129, x_okA4⟩, List.forall_mem_cons.mpr ⟨⟨x_oM130, x_okA4⟩, List.forall_mem_cons.mpr ⟨⟨x_oM131, x_okA4⟩, fun _ h => absurd h List.not_mem_nil⟩⟩⟩⟩⟩⟩⟩⟩⟩⟩⟩⟩⟩⟩⟩⟩⟩⟩⟩⟩⟩⟩⟩⟩⟩⟩
