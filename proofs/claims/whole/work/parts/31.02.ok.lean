/-! The methods of WireHouse$Judge are what the tables say. -/
theorem x_PA1 : x_P1 = x_plain x_A1 := by rfl
set_option maxRecDepth 100000 in
theorem x_okA1 : ∀ q ∈ x_P1.flatten, x_okL x_cls x_MT x_big x_nx "WireHouse$Judge" q.1 q.2 := by
  rw [x_PA1]
  exact x_ckA_ok x_ch_ok x_cn_ok (by decide +kernel)
theorem x_oM19 : x_okM x_big x_M19 := x_ckM_ok x_ch_ok (ix := 33030) (by decide +kernel)
theorem x_oM20 : x_okM x_big x_M20 := x_ckM_ok x_ch_ok (ix := 40196) (by decide +kernel)
theorem x_oM21 : x_okM x_big x_M21 := x_ckM_ok x_ch_ok (ix := 40111) (by decide +kernel)
theorem x_oM22 : x_okM x_big x_M22 := x_ckM_ok x_ch_ok (ix := 40115) (by decide +kernel)
theorem x_oM23 : x_okM x_big x_M23 := x_ckM_ok x_ch_ok (ix := 40166) (by decide +kernel)
theorem x_oM24 : x_okM x_big x_M24 := x_ckM_ok x_ch_ok (ix := 40170) (by decide +kernel)
theorem x_oM25 : x_okM x_big x_M25 := x_ckM_ok x_ch_ok (ix := 40180) (by decide +kernel)
theorem x_oM26 : x_okM x_big x_M26 := x_ckM_ok x_ch_ok (ix := 40175) (by decide +kernel)
theorem x_oM27 : x_okM x_big x_M27 := x_ckM_ok x_ch_ok (ix := 40138) (by decide +kernel)
theorem x_oM28 : x_okM x_big x_M28 := x_ckM_ok x_ch_ok (ix := 40142) (by decide +kernel)
theorem x_oM29 : x_okM x_big x_M29 := x_ckM_ok x_ch_ok (ix := 40160) (by decide +kernel)
theorem x_oM30 : x_okM x_big x_M30 := x_ckM_ok x_ch_ok (ix := 40146) (by decide +kernel)
theorem x_oM31 : x_okM x_big x_M31 := x_ckM_ok x_ch_ok (ix := 40127) (by decide +kernel)
theorem x_oM32 : x_okM x_big x_M32 := x_ckM_ok x_ch_ok (ix := 40124) (by decide +kernel)
theorem x_oM33 : x_okM x_big x_M33 := x_ckM_ok x_ch_ok (ix := 40121) (by decide +kernel)
theorem x_oM34 : x_okM x_big x_M34 := x_ckM_ok x_ch_ok (ix := 40131) (by decide +kernel)
theorem x_oM35 : x_okM x_big x_M35 := x_ckM_ok x_ch_ok (ix := 40134) (by decide +kernel)
theorem x_oM36 : x_okM x_big x_M36 := x_ckM_ok x_ch_ok (ix := 40184) (by decide +kernel)
theorem x_oM37 : x_okM x_big x_M37 := x_ckM_ok x_ch_ok (ix := 40188) (by decide +kernel)
theorem x_oM38 : x_okM x_big x_M38 := x_ckM_ok x_ch_ok (ix := 40066) (by decide +kernel)
theorem x_oM39 : x_okM x_big x_M39 := x_ckM_ok x_ch_ok (ix := 40071) (by decide +kernel)
theorem x_oM40 : x_okM x_big x_M40 := x_ckM_ok x_ch_ok (ix := 40079) (by decide +kernel)
theorem x_oM41 : x_okM x_big x_M41 := x_ckM_ok x_ch_ok (ix := 40090) (by decide +kernel)
theorem x_oM42 : x_okM x_big x_M42 := x_ckM_ok x_ch_ok (ix := 40098) (by decide +kernel)
theorem x_oM43 : x_okM x_big x_M43 := x_ckM_ok x_ch_ok (ix := 40102) (by decide +kernel)
set_option maxRecDepth 100000 in
theorem x_okK1 : ∀ M ∈ x_MT1, x_okM x_big M ∧ ∀ q ∈ M.2.2.2.2.2.2.flatten, x_okL x_cls x_MT x_big x_nx M.1.cls q.1 q.2 := List.forall_mem_cons.mpr ⟨⟨x_oM19, x_okA1⟩, List.forall_mem_cons.mpr ⟨⟨x_oM20, x_okA1⟩, List.forall_mem_cons.mpr ⟨⟨x_oM21, x_okA1⟩, List.forall_mem_cons.mpr ⟨⟨x_oM22, x_okA1⟩, List.forall_mem_cons.mpr ⟨⟨x_oM23, x_okA1⟩, List.forall_mem_cons.mpr ⟨⟨x_oM24, x_okA1⟩, List.forall_mem_cons.mpr ⟨⟨x_oM25, x_okA1⟩, List.forall_mem_cons.mpr ⟨⟨x_oM26, x_okA1⟩, List.forall_mem_cons.mpr ⟨⟨x_oM27, x_okA1⟩, List.forall_mem_cons.mpr ⟨⟨x_oM28, x_okA1⟩, List.forall_mem_cons.mpr ⟨⟨x_oM29, x_okA1⟩, List.forall_mem_cons.mpr ⟨⟨x_oM30, x_okA1⟩, List.forall_mem_cons.mpr ⟨⟨x_oM31, x_okA1⟩, List.forall_mem_cons.mpr ⟨⟨x_oM32, x_okA1⟩, List.forall_mem_cons.mpr ⟨⟨x_oM33, x_okA1⟩, List.forall_mem_cons.mpr ⟨⟨x_oM34, x_okA1⟩, List.forall_mem_cons.mpr ⟨⟨x_oM35, x_okA1⟩, List.forall_mem_cons.mpr ⟨⟨x_oM36, x_okA1⟩, List.forall_mem_cons.mpr ⟨⟨x_oM37, x_okA1⟩, List.forall_mem_cons.mpr ⟨⟨x_oM38, x_okA1⟩, List.forall_mem_cons.mpr ⟨⟨x_oM39, x_okA1⟩, List.forall_mem_cons.mpr ⟨⟨x_oM40, x_okA1⟩, List.forall_mem_cons.mpr ⟨⟨x_oM41, x_okA1⟩, List.forall_mem_cons.mpr ⟨⟨x_oM42, x_okA1⟩, List.forall_mem_cons.mpr ⟨⟨x_oM43, x_okA1⟩, fun _ h => absurd h List.not_mem_nil⟩⟩⟩⟩⟩⟩⟩⟩⟩⟩⟩⟩⟩⟩⟩⟩⟩⟩⟩⟩⟩⟩⟩⟩⟩
