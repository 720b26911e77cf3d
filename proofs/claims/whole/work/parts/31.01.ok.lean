/-! The methods of WireHouse$Bytes are what the tables say. -/
theorem x_PA0 : x_P0 = x_plain x_A0 := by rfl
set_option maxRecDepth 100000 in
theorem x_okA0 : ∀ q ∈ x_P0.flatten, x_okL x_cls x_MT x_big x_nx "WireHouse$Bytes" q.1 q.2 := by
  rw [x_PA0]
  exact x_ckA_ok x_ch_ok x_cn_ok (by decide +kernel)
theorem x_oM0 : x_okM x_big x_M0 := x_ckM_ok x_ch_ok (ix := 31067) (by decide +kernel)
theorem x_oM1 : x_okM x_big x_M1 := x_ckM_ok x_ch_ok (ix := 33092) (by decide +kernel)
theorem x_oM2 : x_okM x_big x_M2 := x_ckM_ok x_ch_ok (ix := 34012) (by decide +kernel)
theorem x_oM3 : x_okM x_big x_M3 := x_ckM_ok x_ch_ok (ix := 34074) (by decide +kernel)
theorem x_oM4 : x_okM x_big x_M4 := x_ckM_ok x_ch_ok (ix := 33096) (by decide +kernel)
theorem x_oM5 : x_okM x_big x_M5 := x_ckM_ok x_ch_ok (ix := 37220) (by decide +kernel)
theorem x_oM6 : x_okM x_big x_M6 := x_ckM_ok x_ch_ok (ix := 34016) (by decide +kernel)
theorem x_oM7 : x_okM x_big x_M7 := x_ckM_ok x_ch_ok (ix := 34008) (by decide +kernel)
theorem x_oM8 : x_okM x_big x_M8 := x_ckM_ok x_ch_ok (ix := 33088) (by decide +kernel)
theorem x_oM9 : x_okM x_big x_M9 := x_ckM_ok x_ch_ok (ix := 33233) (by decide +kernel)
theorem x_oM10 : x_okM x_big x_M10 := x_ckM_ok x_ch_ok (ix := 38062) (by decide +kernel)
theorem x_oM11 : x_okM x_big x_M11 := x_ckM_ok x_ch_ok (ix := 39094) (by decide +kernel)
theorem x_oM12 : x_okM x_big x_M12 := x_ckM_ok x_ch_ok (ix := 38157) (by decide +kernel)
theorem x_oM13 : x_okM x_big x_M13 := x_ckM_ok x_ch_ok (ix := 38041) (by decide +kernel)
theorem x_oM14 : x_okM x_big x_M14 := x_ckM_ok x_ch_ok (ix := 38071) (by decide +kernel)
theorem x_oM15 : x_okM x_big x_M15 := x_ckM_ok x_ch_ok (ix := 34044) (by decide +kernel)
theorem x_oM16 : x_okM x_big x_M16 := x_ckM_ok x_ch_ok (ix := 37056) (by decide +kernel)
theorem x_oM17 : x_okM x_big x_M17 := x_ckM_ok x_ch_ok (ix := 36021) (by decide +kernel)
theorem x_oM18 : x_okM x_big x_M18 := x_ckM_ok x_ch_ok (ix := 36025) (by decide +kernel)
set_option maxRecDepth 100000 in
theorem x_okK0 : ∀ M ∈ x_MT0, x_okM x_big M ∧ ∀ q ∈ M.2.2.2.2.2.2.flatten, x_okL x_cls x_MT x_big x_nx M.1.cls q.1 q.2 := List.forall_mem_cons.mpr ⟨⟨x_oM0, x_okA0⟩, List.forall_mem_cons.mpr ⟨⟨x_oM1, x_okA0⟩, List.forall_mem_cons.mpr ⟨⟨x_oM2, x_okA0⟩, List.forall_mem_cons.mpr ⟨⟨x_oM3, x_okA0⟩, List.forall_mem_cons.mpr ⟨⟨x_oM4, x_okA0⟩, List.forall_mem_cons.mpr ⟨⟨x_oM5, x_okA0⟩, List.forall_mem_cons.mpr ⟨⟨x_oM6, x_okA0⟩, List.forall_mem_cons.mpr ⟨⟨x_oM7, x_okA0⟩, List.forall_mem_cons.mpr ⟨⟨x_oM8, x_okA0⟩, List.forall_mem_cons.mpr ⟨⟨x_oM9, x_okA0⟩, List.forall_mem_cons.mpr ⟨⟨x_oM10, x_okA0⟩, List.forall_mem_cons.mpr ⟨⟨x_oM11, x_okA0⟩, List.forall_mem_cons.mpr ⟨⟨x_oM12, x_okA0⟩, List.forall_mem_cons.mpr ⟨⟨x_oM13, x_okA0⟩, List.forall_mem_cons.mpr ⟨⟨x_oM14, x_okA0⟩, List.forall_mem_cons.mpr ⟨⟨x_oM15, x_okA0⟩, List.forall_mem_cons.mpr ⟨⟨x_oM16, x_okA0⟩, List.forall_mem_cons.mpr ⟨⟨x_oM17, x_okA0⟩, List.forall_mem_cons.mpr ⟨⟨x_oM18, x_okA0⟩, fun _ h => absurd h List.not_mem_nil⟩⟩⟩⟩⟩⟩⟩⟩⟩⟩⟩⟩⟩⟩⟩⟩⟩⟩⟩
