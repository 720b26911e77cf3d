/-! The methods of WireHouse$Table are what the tables say. -/
theorem x_PA8 : x_P8 = x_plain x_A8 := by rfl
set_option maxRecDepth 100000 in
theorem x_okA8 : ∀ q ∈ x_P8.flatten, x_okL x_cls x_MT x_big x_nx "WireHouse$Table" q.1 q.2 := by
  rw [x_PA8]
  exact x_ckA_ok x_ch_ok x_cn_ok (by decide +kernel)
theorem x_oM258 : x_okM x_big x_M258 := x_ckM_ok x_ch_ok (ix := 31044) (by decide +kernel)
theorem x_oM259 : x_okM x_big x_M259 := x_ckM_ok x_ch_ok (ix := 35105) (by decide +kernel)
theorem x_oM260 : x_okM x_big x_M260 := x_ckM_ok x_ch_ok (ix := 35071) (by decide +kernel)
theorem x_oM261 : x_okM x_big x_M261 := x_ckM_ok x_ch_ok (ix := 35079) (by decide +kernel)
theorem x_oM262 : x_okM x_big x_M262 := x_ckM_ok x_ch_ok (ix := 37060) (by decide +kernel)
theorem x_oM263 : x_okM x_big x_M263 := x_ckM_ok x_ch_ok (ix := 35026) (by decide +kernel)
theorem x_oM264 : x_okM x_big x_M264 := x_ckM_ok x_ch_ok (ix := 35042) (by decide +kernel)
theorem x_oM265 : x_okM x_big x_M265 := x_ckM_ok x_ch_ok (ix := 36194) (by decide +kernel)
theorem x_oM266 : x_okM x_big x_M266 := x_ckM_ok x_ch_ok (ix := 35002) (by decide +kernel)
theorem x_oM267 : x_okM x_big x_M267 := x_ckM_ok x_ch_ok (ix := 41050) (by decide +kernel)
set_option maxRecDepth 100000 in
theorem x_okK8 : ∀ M ∈ x_MT8, x_okM x_big M ∧ ∀ q ∈ M.2.2.2.2.2.2.flatten, x_okL x_cls x_MT x_big x_nx M.1.cls q.1 q.2 := List.forall_mem_cons.mpr ⟨⟨x_oM258, x_okA8⟩, List.forall_mem_cons.mpr ⟨⟨x_oM259, x_okA8⟩, List.forall_mem_cons.mpr ⟨⟨x_oM260, x_okA8⟩, List.forall_mem_cons.mpr ⟨⟨x_oM261, x_okA8⟩, List.forall_mem_cons.mpr ⟨⟨x_oM262, x_okA8⟩, List.forall_mem_cons.mpr ⟨⟨x_oM263, x_okA8⟩, List.forall_mem_cons.mpr ⟨⟨x_oM264, x_okA8⟩, List.forall_mem_cons.mpr ⟨⟨x_oM265, x_okA8⟩, List.forall_mem_cons.mpr ⟨⟨x_oM266, x_okA8⟩, List.forall_mem_cons.mpr ⟨⟨x_oM267, x_okA8⟩, fun _ h => absurd h List.not_mem_nil⟩⟩⟩⟩⟩⟩⟩⟩⟩⟩
