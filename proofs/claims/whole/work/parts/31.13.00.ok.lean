/-! The methods of WireHouseModel are what the tables say. -/
theorem x_PA12 : x_P12 = x_plain x_A12 := by rfl
set_option maxRecDepth 100000 in
theorem x_okA12 : ∀ q ∈ x_P12.flatten, x_okL x_cls x_MT x_big x_nx "WireHouseModel" q.1 q.2 := by
  rw [x_PA12]
  exact x_ckA_ok x_ch_ok x_cn_ok (by decide +kernel)
