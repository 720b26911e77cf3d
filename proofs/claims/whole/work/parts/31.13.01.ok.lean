/-! The large method. -/
theorem x_oM410 : x_okM x_big x_M410 := x_okM_of x_hM410 (by decide +kernel) x_rM410
