/-! The large method. -/
theorem x_oM408 : x_okM x_big x_M408 := x_okM_of x_hM408 (by decide +kernel) x_rM408
