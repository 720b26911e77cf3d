/-! The large method. -/
theorem x_oM408 : x_okM x_big x_M408 := x_ckH_ok x_ch_ok (ix := 41191) (by decide +kernel) (x_ckR_cat 8 x_kR408_0 (x_ckR_cat 8 x_kR408_1 (x_ckR_cat 8 x_kR408_2 (x_ckR_cat 8 x_kR408_3 (x_ckR_cat 8 x_kR408_4 (x_ckR_cat 8 x_kR408_5 (x_ckR_cat 8 x_kR408_6 x_kR408_7)))))))
