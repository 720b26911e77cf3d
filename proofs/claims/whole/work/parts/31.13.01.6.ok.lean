/-! The large method's rows together. -/
theorem x_rM408 : x_ckR prog_14_method_1_code x_R408 = true := (x_ckR_cat 8 x_kR408_0 (x_ckR_cat 8 x_kR408_1 (x_ckR_cat 8 x_kR408_2 (x_ckR_cat 8 x_kR408_3 (x_ckR_cat 8 x_kR408_4 (x_ckR_cat 8 x_kR408_5 (x_ckR_cat 4 x_kR408_6 (x_ckR_cat 4 x_kR408_7 x_kR408_8))))))))
