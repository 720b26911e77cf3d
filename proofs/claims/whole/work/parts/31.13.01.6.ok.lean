/-! The large method's rows together. -/
theorem x_rM410 : x_ckR prog_14_method_1_code x_R410 = true := (x_ckR_cat 8 x_kR410_0 (x_ckR_cat 8 x_kR410_1 (x_ckR_cat 8 x_kR410_2 (x_ckR_cat 8 x_kR410_3 (x_ckR_cat 8 x_kR410_4 (x_ckR_cat 8 x_kR410_5 (x_ckR_cat 4 x_kR410_6 (x_ckR_cat 4 x_kR410_7 x_kR410_8))))))))
