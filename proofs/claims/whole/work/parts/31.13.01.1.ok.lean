/-! More of its rows. -/
theorem x_kR410_3 : x_ckR prog_14_method_1_code ((((x_R410.drop 8).drop 8).drop 8).take 8) = true := by decide +kernel
theorem x_kR410_4 : x_ckR prog_14_method_1_code (((((x_R410.drop 8).drop 8).drop 8).drop 8).take 8) = true := by decide +kernel
