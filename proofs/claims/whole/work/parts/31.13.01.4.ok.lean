/-! More of its rows. -/
theorem x_kR410_7 : x_ckR prog_14_method_1_code ((((((((x_R410.drop 8).drop 8).drop 8).drop 8).drop 8).drop 8).drop 4).take 4) = true := by decide +kernel
theorem x_kR410_8 : x_ckR prog_14_method_1_code ((((((((x_R410.drop 8).drop 8).drop 8).drop 8).drop 8).drop 8).drop 4).drop 4) = true := by decide +kernel
