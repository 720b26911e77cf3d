/-! More of its rows. -/
theorem x_kR408_5 : x_ckR prog_14_method_1_code ((((((x_R408.drop 8).drop 8).drop 8).drop 8).drop 8).take 8) = true := by decide +kernel
