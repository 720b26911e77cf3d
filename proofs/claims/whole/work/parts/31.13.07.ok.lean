/-! The methods of WireHouseModel are what the tables say (a share of them). -/
theorem x_oM468 : x_okM x_big x_M468 := x_okM_of (x_ch_ok 46 _ (List.mem_of_getElem? (i := 221) rfl) rfl) (by decide +kernel) (by decide +kernel)
theorem x_oM469 : x_okM x_big x_M469 := x_okM_of (x_ch_ok 46 _ (List.mem_of_getElem? (i := 212) rfl) rfl) (by decide +kernel) (by decide +kernel)
theorem x_oM470 : x_okM x_big x_M470 := x_okM_of (x_ch_ok 46 _ (List.mem_of_getElem? (i := 200) rfl) rfl) (by decide +kernel) (by decide +kernel)
theorem x_oM471 : x_okM x_big x_M471 := x_okM_of (x_ch_ok 46 _ (List.mem_of_getElem? (i := 208) rfl) rfl) (by decide +kernel) (by decide +kernel)
theorem x_oM472 : x_okM x_big x_M472 := x_okM_of (x_ch_ok 46 _ (List.mem_of_getElem? (i := 229) rfl) rfl) (by decide +kernel) (by decide +kernel)
theorem x_oM473 : x_okM x_big x_M473 := x_okM_of (x_ch_ok 46 _ (List.mem_of_getElem? (i := 234) rfl) rfl) (by decide +kernel) (by decide +kernel)
theorem x_oM474 : x_okM x_big x_M474 := x_okM_of (x_ch_ok 47 _ (List.mem_of_getElem? (i := 2) rfl) rfl) (by decide +kernel) (by decide +kernel)
theorem x_oM475 : x_okM x_big x_M475 := x_okM_of (x_ch_ok 46 _ (List.mem_of_getElem? (i := 238) rfl) rfl) (by decide +kernel) (by decide +kernel)
