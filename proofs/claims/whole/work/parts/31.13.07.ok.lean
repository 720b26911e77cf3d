/-! The methods of WireHouseModel are what the tables say (a share of them). -/
theorem x_oM466 : x_okM x_big x_M466 := x_okM_of (x_ch_ok 46 _ (List.mem_of_getElem? (i := 212) rfl) rfl) (by decide +kernel) (by decide +kernel)
theorem x_oM467 : x_okM x_big x_M467 := x_okM_of (x_ch_ok 46 _ (List.mem_of_getElem? (i := 203) rfl) rfl) (by decide +kernel) (by decide +kernel)
theorem x_oM468 : x_okM x_big x_M468 := x_okM_of (x_ch_ok 46 _ (List.mem_of_getElem? (i := 191) rfl) rfl) (by decide +kernel) (by decide +kernel)
theorem x_oM469 : x_okM x_big x_M469 := x_okM_of (x_ch_ok 46 _ (List.mem_of_getElem? (i := 199) rfl) rfl) (by decide +kernel) (by decide +kernel)
theorem x_oM470 : x_okM x_big x_M470 := x_okM_of (x_ch_ok 46 _ (List.mem_of_getElem? (i := 220) rfl) rfl) (by decide +kernel) (by decide +kernel)
theorem x_oM471 : x_okM x_big x_M471 := x_okM_of (x_ch_ok 46 _ (List.mem_of_getElem? (i := 225) rfl) rfl) (by decide +kernel) (by decide +kernel)
theorem x_oM472 : x_okM x_big x_M472 := x_okM_of (x_ch_ok 46 _ (List.mem_of_getElem? (i := 233) rfl) rfl) (by decide +kernel) (by decide +kernel)
theorem x_oM473 : x_okM x_big x_M473 := x_okM_of (x_ch_ok 46 _ (List.mem_of_getElem? (i := 229) rfl) rfl) (by decide +kernel) (by decide +kernel)
