/-! The methods of WireHouseModel are what the tables say (a share of them). -/
theorem x_oM442 : x_okM x_big x_M442 := x_okM_of (x_ch_ok 46 _ (List.mem_of_getElem? (i := 102) rfl) rfl) (by decide +kernel) (by decide +kernel)
theorem x_oM443 : x_okM x_big x_M443 := x_okM_of (x_ch_ok 46 _ (List.mem_of_getElem? (i := 106) rfl) rfl) (by decide +kernel) (by decide +kernel)
theorem x_oM444 : x_okM x_big x_M444 := x_okM_of (x_ch_ok 46 _ (List.mem_of_getElem? (i := 122) rfl) rfl) (by decide +kernel) (by decide +kernel)
theorem x_oM445 : x_okM x_big x_M445 := x_okM_of (x_ch_ok 46 _ (List.mem_of_getElem? (i := 114) rfl) rfl) (by decide +kernel) (by decide +kernel)
theorem x_oM446 : x_okM x_big x_M446 := x_okM_of (x_ch_ok 46 _ (List.mem_of_getElem? (i := 110) rfl) rfl) (by decide +kernel) (by decide +kernel)
theorem x_oM447 : x_okM x_big x_M447 := x_okM_of (x_ch_ok 46 _ (List.mem_of_getElem? (i := 118) rfl) rfl) (by decide +kernel) (by decide +kernel)
theorem x_oM448 : x_okM x_big x_M448 := x_okM_of (x_ch_ok 46 _ (List.mem_of_getElem? (i := 126) rfl) rfl) (by decide +kernel) (by decide +kernel)
