/-! The methods of WireHouseModel are what the tables say (a share of them). -/
theorem x_oM444 : x_okM x_big x_M444 := x_okM_of (x_ch_ok 46 _ (List.mem_of_getElem? (i := 111) rfl) rfl) (by decide +kernel) (by decide +kernel)
theorem x_oM445 : x_okM x_big x_M445 := x_okM_of (x_ch_ok 46 _ (List.mem_of_getElem? (i := 115) rfl) rfl) (by decide +kernel) (by decide +kernel)
theorem x_oM446 : x_okM x_big x_M446 := x_okM_of (x_ch_ok 46 _ (List.mem_of_getElem? (i := 131) rfl) rfl) (by decide +kernel) (by decide +kernel)
theorem x_oM447 : x_okM x_big x_M447 := x_okM_of (x_ch_ok 46 _ (List.mem_of_getElem? (i := 123) rfl) rfl) (by decide +kernel) (by decide +kernel)
theorem x_oM448 : x_okM x_big x_M448 := x_okM_of (x_ch_ok 46 _ (List.mem_of_getElem? (i := 119) rfl) rfl) (by decide +kernel) (by decide +kernel)
theorem x_oM449 : x_okM x_big x_M449 := x_okM_of (x_ch_ok 46 _ (List.mem_of_getElem? (i := 127) rfl) rfl) (by decide +kernel) (by decide +kernel)
theorem x_oM450 : x_okM x_big x_M450 := x_okM_of (x_ch_ok 46 _ (List.mem_of_getElem? (i := 135) rfl) rfl) (by decide +kernel) (by decide +kernel)
