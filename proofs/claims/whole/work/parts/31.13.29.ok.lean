/-! The methods of WireHouseModel are what the tables say (a share of them). -/
theorem x_oM736 : x_okM x_big x_M736 := x_okM_of (x_ch_ok 51 _ (List.mem_of_getElem? (i := 109) rfl) rfl) (by decide +kernel) (by decide +kernel)
theorem x_oM737 : x_okM x_big x_M737 := x_okM_of (x_ch_ok 51 _ (List.mem_of_getElem? (i := 127) rfl) rfl) (by decide +kernel) (by decide +kernel)
theorem x_oM738 : x_okM x_big x_M738 := x_okM_of (x_ch_ok 51 _ (List.mem_of_getElem? (i := 113) rfl) rfl) (by decide +kernel) (by decide +kernel)
theorem x_oM739 : x_okM x_big x_M739 := x_okM_of (x_ch_ok 51 _ (List.mem_of_getElem? (i := 122) rfl) rfl) (by decide +kernel) (by decide +kernel)
theorem x_oM740 : x_okM x_big x_M740 := x_okM_of (x_ch_ok 51 _ (List.mem_of_getElem? (i := 117) rfl) rfl) (by decide +kernel) (by decide +kernel)
theorem x_oM741 : x_okM x_big x_M741 := x_okM_of (x_ch_ok 51 _ (List.mem_of_getElem? (i := 131) rfl) rfl) (by decide +kernel) (by decide +kernel)
theorem x_oM742 : x_okM x_big x_M742 := x_okM_of (x_ch_ok 51 _ (List.mem_of_getElem? (i := 135) rfl) rfl) (by decide +kernel) (by decide +kernel)
