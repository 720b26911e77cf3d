/-! The methods of WireHouseModel are what the tables say (a share of them). -/
theorem x_oM734 : x_okM x_big x_M734 := x_okM_of (x_ch_ok 51 _ (List.mem_of_getElem? (i := 100) rfl) rfl) (by decide +kernel) (by decide +kernel)
theorem x_oM735 : x_okM x_big x_M735 := x_okM_of (x_ch_ok 51 _ (List.mem_of_getElem? (i := 118) rfl) rfl) (by decide +kernel) (by decide +kernel)
theorem x_oM736 : x_okM x_big x_M736 := x_okM_of (x_ch_ok 51 _ (List.mem_of_getElem? (i := 104) rfl) rfl) (by decide +kernel) (by decide +kernel)
theorem x_oM737 : x_okM x_big x_M737 := x_okM_of (x_ch_ok 51 _ (List.mem_of_getElem? (i := 113) rfl) rfl) (by decide +kernel) (by decide +kernel)
theorem x_oM738 : x_okM x_big x_M738 := x_okM_of (x_ch_ok 51 _ (List.mem_of_getElem? (i := 108) rfl) rfl) (by decide +kernel) (by decide +kernel)
theorem x_oM739 : x_okM x_big x_M739 := x_okM_of (x_ch_ok 51 _ (List.mem_of_getElem? (i := 122) rfl) rfl) (by decide +kernel) (by decide +kernel)
theorem x_oM740 : x_okM x_big x_M740 := x_okM_of (x_ch_ok 51 _ (List.mem_of_getElem? (i := 126) rfl) rfl) (by decide +kernel) (by decide +kernel)
