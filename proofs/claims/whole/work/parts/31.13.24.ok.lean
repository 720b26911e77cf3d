/-! The methods of WireHouseModel are what the tables say (a share of them). -/
theorem x_oM674 : x_okM x_big x_M674 := x_okM_of (x_ch_ok 50 _ (List.mem_of_getElem? (i := 110) rfl) rfl) (by decide +kernel) (by decide +kernel)
theorem x_oM675 : x_okM x_big x_M675 := x_okM_of (x_ch_ok 50 _ (List.mem_of_getElem? (i := 84) rfl) rfl) (by decide +kernel) (by decide +kernel)
theorem x_oM676 : x_okM x_big x_M676 := x_okM_of (x_ch_ok 50 _ (List.mem_of_getElem? (i := 115) rfl) rfl) (by decide +kernel) (by decide +kernel)
theorem x_oM677 : x_okM x_big x_M677 := x_okM_of (x_ch_ok 50 _ (List.mem_of_getElem? (i := 119) rfl) rfl) (by decide +kernel) (by decide +kernel)
theorem x_oM678 : x_okM x_big x_M678 := x_okM_of (x_ch_ok 50 _ (List.mem_of_getElem? (i := 123) rfl) rfl) (by decide +kernel) (by decide +kernel)
theorem x_oM679 : x_okM x_big x_M679 := x_okM_of (x_ch_ok 50 _ (List.mem_of_getElem? (i := 127) rfl) rfl) (by decide +kernel) (by decide +kernel)
theorem x_oM680 : x_okM x_big x_M680 := x_okM_of (x_ch_ok 50 _ (List.mem_of_getElem? (i := 139) rfl) rfl) (by decide +kernel) (by decide +kernel)
theorem x_oM681 : x_okM x_big x_M681 := x_okM_of (x_ch_ok 50 _ (List.mem_of_getElem? (i := 131) rfl) rfl) (by decide +kernel) (by decide +kernel)
