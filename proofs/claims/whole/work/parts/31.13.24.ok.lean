/-! The methods of WireHouseModel are what the tables say (a share of them). -/
theorem x_oM676 : x_okM x_big x_M676 := x_okM_of (x_ch_ok 50 _ (List.mem_of_getElem? (i := 119) rfl) rfl) (by decide +kernel) (by decide +kernel)
theorem x_oM677 : x_okM x_big x_M677 := x_okM_of (x_ch_ok 50 _ (List.mem_of_getElem? (i := 93) rfl) rfl) (by decide +kernel) (by decide +kernel)
theorem x_oM678 : x_okM x_big x_M678 := x_okM_of (x_ch_ok 50 _ (List.mem_of_getElem? (i := 124) rfl) rfl) (by decide +kernel) (by decide +kernel)
theorem x_oM679 : x_okM x_big x_M679 := x_okM_of (x_ch_ok 50 _ (List.mem_of_getElem? (i := 128) rfl) rfl) (by decide +kernel) (by decide +kernel)
theorem x_oM680 : x_okM x_big x_M680 := x_okM_of (x_ch_ok 50 _ (List.mem_of_getElem? (i := 132) rfl) rfl) (by decide +kernel) (by decide +kernel)
theorem x_oM681 : x_okM x_big x_M681 := x_okM_of (x_ch_ok 50 _ (List.mem_of_getElem? (i := 136) rfl) rfl) (by decide +kernel) (by decide +kernel)
theorem x_oM682 : x_okM x_big x_M682 := x_okM_of (x_ch_ok 50 _ (List.mem_of_getElem? (i := 148) rfl) rfl) (by decide +kernel) (by decide +kernel)
theorem x_oM683 : x_okM x_big x_M683 := x_okM_of (x_ch_ok 50 _ (List.mem_of_getElem? (i := 140) rfl) rfl) (by decide +kernel) (by decide +kernel)
