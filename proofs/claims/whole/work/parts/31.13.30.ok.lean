/-! The methods of WireHouseModel are what the tables say (a share of them). -/
theorem x_oM743 : x_okM x_big x_M743 := x_okM_of (x_ch_ok 51 _ (List.mem_of_getElem? (i := 139) rfl) rfl) (by decide +kernel) (by decide +kernel)
theorem x_oM744 : x_okM x_big x_M744 := x_okM_of (x_ch_ok 51 _ (List.mem_of_getElem? (i := 147) rfl) rfl) (by decide +kernel) (by decide +kernel)
theorem x_oM745 : x_okM x_big x_M745 := x_okM_of (x_ch_ok 51 _ (List.mem_of_getElem? (i := 143) rfl) rfl) (by decide +kernel) (by decide +kernel)
theorem x_oM746 : x_okM x_big x_M746 := x_okM_of (x_ch_ok 51 _ (List.mem_of_getElem? (i := 151) rfl) rfl) (by decide +kernel) (by decide +kernel)
theorem x_oM747 : x_okM x_big x_M747 := x_okM_of (x_ch_ok 51 _ (List.mem_of_getElem? (i := 155) rfl) rfl) (by decide +kernel) (by decide +kernel)
theorem x_oM748 : x_okM x_big x_M748 := x_okM_of (x_ch_ok 51 _ (List.mem_of_getElem? (i := 159) rfl) rfl) (by decide +kernel) (by decide +kernel)
theorem x_oM749 : x_okM x_big x_M749 := x_okM_of (x_ch_ok 51 _ (List.mem_of_getElem? (i := 163) rfl) rfl) (by decide +kernel) (by decide +kernel)
theorem x_oM750 : x_okM x_big x_M750 := x_okM_of (x_ch_ok 51 _ (List.mem_of_getElem? (i := 167) rfl) rfl) (by decide +kernel) (by decide +kernel)
