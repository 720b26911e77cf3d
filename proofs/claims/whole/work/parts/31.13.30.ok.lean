/-! The methods of WireHouseModel are what the tables say (a share of them). -/
theorem x_oM741 : x_okM x_big x_M741 := x_okM_of (x_ch_ok 51 _ (List.mem_of_getElem? (i := 130) rfl) rfl) (by decide +kernel) (by decide +kernel)
theorem x_oM742 : x_okM x_big x_M742 := x_okM_of (x_ch_ok 51 _ (List.mem_of_getElem? (i := 138) rfl) rfl) (by decide +kernel) (by decide +kernel)
theorem x_oM743 : x_okM x_big x_M743 := x_okM_of (x_ch_ok 51 _ (List.mem_of_getElem? (i := 134) rfl) rfl) (by decide +kernel) (by decide +kernel)
theorem x_oM744 : x_okM x_big x_M744 := x_okM_of (x_ch_ok 51 _ (List.mem_of_getElem? (i := 142) rfl) rfl) (by decide +kernel) (by decide +kernel)
theorem x_oM745 : x_okM x_big x_M745 := x_okM_of (x_ch_ok 51 _ (List.mem_of_getElem? (i := 146) rfl) rfl) (by decide +kernel) (by decide +kernel)
theorem x_oM746 : x_okM x_big x_M746 := x_okM_of (x_ch_ok 51 _ (List.mem_of_getElem? (i := 150) rfl) rfl) (by decide +kernel) (by decide +kernel)
theorem x_oM747 : x_okM x_big x_M747 := x_okM_of (x_ch_ok 51 _ (List.mem_of_getElem? (i := 154) rfl) rfl) (by decide +kernel) (by decide +kernel)
theorem x_oM748 : x_okM x_big x_M748 := x_okM_of (x_ch_ok 51 _ (List.mem_of_getElem? (i := 158) rfl) rfl) (by decide +kernel) (by decide +kernel)
