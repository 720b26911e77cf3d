/-! The methods of WireHouseModel are what the tables say (a share of them). -/
theorem x_oM458 : x_okM x_big x_M458 := x_okM_of (x_ch_ok 46 _ (List.mem_of_getElem? (i := 174) rfl) rfl) (by decide +kernel) (by decide +kernel)
theorem x_oM459 : x_okM x_big x_M459 := x_okM_of (x_ch_ok 46 _ (List.mem_of_getElem? (i := 187) rfl) rfl) (by decide +kernel) (by decide +kernel)
theorem x_oM460 : x_okM x_big x_M460 := x_okM_of (x_ch_ok 46 _ (List.mem_of_getElem? (i := 237) rfl) rfl) (by decide +kernel) (by decide +kernel)
theorem x_oM461 : x_okM x_big x_M461 := x_okM_of (x_ch_ok 46 _ (List.mem_of_getElem? (i := 195) rfl) rfl) (by decide +kernel) (by decide +kernel)
theorem x_oM462 : x_okM x_big x_M462 := x_okM_of (x_ch_ok 46 _ (List.mem_of_getElem? (i := 170) rfl) rfl) (by decide +kernel) (by decide +kernel)
theorem x_oM463 : x_okM x_big x_M463 := x_okM_of (x_ch_ok 46 _ (List.mem_of_getElem? (i := 216) rfl) rfl) (by decide +kernel) (by decide +kernel)
theorem x_oM464 : x_okM x_big x_M464 := x_okM_of (x_ch_ok 46 _ (List.mem_of_getElem? (i := 178) rfl) rfl) (by decide +kernel) (by decide +kernel)
theorem x_oM465 : x_okM x_big x_M465 := x_okM_of (x_ch_ok 46 _ (List.mem_of_getElem? (i := 183) rfl) rfl) (by decide +kernel) (by decide +kernel)
