/-! The methods of WireHouseModel are what the tables say (a share of them). -/
theorem x_oM460 : x_okM x_big x_M460 := x_okM_of (x_ch_ok 46 _ (List.mem_of_getElem? (i := 183) rfl) rfl) (by decide +kernel) (by decide +kernel)
theorem x_oM461 : x_okM x_big x_M461 := x_okM_of (x_ch_ok 46 _ (List.mem_of_getElem? (i := 196) rfl) rfl) (by decide +kernel) (by decide +kernel)
theorem x_oM462 : x_okM x_big x_M462 := x_okM_of (x_ch_ok 47 _ (List.mem_of_getElem? (i := 6) rfl) rfl) (by decide +kernel) (by decide +kernel)
theorem x_oM463 : x_okM x_big x_M463 := x_okM_of (x_ch_ok 46 _ (List.mem_of_getElem? (i := 204) rfl) rfl) (by decide +kernel) (by decide +kernel)
theorem x_oM464 : x_okM x_big x_M464 := x_okM_of (x_ch_ok 46 _ (List.mem_of_getElem? (i := 179) rfl) rfl) (by decide +kernel) (by decide +kernel)
theorem x_oM465 : x_okM x_big x_M465 := x_okM_of (x_ch_ok 46 _ (List.mem_of_getElem? (i := 225) rfl) rfl) (by decide +kernel) (by decide +kernel)
theorem x_oM466 : x_okM x_big x_M466 := x_okM_of (x_ch_ok 46 _ (List.mem_of_getElem? (i := 187) rfl) rfl) (by decide +kernel) (by decide +kernel)
theorem x_oM467 : x_okM x_big x_M467 := x_okM_of (x_ch_ok 46 _ (List.mem_of_getElem? (i := 192) rfl) rfl) (by decide +kernel) (by decide +kernel)
