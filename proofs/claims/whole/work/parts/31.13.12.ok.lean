/-! The methods of WireHouseModel are what the tables say (a share of them). -/
theorem x_oM531 : x_okM x_big x_M531 := x_okM_of (x_ch_ok 47 _ (List.mem_of_getElem? (i := 149) rfl) rfl) (by decide +kernel) (by decide +kernel)
theorem x_oM532 : x_okM x_big x_M532 := x_okM_of (x_ch_ok 47 _ (List.mem_of_getElem? (i := 133) rfl) rfl) (by decide +kernel) (by decide +kernel)
theorem x_oM533 : x_okM x_big x_M533 := x_okM_of (x_ch_ok 48 _ (List.mem_of_getElem? (i := 9) rfl) rfl) (by decide +kernel) (by decide +kernel)
theorem x_oM534 : x_okM x_big x_M534 := x_okM_of (x_ch_ok 48 _ (List.mem_of_getElem? (i := 17) rfl) rfl) (by decide +kernel) (by decide +kernel)
theorem x_oM535 : x_okM x_big x_M535 := x_okM_of (x_ch_ok 48 _ (List.mem_of_getElem? (i := 13) rfl) rfl) (by decide +kernel) (by decide +kernel)
theorem x_oM536 : x_okM x_big x_M536 := x_okM_of (x_ch_ok 47 _ (List.mem_of_getElem? (i := 173) rfl) rfl) (by decide +kernel) (by decide +kernel)
theorem x_oM537 : x_okM x_big x_M537 := x_okM_of (x_ch_ok 47 _ (List.mem_of_getElem? (i := 221) rfl) rfl) (by decide +kernel) (by decide +kernel)
theorem x_oM538 : x_okM x_big x_M538 := x_okM_of (x_ch_ok 47 _ (List.mem_of_getElem? (i := 169) rfl) rfl) (by decide +kernel) (by decide +kernel)
