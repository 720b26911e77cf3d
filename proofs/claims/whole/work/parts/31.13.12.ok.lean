/-! The methods of WireHouseModel are what the tables say (a share of them). -/
theorem x_oM533 : x_okM x_big x_M533 := x_okM_of (x_ch_ok 47 _ (List.mem_of_getElem? (i := 158) rfl) rfl) (by decide +kernel) (by decide +kernel)
theorem x_oM534 : x_okM x_big x_M534 := x_okM_of (x_ch_ok 47 _ (List.mem_of_getElem? (i := 142) rfl) rfl) (by decide +kernel) (by decide +kernel)
theorem x_oM535 : x_okM x_big x_M535 := x_okM_of (x_ch_ok 48 _ (List.mem_of_getElem? (i := 18) rfl) rfl) (by decide +kernel) (by decide +kernel)
theorem x_oM536 : x_okM x_big x_M536 := x_okM_of (x_ch_ok 48 _ (List.mem_of_getElem? (i := 26) rfl) rfl) (by decide +kernel) (by decide +kernel)
theorem x_oM537 : x_okM x_big x_M537 := x_okM_of (x_ch_ok 48 _ (List.mem_of_getElem? (i := 22) rfl) rfl) (by decide +kernel) (by decide +kernel)
theorem x_oM538 : x_okM x_big x_M538 := x_okM_of (x_ch_ok 47 _ (List.mem_of_getElem? (i := 182) rfl) rfl) (by decide +kernel) (by decide +kernel)
theorem x_oM539 : x_okM x_big x_M539 := x_okM_of (x_ch_ok 47 _ (List.mem_of_getElem? (i := 230) rfl) rfl) (by decide +kernel) (by decide +kernel)
theorem x_oM540 : x_okM x_big x_M540 := x_okM_of (x_ch_ok 47 _ (List.mem_of_getElem? (i := 178) rfl) rfl) (by decide +kernel) (by decide +kernel)
