/-! The methods of WireHouseModel are what the tables say (a share of them). -/
theorem x_oM658 : x_okM x_big x_M658 := x_okM_of (x_ch_ok 50 _ (List.mem_of_getElem? (i := 57) rfl) rfl) (by decide +kernel) (by decide +kernel)
theorem x_oM659 : x_okM x_big x_M659 := x_okM_of (x_ch_ok 50 _ (List.mem_of_getElem? (i := 33) rfl) rfl) (by decide +kernel) (by decide +kernel)
theorem x_oM660 : x_okM x_big x_M660 := x_okM_of (x_ch_ok 50 _ (List.mem_of_getElem? (i := 37) rfl) rfl) (by decide +kernel) (by decide +kernel)
theorem x_oM661 : x_okM x_big x_M661 := x_okM_of (x_ch_ok 49 _ (List.mem_of_getElem? (i := 118) rfl) rfl) (by decide +kernel) (by decide +kernel)
theorem x_oM662 : x_okM x_big x_M662 := x_okM_of (x_ch_ok 49 _ (List.mem_of_getElem? (i := 110) rfl) rfl) (by decide +kernel) (by decide +kernel)
theorem x_oM663 : x_okM x_big x_M663 := x_okM_of (x_ch_ok 49 _ (List.mem_of_getElem? (i := 106) rfl) rfl) (by decide +kernel) (by decide +kernel)
theorem x_oM664 : x_okM x_big x_M664 := x_okM_of (x_ch_ok 50 _ (List.mem_of_getElem? (i := 61) rfl) rfl) (by decide +kernel) (by decide +kernel)
