/-! The methods of WireHouseModel are what the tables say (a share of them). -/
theorem x_oM656 : x_okM x_big x_M656 := x_okM_of (x_ch_ok 50 _ (List.mem_of_getElem? (i := 48) rfl) rfl) (by decide +kernel) (by decide +kernel)
theorem x_oM657 : x_okM x_big x_M657 := x_okM_of (x_ch_ok 50 _ (List.mem_of_getElem? (i := 24) rfl) rfl) (by decide +kernel) (by decide +kernel)
theorem x_oM658 : x_okM x_big x_M658 := x_okM_of (x_ch_ok 50 _ (List.mem_of_getElem? (i := 28) rfl) rfl) (by decide +kernel) (by decide +kernel)
theorem x_oM659 : x_okM x_big x_M659 := x_okM_of (x_ch_ok 49 _ (List.mem_of_getElem? (i := 109) rfl) rfl) (by decide +kernel) (by decide +kernel)
theorem x_oM660 : x_okM x_big x_M660 := x_okM_of (x_ch_ok 49 _ (List.mem_of_getElem? (i := 101) rfl) rfl) (by decide +kernel) (by decide +kernel)
theorem x_oM661 : x_okM x_big x_M661 := x_okM_of (x_ch_ok 49 _ (List.mem_of_getElem? (i := 97) rfl) rfl) (by decide +kernel) (by decide +kernel)
theorem x_oM662 : x_okM x_big x_M662 := x_okM_of (x_ch_ok 50 _ (List.mem_of_getElem? (i := 52) rfl) rfl) (by decide +kernel) (by decide +kernel)
