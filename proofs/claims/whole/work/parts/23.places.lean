/-! Places of methods. -/
theorem x_ap {α : Type} {A B : List α} {n i : Nat} (hA : A.length = n) : (A ++ B)[n + i]? = B[i]? := by
  rw [List.getElem?_append_right (by omega), hA, Nat.add_sub_cancel_left]
def x_PF0 : List xM := x_MT0
set_option maxRecDepth 10000 in
theorem x_PFl0 : x_PF0.length = 19 := rfl
def x_PF1 : List xM := x_PF0 ++ x_MT1
set_option maxRecDepth 10000 in
theorem x_PFl1 : x_PF1.length = 44 := by
  show (x_PF0 ++ x_MT1).length = _
  rw [List.length_append, x_PFl0]
  rfl
theorem x_up1 {j : Nat} (h : j < 19) : x_PF1[j]? = x_PF0[j]? := by
  show (x_PF0 ++ x_MT1)[j]? = _
  exact List.getElem?_append_left (by rw [x_PFl0]; exact h)
def x_PF2 : List xM := x_PF1 ++ x_MT2
set_option maxRecDepth 10000 in
theorem x_PFl2 : x_PF2.length = 69 := by
  show (x_PF1 ++ x_MT2).length = _
  rw [List.length_append, x_PFl1]
  rfl
theorem x_up2 {j : Nat} (h : j < 44) : x_PF2[j]? = x_PF1[j]? := by
  show (x_PF1 ++ x_MT2)[j]? = _
  exact List.getElem?_append_left (by rw [x_PFl1]; exact h)
def x_PF3 : List xM := x_PF2 ++ x_MT3
set_option maxRecDepth 10000 in
theorem x_PFl3 : x_PF3.length = 106 := by
  show (x_PF2 ++ x_MT3).length = _
  rw [List.length_append, x_PFl2]
  rfl
theorem x_up3 {j : Nat} (h : j < 69) : x_PF3[j]? = x_PF2[j]? := by
  show (x_PF2 ++ x_MT3)[j]? = _
  exact List.getElem?_append_left (by rw [x_PFl2]; exact h)
def x_PF4 : List xM := x_PF3 ++ x_MT4
set_option maxRecDepth 10000 in
theorem x_PFl4 : x_PF4.length = 132 := by
  show (x_PF3 ++ x_MT4).length = _
  rw [List.length_append, x_PFl3]
  rfl
theorem x_up4 {j : Nat} (h : j < 106) : x_PF4[j]? = x_PF3[j]? := by
  show (x_PF3 ++ x_MT4)[j]? = _
  exact List.getElem?_append_left (by rw [x_PFl3]; exact h)
def x_PF5 : List xM := x_PF4 ++ x_MT5
set_option maxRecDepth 10000 in
theorem x_PFl5 : x_PF5.length = 178 := by
  show (x_PF4 ++ x_MT5).length = _
  rw [List.length_append, x_PFl4]
  rfl
theorem x_up5 {j : Nat} (h : j < 132) : x_PF5[j]? = x_PF4[j]? := by
  show (x_PF4 ++ x_MT5)[j]? = _
  exact List.getElem?_append_left (by rw [x_PFl4]; exact h)
def x_PF6 : List xM := x_PF5 ++ x_MT6
set_option maxRecDepth 10000 in
theorem x_PFl6 : x_PF6.length = 217 := by
  show (x_PF5 ++ x_MT6).length = _
  rw [List.length_append, x_PFl5]
  rfl
theorem x_up6 {j : Nat} (h : j < 178) : x_PF6[j]? = x_PF5[j]? := by
  show (x_PF5 ++ x_MT6)[j]? = _
  exact List.getElem?_append_left (by rw [x_PFl5]; exact h)
def x_PF7 : List xM := x_PF6 ++ x_MT7
set_option maxRecDepth 10000 in
theorem x_PFl7 : x_PF7.length = 258 := by
  show (x_PF6 ++ x_MT7).length = _
  rw [List.length_append, x_PFl6]
  rfl
theorem x_up7 {j : Nat} (h : j < 217) : x_PF7[j]? = x_PF6[j]? := by
  show (x_PF6 ++ x_MT7)[j]? = _
  exact List.getElem?_append_left (by rw [x_PFl6]; exact h)
def x_PF8 : List xM := x_PF7 ++ x_MT8
set_option maxRecDepth 10000 in
theorem x_PFl8 : x_PF8.length = 268 := by
  show (x_PF7 ++ x_MT8).length = _
  rw [List.length_append, x_PFl7]
  rfl
theorem x_up8 {j : Nat} (h : j < 258) : x_PF8[j]? = x_PF7[j]? := by
  show (x_PF7 ++ x_MT8)[j]? = _
  exact List.getElem?_append_left (by rw [x_PFl7]; exact h)
def x_PF9 : List xM := x_PF8 ++ x_MT9
set_option maxRecDepth 10000 in
theorem x_PFl9 : x_PF9.length = 306 := by
  show (x_PF8 ++ x_MT9).length = _
  rw [List.length_append, x_PFl8]
  rfl
theorem x_up9 {j : Nat} (h : j < 268) : x_PF9[j]? = x_PF8[j]? := by
  show (x_PF8 ++ x_MT9)[j]? = _
  exact List.getElem?_append_left (by rw [x_PFl8]; exact h)
def x_PF10 : List xM := x_PF9 ++ x_MT10
set_option maxRecDepth 10000 in
theorem x_PFl10 : x_PF10.length = 338 := by
  show (x_PF9 ++ x_MT10).length = _
  rw [List.length_append, x_PFl9]
  rfl
theorem x_up10 {j : Nat} (h : j < 306) : x_PF10[j]? = x_PF9[j]? := by
  show (x_PF9 ++ x_MT10)[j]? = _
  exact List.getElem?_append_left (by rw [x_PFl9]; exact h)
def x_PF11 : List xM := x_PF10 ++ x_MT11
set_option maxRecDepth 10000 in
theorem x_PFl11 : x_PF11.length = 410 := by
  show (x_PF10 ++ x_MT11).length = _
  rw [List.length_append, x_PFl10]
  rfl
theorem x_up11 {j : Nat} (h : j < 338) : x_PF11[j]? = x_PF10[j]? := by
  show (x_PF10 ++ x_MT11)[j]? = _
  exact List.getElem?_append_left (by rw [x_PFl10]; exact h)
def x_PF12 : List xM := x_PF11 ++ x_MT12
set_option maxRecDepth 10000 in
theorem x_PFl12 : x_PF12.length = 751 := by
  show (x_PF11 ++ x_MT12).length = _
  rw [List.length_append, x_PFl11]
  rfl
theorem x_up12 {j : Nat} (h : j < 410) : x_PF12[j]? = x_PF11[j]? := by
  show (x_PF11 ++ x_MT12)[j]? = _
  exact List.getElem?_append_left (by rw [x_PFl11]; exact h)
theorem x_cl0 {i : Nat} (h : i < 19) : x_MT[0 + i]? = x_MT0[i]? := by
  show x_PF12[0 + i]? = _
  rw [x_up12 (by omega)]
  rw [x_up11 (by omega)]
  rw [x_up10 (by omega)]
  rw [x_up9 (by omega)]
  rw [x_up8 (by omega)]
  rw [x_up7 (by omega)]
  rw [x_up6 (by omega)]
  rw [x_up5 (by omega)]
  rw [x_up4 (by omega)]
  rw [x_up3 (by omega)]
  rw [x_up2 (by omega)]
  rw [x_up1 (by omega)]
  rw [Nat.zero_add]
  rfl
theorem x_cl1 {i : Nat} (h : i < 25) : x_MT[19 + i]? = x_MT1[i]? := by
  show x_PF12[19 + i]? = _
  rw [x_up12 (by omega)]
  rw [x_up11 (by omega)]
  rw [x_up10 (by omega)]
  rw [x_up9 (by omega)]
  rw [x_up8 (by omega)]
  rw [x_up7 (by omega)]
  rw [x_up6 (by omega)]
  rw [x_up5 (by omega)]
  rw [x_up4 (by omega)]
  rw [x_up3 (by omega)]
  rw [x_up2 (by omega)]
  exact x_ap x_PFl0
theorem x_cl2 {i : Nat} (h : i < 25) : x_MT[44 + i]? = x_MT2[i]? := by
  show x_PF12[44 + i]? = _
  rw [x_up12 (by omega)]
  rw [x_up11 (by omega)]
  rw [x_up10 (by omega)]
  rw [x_up9 (by omega)]
  rw [x_up8 (by omega)]
  rw [x_up7 (by omega)]
  rw [x_up6 (by omega)]
  rw [x_up5 (by omega)]
  rw [x_up4 (by omega)]
  rw [x_up3 (by omega)]
  exact x_ap x_PFl1
theorem x_cl3 {i : Nat} (h : i < 37) : x_MT[69 + i]? = x_MT3[i]? := by
  show x_PF12[69 + i]? = _
  rw [x_up12 (by omega)]
  rw [x_up11 (by omega)]
  rw [x_up10 (by omega)]
  rw [x_up9 (by omega)]
  rw [x_up8 (by omega)]
  rw [x_up7 (by omega)]
  rw [x_up6 (by omega)]
  rw [x_up5 (by omega)]
  rw [x_up4 (by omega)]
  exact x_ap x_PFl2
theorem x_cl4 {i : Nat} (h : i < 26) : x_MT[106 + i]? = x_MT4[i]? := by
  show x_PF12[106 + i]? = _
  rw [x_up12 (by omega)]
  rw [x_up11 (by omega)]
  rw [x_up10 (by omega)]
  rw [x_up9 (by omega)]
  rw [x_up8 (by omega)]
  rw [x_up7 (by omega)]
  rw [x_up6 (by omega)]
  rw [x_up5 (by omega)]
  exact x_ap x_PFl3
theorem x_cl5 {i : Nat} (h : i < 46) : x_MT[132 + i]? = x_MT5[i]? := by
  show x_PF12[132 + i]? = _
  rw [x_up12 (by omega)]
  rw [x_up11 (by omega)]
  rw [x_up10 (by omega)]
  rw [x_up9 (by omega)]
  rw [x_up8 (by omega)]
  rw [x_up7 (by omega)]
  rw [x_up6 (by omega)]
  exact x_ap x_PFl4
theorem x_cl6 {i : Nat} (h : i < 39) : x_MT[178 + i]? = x_MT6[i]? := by
  show x_PF12[178 + i]? = _
  rw [x_up12 (by omega)]
  rw [x_up11 (by omega)]
  rw [x_up10 (by omega)]
  rw [x_up9 (by omega)]
  rw [x_up8 (by omega)]
  rw [x_up7 (by omega)]
  exact x_ap x_PFl5
theorem x_cl7 {i : Nat} (h : i < 41) : x_MT[217 + i]? = x_MT7[i]? := by
  show x_PF12[217 + i]? = _
  rw [x_up12 (by omega)]
  rw [x_up11 (by omega)]
  rw [x_up10 (by omega)]
  rw [x_up9 (by omega)]
  rw [x_up8 (by omega)]
  exact x_ap x_PFl6
theorem x_cl8 {i : Nat} (h : i < 10) : x_MT[258 + i]? = x_MT8[i]? := by
  show x_PF12[258 + i]? = _
  rw [x_up12 (by omega)]
  rw [x_up11 (by omega)]
  rw [x_up10 (by omega)]
  rw [x_up9 (by omega)]
  exact x_ap x_PFl7
theorem x_cl9 {i : Nat} (h : i < 38) : x_MT[268 + i]? = x_MT9[i]? := by
  show x_PF12[268 + i]? = _
  rw [x_up12 (by omega)]
  rw [x_up11 (by omega)]
  rw [x_up10 (by omega)]
  exact x_ap x_PFl8
theorem x_cl10 {i : Nat} (h : i < 32) : x_MT[306 + i]? = x_MT10[i]? := by
  show x_PF12[306 + i]? = _
  rw [x_up12 (by omega)]
  rw [x_up11 (by omega)]
  exact x_ap x_PFl9
theorem x_cl11 {i : Nat} (h : i < 72) : x_MT[338 + i]? = x_MT11[i]? := by
  show x_PF12[338 + i]? = _
  rw [x_up12 (by omega)]
  exact x_ap x_PFl10
theorem x_cl12 {i : Nat} (h : i < 341) : x_MT[410 + i]? = x_MT12[i]? := by
  show x_PF12[410 + i]? = _
  exact x_ap x_PFl11
set_option maxRecDepth 10000 in
theorem x_pl1 : x_MT[1]? = some x_M1 := (x_cl0 (i := 1) (by decide)).trans rfl
set_option maxRecDepth 10000 in
theorem x_pl2 : x_MT[2]? = some x_M2 := (x_cl0 (i := 2) (by decide)).trans rfl
set_option maxRecDepth 10000 in
theorem x_pl4 : x_MT[4]? = some x_M4 := (x_cl0 (i := 4) (by decide)).trans rfl
set_option maxRecDepth 10000 in
theorem x_pl6 : x_MT[6]? = some x_M6 := (x_cl0 (i := 6) (by decide)).trans rfl
set_option maxRecDepth 10000 in
theorem x_pl7 : x_MT[7]? = some x_M7 := (x_cl0 (i := 7) (by decide)).trans rfl
set_option maxRecDepth 10000 in
theorem x_pl8 : x_MT[8]? = some x_M8 := (x_cl0 (i := 8) (by decide)).trans rfl
set_option maxRecDepth 10000 in
theorem x_pl9 : x_MT[9]? = some x_M9 := (x_cl0 (i := 9) (by decide)).trans rfl
set_option maxRecDepth 10000 in
theorem x_pl15 : x_MT[15]? = some x_M15 := (x_cl0 (i := 15) (by decide)).trans rfl
set_option maxRecDepth 10000 in
theorem x_pl20 : x_MT[20]? = some x_M20 := (x_cl1 (i := 1) (by decide)).trans rfl
set_option maxRecDepth 10000 in
theorem x_pl42 : x_MT[42]? = some x_M42 := (x_cl1 (i := 23) (by decide)).trans rfl
set_option maxRecDepth 10000 in
theorem x_pl45 : x_MT[45]? = some x_M45 := (x_cl2 (i := 1) (by decide)).trans rfl
set_option maxRecDepth 10000 in
theorem x_pl46 : x_MT[46]? = some x_M46 := (x_cl2 (i := 2) (by decide)).trans rfl
set_option maxRecDepth 10000 in
theorem x_pl55 : x_MT[55]? = some x_M55 := (x_cl2 (i := 11) (by decide)).trans rfl
set_option maxRecDepth 10000 in
theorem x_pl56 : x_MT[56]? = some x_M56 := (x_cl2 (i := 12) (by decide)).trans rfl
set_option maxRecDepth 10000 in
theorem x_pl57 : x_MT[57]? = some x_M57 := (x_cl2 (i := 13) (by decide)).trans rfl
set_option maxRecDepth 10000 in
theorem x_pl69 : x_MT[69]? = some x_M69 := (x_cl3 (i := 0) (by decide)).trans rfl
set_option maxRecDepth 10000 in
theorem x_pl70 : x_MT[70]? = some x_M70 := (x_cl3 (i := 1) (by decide)).trans rfl
set_option maxRecDepth 10000 in
theorem x_pl74 : x_MT[74]? = some x_M74 := (x_cl3 (i := 5) (by decide)).trans rfl
set_option maxRecDepth 10000 in
theorem x_pl75 : x_MT[75]? = some x_M75 := (x_cl3 (i := 6) (by decide)).trans rfl
set_option maxRecDepth 10000 in
theorem x_pl76 : x_MT[76]? = some x_M76 := (x_cl3 (i := 7) (by decide)).trans rfl
set_option maxRecDepth 10000 in
theorem x_pl80 : x_MT[80]? = some x_M80 := (x_cl3 (i := 11) (by decide)).trans rfl
set_option maxRecDepth 10000 in
theorem x_pl98 : x_MT[98]? = some x_M98 := (x_cl3 (i := 29) (by decide)).trans rfl
set_option maxRecDepth 10000 in
theorem x_pl107 : x_MT[107]? = some x_M107 := (x_cl4 (i := 1) (by decide)).trans rfl
set_option maxRecDepth 10000 in
theorem x_pl133 : x_MT[133]? = some x_M133 := (x_cl5 (i := 1) (by decide)).trans rfl
set_option maxRecDepth 10000 in
theorem x_pl169 : x_MT[169]? = some x_M169 := (x_cl5 (i := 37) (by decide)).trans rfl
set_option maxRecDepth 10000 in
theorem x_pl174 : x_MT[174]? = some x_M174 := (x_cl5 (i := 42) (by decide)).trans rfl
set_option maxRecDepth 10000 in
theorem x_pl263 : x_MT[263]? = some x_M263 := (x_cl8 (i := 5) (by decide)).trans rfl
set_option maxRecDepth 10000 in
theorem x_pl266 : x_MT[266]? = some x_M266 := (x_cl8 (i := 8) (by decide)).trans rfl
set_option maxRecDepth 10000 in
theorem x_pl346 : x_MT[346]? = some x_M346 := (x_cl11 (i := 8) (by decide)).trans rfl
set_option maxRecDepth 10000 in
theorem x_pl347 : x_MT[347]? = some x_M347 := (x_cl11 (i := 9) (by decide)).trans rfl
set_option maxRecDepth 10000 in
theorem x_pl348 : x_MT[348]? = some x_M348 := (x_cl11 (i := 10) (by decide)).trans rfl
set_option maxRecDepth 10000 in
theorem x_pl349 : x_MT[349]? = some x_M349 := (x_cl11 (i := 11) (by decide)).trans rfl
set_option maxRecDepth 10000 in
theorem x_pl350 : x_MT[350]? = some x_M350 := (x_cl11 (i := 12) (by decide)).trans rfl
set_option maxRecDepth 10000 in
theorem x_pl351 : x_MT[351]? = some x_M351 := (x_cl11 (i := 13) (by decide)).trans rfl
set_option maxRecDepth 10000 in
theorem x_pl352 : x_MT[352]? = some x_M352 := (x_cl11 (i := 14) (by decide)).trans rfl
set_option maxRecDepth 10000 in
theorem x_pl353 : x_MT[353]? = some x_M353 := (x_cl11 (i := 15) (by decide)).trans rfl
set_option maxRecDepth 10000 in
theorem x_pl354 : x_MT[354]? = some x_M354 := (x_cl11 (i := 16) (by decide)).trans rfl
set_option maxRecDepth 10000 in
theorem x_pl355 : x_MT[355]? = some x_M355 := (x_cl11 (i := 17) (by decide)).trans rfl
set_option maxRecDepth 10000 in
theorem x_pl356 : x_MT[356]? = some x_M356 := (x_cl11 (i := 18) (by decide)).trans rfl
set_option maxRecDepth 10000 in
theorem x_pl357 : x_MT[357]? = some x_M357 := (x_cl11 (i := 19) (by decide)).trans rfl
set_option maxRecDepth 10000 in
theorem x_pl358 : x_MT[358]? = some x_M358 := (x_cl11 (i := 20) (by decide)).trans rfl
set_option maxRecDepth 10000 in
theorem x_pl359 : x_MT[359]? = some x_M359 := (x_cl11 (i := 21) (by decide)).trans rfl
set_option maxRecDepth 10000 in
theorem x_pl360 : x_MT[360]? = some x_M360 := (x_cl11 (i := 22) (by decide)).trans rfl
set_option maxRecDepth 10000 in
theorem x_pl361 : x_MT[361]? = some x_M361 := (x_cl11 (i := 23) (by decide)).trans rfl
set_option maxRecDepth 10000 in
theorem x_pl362 : x_MT[362]? = some x_M362 := (x_cl11 (i := 24) (by decide)).trans rfl
set_option maxRecDepth 10000 in
theorem x_pl363 : x_MT[363]? = some x_M363 := (x_cl11 (i := 25) (by decide)).trans rfl
set_option maxRecDepth 10000 in
theorem x_pl364 : x_MT[364]? = some x_M364 := (x_cl11 (i := 26) (by decide)).trans rfl
set_option maxRecDepth 10000 in
theorem x_pl365 : x_MT[365]? = some x_M365 := (x_cl11 (i := 27) (by decide)).trans rfl
set_option maxRecDepth 10000 in
theorem x_pl367 : x_MT[367]? = some x_M367 := (x_cl11 (i := 29) (by decide)).trans rfl
set_option maxRecDepth 10000 in
theorem x_pl368 : x_MT[368]? = some x_M368 := (x_cl11 (i := 30) (by decide)).trans rfl
set_option maxRecDepth 10000 in
theorem x_pl369 : x_MT[369]? = some x_M369 := (x_cl11 (i := 31) (by decide)).trans rfl
set_option maxRecDepth 10000 in
theorem x_pl371 : x_MT[371]? = some x_M371 := (x_cl11 (i := 33) (by decide)).trans rfl
set_option maxRecDepth 10000 in
theorem x_pl374 : x_MT[374]? = some x_M374 := (x_cl11 (i := 36) (by decide)).trans rfl
set_option maxRecDepth 10000 in
theorem x_pl375 : x_MT[375]? = some x_M375 := (x_cl11 (i := 37) (by decide)).trans rfl
set_option maxRecDepth 10000 in
theorem x_pl376 : x_MT[376]? = some x_M376 := (x_cl11 (i := 38) (by decide)).trans rfl
set_option maxRecDepth 10000 in
theorem x_pl377 : x_MT[377]? = some x_M377 := (x_cl11 (i := 39) (by decide)).trans rfl
set_option maxRecDepth 10000 in
theorem x_pl379 : x_MT[379]? = some x_M379 := (x_cl11 (i := 41) (by decide)).trans rfl
set_option maxRecDepth 10000 in
theorem x_pl382 : x_MT[382]? = some x_M382 := (x_cl11 (i := 44) (by decide)).trans rfl
set_option maxRecDepth 10000 in
theorem x_pl383 : x_MT[383]? = some x_M383 := (x_cl11 (i := 45) (by decide)).trans rfl
set_option maxRecDepth 10000 in
theorem x_pl384 : x_MT[384]? = some x_M384 := (x_cl11 (i := 46) (by decide)).trans rfl
set_option maxRecDepth 10000 in
theorem x_pl385 : x_MT[385]? = some x_M385 := (x_cl11 (i := 47) (by decide)).trans rfl
set_option maxRecDepth 10000 in
theorem x_pl386 : x_MT[386]? = some x_M386 := (x_cl11 (i := 48) (by decide)).trans rfl
set_option maxRecDepth 10000 in
theorem x_pl387 : x_MT[387]? = some x_M387 := (x_cl11 (i := 49) (by decide)).trans rfl
set_option maxRecDepth 10000 in
theorem x_pl388 : x_MT[388]? = some x_M388 := (x_cl11 (i := 50) (by decide)).trans rfl
set_option maxRecDepth 10000 in
theorem x_pl389 : x_MT[389]? = some x_M389 := (x_cl11 (i := 51) (by decide)).trans rfl
set_option maxRecDepth 10000 in
theorem x_pl390 : x_MT[390]? = some x_M390 := (x_cl11 (i := 52) (by decide)).trans rfl
set_option maxRecDepth 10000 in
theorem x_pl391 : x_MT[391]? = some x_M391 := (x_cl11 (i := 53) (by decide)).trans rfl
set_option maxRecDepth 10000 in
theorem x_pl392 : x_MT[392]? = some x_M392 := (x_cl11 (i := 54) (by decide)).trans rfl
set_option maxRecDepth 10000 in
theorem x_pl393 : x_MT[393]? = some x_M393 := (x_cl11 (i := 55) (by decide)).trans rfl
set_option maxRecDepth 10000 in
theorem x_pl394 : x_MT[394]? = some x_M394 := (x_cl11 (i := 56) (by decide)).trans rfl
set_option maxRecDepth 10000 in
theorem x_pl395 : x_MT[395]? = some x_M395 := (x_cl11 (i := 57) (by decide)).trans rfl
set_option maxRecDepth 10000 in
theorem x_pl396 : x_MT[396]? = some x_M396 := (x_cl11 (i := 58) (by decide)).trans rfl
set_option maxRecDepth 10000 in
theorem x_pl397 : x_MT[397]? = some x_M397 := (x_cl11 (i := 59) (by decide)).trans rfl
set_option maxRecDepth 10000 in
theorem x_pl398 : x_MT[398]? = some x_M398 := (x_cl11 (i := 60) (by decide)).trans rfl
set_option maxRecDepth 10000 in
theorem x_pl401 : x_MT[401]? = some x_M401 := (x_cl11 (i := 63) (by decide)).trans rfl
set_option maxRecDepth 10000 in
theorem x_pl402 : x_MT[402]? = some x_M402 := (x_cl11 (i := 64) (by decide)).trans rfl
set_option maxRecDepth 10000 in
theorem x_pl403 : x_MT[403]? = some x_M403 := (x_cl11 (i := 65) (by decide)).trans rfl
set_option maxRecDepth 10000 in
theorem x_pl404 : x_MT[404]? = some x_M404 := (x_cl11 (i := 66) (by decide)).trans rfl
set_option maxRecDepth 10000 in
theorem x_pl405 : x_MT[405]? = some x_M405 := (x_cl11 (i := 67) (by decide)).trans rfl
set_option maxRecDepth 10000 in
theorem x_pl406 : x_MT[406]? = some x_M406 := (x_cl11 (i := 68) (by decide)).trans rfl
set_option maxRecDepth 10000 in
theorem x_pl407 : x_MT[407]? = some x_M407 := (x_cl11 (i := 69) (by decide)).trans rfl
set_option maxRecDepth 10000 in
theorem x_pl408 : x_MT[408]? = some x_M408 := (x_cl11 (i := 70) (by decide)).trans rfl
set_option maxRecDepth 10000 in
theorem x_pl409 : x_MT[409]? = some x_M409 := (x_cl11 (i := 71) (by decide)).trans rfl
set_option maxRecDepth 10000 in
theorem x_pl410 : x_MT[410]? = some x_M410 := (x_cl12 (i := 0) (by decide)).trans rfl
set_option maxRecDepth 10000 in
theorem x_pl411 : x_MT[411]? = some x_M411 := (x_cl12 (i := 1) (by decide)).trans rfl
set_option maxRecDepth 10000 in
theorem x_pl412 : x_MT[412]? = some x_M412 := (x_cl12 (i := 2) (by decide)).trans rfl
set_option maxRecDepth 10000 in
theorem x_pl413 : x_MT[413]? = some x_M413 := (x_cl12 (i := 3) (by decide)).trans rfl
set_option maxRecDepth 10000 in
theorem x_pl414 : x_MT[414]? = some x_M414 := (x_cl12 (i := 4) (by decide)).trans rfl
set_option maxRecDepth 10000 in
theorem x_pl415 : x_MT[415]? = some x_M415 := (x_cl12 (i := 5) (by decide)).trans rfl
set_option maxRecDepth 10000 in
theorem x_pl416 : x_MT[416]? = some x_M416 := (x_cl12 (i := 6) (by decide)).trans rfl
set_option maxRecDepth 10000 in
theorem x_pl417 : x_MT[417]? = some x_M417 := (x_cl12 (i := 7) (by decide)).trans rfl
set_option maxRecDepth 10000 in
theorem x_pl418 : x_MT[418]? = some x_M418 := (x_cl12 (i := 8) (by decide)).trans rfl
set_option maxRecDepth 10000 in
theorem x_pl419 : x_MT[419]? = some x_M419 := (x_cl12 (i := 9) (by decide)).trans rfl
set_option maxRecDepth 10000 in
theorem x_pl420 : x_MT[420]? = some x_M420 := (x_cl12 (i := 10) (by decide)).trans rfl
set_option maxRecDepth 10000 in
theorem x_pl421 : x_MT[421]? = some x_M421 := (x_cl12 (i := 11) (by decide)).trans rfl
set_option maxRecDepth 10000 in
theorem x_pl423 : x_MT[423]? = some x_M423 := (x_cl12 (i := 13) (by decide)).trans rfl
set_option maxRecDepth 10000 in
theorem x_pl427 : x_MT[427]? = some x_M427 := (x_cl12 (i := 17) (by decide)).trans rfl
set_option maxRecDepth 10000 in
theorem x_pl441 : x_MT[441]? = some x_M441 := (x_cl12 (i := 31) (by decide)).trans rfl
set_option maxRecDepth 10000 in
theorem x_pl464 : x_MT[464]? = some x_M464 := (x_cl12 (i := 54) (by decide)).trans rfl
set_option maxRecDepth 10000 in
theorem x_pl478 : x_MT[478]? = some x_M478 := (x_cl12 (i := 68) (by decide)).trans rfl
set_option maxRecDepth 10000 in
theorem x_pl485 : x_MT[485]? = some x_M485 := (x_cl12 (i := 75) (by decide)).trans rfl
set_option maxRecDepth 10000 in
theorem x_pl488 : x_MT[488]? = some x_M488 := (x_cl12 (i := 78) (by decide)).trans rfl
set_option maxRecDepth 10000 in
theorem x_pl489 : x_MT[489]? = some x_M489 := (x_cl12 (i := 79) (by decide)).trans rfl
set_option maxRecDepth 10000 in
theorem x_pl490 : x_MT[490]? = some x_M490 := (x_cl12 (i := 80) (by decide)).trans rfl
set_option maxRecDepth 10000 in
theorem x_pl492 : x_MT[492]? = some x_M492 := (x_cl12 (i := 82) (by decide)).trans rfl
set_option maxRecDepth 10000 in
theorem x_pl493 : x_MT[493]? = some x_M493 := (x_cl12 (i := 83) (by decide)).trans rfl
set_option maxRecDepth 10000 in
theorem x_pl495 : x_MT[495]? = some x_M495 := (x_cl12 (i := 85) (by decide)).trans rfl
set_option maxRecDepth 10000 in
theorem x_pl496 : x_MT[496]? = some x_M496 := (x_cl12 (i := 86) (by decide)).trans rfl
set_option maxRecDepth 10000 in
theorem x_pl497 : x_MT[497]? = some x_M497 := (x_cl12 (i := 87) (by decide)).trans rfl
set_option maxRecDepth 10000 in
theorem x_pl502 : x_MT[502]? = some x_M502 := (x_cl12 (i := 92) (by decide)).trans rfl
set_option maxRecDepth 10000 in
theorem x_pl541 : x_MT[541]? = some x_M541 := (x_cl12 (i := 131) (by decide)).trans rfl
set_option maxRecDepth 10000 in
theorem x_pl542 : x_MT[542]? = some x_M542 := (x_cl12 (i := 132) (by decide)).trans rfl
set_option maxRecDepth 10000 in
theorem x_pl556 : x_MT[556]? = some x_M556 := (x_cl12 (i := 146) (by decide)).trans rfl
set_option maxRecDepth 10000 in
theorem x_pl589 : x_MT[589]? = some x_M589 := (x_cl12 (i := 179) (by decide)).trans rfl
set_option maxRecDepth 10000 in
theorem x_pl592 : x_MT[592]? = some x_M592 := (x_cl12 (i := 182) (by decide)).trans rfl
set_option maxRecDepth 10000 in
theorem x_pl593 : x_MT[593]? = some x_M593 := (x_cl12 (i := 183) (by decide)).trans rfl
set_option maxRecDepth 10000 in
theorem x_pl594 : x_MT[594]? = some x_M594 := (x_cl12 (i := 184) (by decide)).trans rfl
set_option maxRecDepth 10000 in
theorem x_pl643 : x_MT[643]? = some x_M643 := (x_cl12 (i := 233) (by decide)).trans rfl
set_option maxRecDepth 10000 in
theorem x_pl663 : x_MT[663]? = some x_M663 := (x_cl12 (i := 253) (by decide)).trans rfl
set_option maxRecDepth 10000 in
theorem x_pl664 : x_MT[664]? = some x_M664 := (x_cl12 (i := 254) (by decide)).trans rfl
set_option maxRecDepth 10000 in
theorem x_pl672 : x_MT[672]? = some x_M672 := (x_cl12 (i := 262) (by decide)).trans rfl
set_option maxRecDepth 10000 in
theorem x_pl673 : x_MT[673]? = some x_M673 := (x_cl12 (i := 263) (by decide)).trans rfl
set_option maxRecDepth 10000 in
theorem x_pl675 : x_MT[675]? = some x_M675 := (x_cl12 (i := 265) (by decide)).trans rfl
set_option maxRecDepth 10000 in
theorem x_pl680 : x_MT[680]? = some x_M680 := (x_cl12 (i := 270) (by decide)).trans rfl
set_option maxRecDepth 10000 in
theorem x_pl681 : x_MT[681]? = some x_M681 := (x_cl12 (i := 271) (by decide)).trans rfl
set_option maxRecDepth 10000 in
theorem x_pl685 : x_MT[685]? = some x_M685 := (x_cl12 (i := 275) (by decide)).trans rfl
set_option maxRecDepth 10000 in
theorem x_pl686 : x_MT[686]? = some x_M686 := (x_cl12 (i := 276) (by decide)).trans rfl
set_option maxRecDepth 10000 in
theorem x_pl688 : x_MT[688]? = some x_M688 := (x_cl12 (i := 278) (by decide)).trans rfl
set_option maxRecDepth 10000 in
theorem x_pl712 : x_MT[712]? = some x_M712 := (x_cl12 (i := 302) (by decide)).trans rfl
set_option maxRecDepth 10000 in
theorem x_pl715 : x_MT[715]? = some x_M715 := (x_cl12 (i := 305) (by decide)).trans rfl
set_option maxRecDepth 10000 in
theorem x_pl716 : x_MT[716]? = some x_M716 := (x_cl12 (i := 306) (by decide)).trans rfl
set_option maxRecDepth 10000 in
theorem x_pl719 : x_MT[719]? = some x_M719 := (x_cl12 (i := 309) (by decide)).trans rfl
set_option maxRecDepth 10000 in
theorem x_pl724 : x_MT[724]? = some x_M724 := (x_cl12 (i := 314) (by decide)).trans rfl
set_option maxRecDepth 10000 in
theorem x_pl727 : x_MT[727]? = some x_M727 := (x_cl12 (i := 317) (by decide)).trans rfl
set_option maxRecDepth 10000 in
theorem x_pl728 : x_MT[728]? = some x_M728 := (x_cl12 (i := 318) (by decide)).trans rfl
set_option maxRecDepth 10000 in
theorem x_pl729 : x_MT[729]? = some x_M729 := (x_cl12 (i := 319) (by decide)).trans rfl
set_option maxRecDepth 10000 in
theorem x_pl743 : x_MT[743]? = some x_M743 := (x_cl12 (i := 333) (by decide)).trans rfl
set_option maxRecDepth 10000 in
theorem x_pl744 : x_MT[744]? = some x_M744 := (x_cl12 (i := 334) (by decide)).trans rfl
set_option maxRecDepth 10000 in
theorem x_pl745 : x_MT[745]? = some x_M745 := (x_cl12 (i := 335) (by decide)).trans rfl
set_option maxRecDepth 10000 in
theorem x_pl746 : x_MT[746]? = some x_M746 := (x_cl12 (i := 336) (by decide)).trans rfl
set_option maxRecDepth 10000 in
theorem x_pl747 : x_MT[747]? = some x_M747 := (x_cl12 (i := 337) (by decide)).trans rfl
set_option maxRecDepth 10000 in
theorem x_pl748 : x_MT[748]? = some x_M748 := (x_cl12 (i := 338) (by decide)).trans rfl
set_option maxRecDepth 10000 in
theorem x_pl749 : x_MT[749]? = some x_M749 := (x_cl12 (i := 339) (by decide)).trans rfl
set_option maxRecDepth 10000 in
theorem x_pl750 : x_MT[750]? = some x_M750 := (x_cl12 (i := 340) (by decide)).trans rfl
