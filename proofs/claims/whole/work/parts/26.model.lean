/-! The reference made anew. -/
def x_MF : List Value := [.ref 282, .int 0, .ref 283, .ref 284, .int (-2), .ref 285, .int 0, .int 0, .int 0, .int 0, .int 0, .long 0, .long 0, .long 0, .int 0, .ref 286, .int 0, .int 0, .int 0, .ref 287, .ref 288, .ref 289, .ref 290, .ref 291, .ref 292, .ref 293, .ref 294, .ref 295, .ref 296, .ref 297, .ref 298, .ref 299, .ref 300, .ref 301, .ref 302, .ref 303, .ref 304, .ref 305, .ref 306, .ref 307, .ref 308, .ref 309, .ref 310, .ref 311, .ref 312, .ref 313, .ref 314, .ref 315, .ref 316, .ref 317, .ref 318, .ref 319, .ref 320, .ref 321, .ref 322, .ref 323, .ref 324, .ref 325, .ref 326, .ref 327, .ref 328, .ref 329, .ref 330, .ref 331, .ref 332, .ref 333, .ref 334, .ref 335, .ref 336, .ref 337, .ref 338, .ref 339, .ref 340, .ref 341, .ref 342, .ref 343, .ref 344, .ref 345, .ref 346, .ref 347, .ref 348, .ref 349, .ref 350, .ref 351, .ref 352, .ref 353, .ref 354, .ref 355, .ref 356, .ref 357, .ref 358, .ref 359, .ref 360, .ref 361, .ref 362, .ref 363, .ref 364, .ref 365, .ref 366, .ref 367, .ref 368, .ref 369, .ref 370, .ref 371, .ref 372, .ref 373, .ref 374, .ref 375, .ref 376, .ref 377, .int 0, .ref 378, .ref 379, .ref 380, .ref 381, .ref 382, .int 0, .int 0, .int 0, .int 0, .int 0, .int 0, .ref 383, .int 0, .ref 384, .int 0, .int 0, .int 0, .int 0, .ref 385, .int 0, .int 0, .ref 386, .int 0, .long 0, .ref 387, .ref 388, .ref 389, .ref 390, .ref 391, .ref 392, .ref 393, .ref 394, .ref 395, .ref 396, .ref 397, .ref 398, .ref 399, .ref 400, .ref 401, .ref 402, .ref 403, .ref 404, .ref 405, .int 0, .ref 406, .ref 407, .ref 408, .int 0, .ref 409, .int 0, .int 0, .int 0, .long 0, .int 0, .int 0, .int 0, .int 0, .int 0, .ref 410, .ref 411, .ref 412, .int 0, .ref 413, .ref 414, .int 0, .ref 415, .int 0, .ref 416, .int 0, .int 0, .long 0, .ref 417, .ref 418, .ref 419, .ref 420, .ref 421, .ref 422, .ref 423, .int 0, .int 0, .int 0, .int 0, .ref 424, .int 0, .ref 425, .ref 426, .ref 427, .ref 428, .ref 429, .ref 430, .ref 431, .int 0, .ref 432, .int 0, .int 0, .int 0, .int 0, .int 0, .int 0, .int 0, .ref 433, .ref 434, .ref 435, .ref 436, .int 0, .int 0, .ref 437, .ref 438, .ref 439, .ref 440, .ref 441, .ref 442, .ref 443, .ref 444, .ref 445, .int 0, .int 0, .int 0, .int 0, .int 0, .int 0, .long 0, .int 0, .int 0, .int 0, .int 0, .int 0, .int 0, .int 0, .int 0, .long 0, .int 0, .int 0, .long 0, .int 0, .int 0, .ref 446, .ref 447, .ref 448, .ref 449, .ref 450, .ref 451, .ref 452, .ref 453, .ref 454, .int 0, .ref 455, .ref 456, .int 0, .int 0, .int 0, .int 0, .int 0, .int 0, .ref 457, .ref 458, .ref 459, .int 0, .ref 460, .ref 461, .ref 462, .ref 463, .int 0, .ref 464, .ref 465, .ref 466, .ref 467, .ref 468, .ref 469, .ref 470, .ref 471, .ref 472, .ref 473, .ref 474, .ref 475, .ref 476, .ref 477, .ref 478, .ref 479, .ref 480, .ref 481, .ref 482, .ref 483, .ref 484, .ref 485, .ref 486, .int 0, .int 0, .ref 487, .ref 488, .ref 489, .ref 490, .ref 491, .ref 492, .ref 493, .ref 494, .int 0, .ref 495, .int 0, .int 0]
def x_MA : xS := [.inr (0, 4000, .inl fun _ => 0), .inr (0, 32000, .inl fun _ => 0), .inr (0, 8, .inl fun _ => 0), .inr (0, 4001, .inl fun _ => 0), .inr (0, 64, .inl fun _ => 0), .inr (3, 5, .inl fun _ => 0),
  .inr (0, 5, .inl fun _ => 0), .inr (0, 5, .inl fun _ => 0), .inr (1, 150, .inr (.inl fun _ => 0)), .inr (1, 150, .inr (.inl fun _ => 0)), .inr (0, 150, .inl fun _ => 0), .inr (3, 150, .inl fun _ => 0),
  .inr (0, 150, .inl fun _ => 0), .inr (0, 150, .inl fun _ => 0), .inr (0, 150, .inl fun _ => 0), .inr (0, 150, .inl fun _ => 0), .inr (0, 150, .inl fun _ => 0), .inr (0, 150, .inl fun _ => 0),
  .inr (1, 3600, .inr (.inl fun _ => 0)), .inr (1, 3600, .inr (.inl fun _ => 0)), .inr (0, 3600, .inl fun _ => 0), .inr (0, 3600, .inl fun _ => 0), .inr (0, 3600, .inl fun _ => 0), .inr (0, 3600, .inl fun _ => 0),
  .inr (0, 3600, .inl fun _ => 0), .inr (0, 3600, .inl fun _ => 0), .inr (0, 3600, .inl fun _ => 0), .inr (3, 3600, .inl fun _ => 0), .inr (1, 3600, .inr (.inl fun _ => 0)), .inr (0, 3600, .inl fun _ => 0),
  .inr (0, 3600, .inl fun _ => 0), .inr (0, 3600, .inl fun _ => 0), .inr (0, 3600, .inl fun _ => 0), .inr (0, 3600, .inl fun _ => 0), .inr (0, 3600, .inl fun _ => 0), .inr (0, 3600, .inl fun _ => 0),
  .inr (1, 3600, .inr (.inl fun _ => 0)), .inr (1, 3600, .inr (.inl fun _ => 0)), .inr (0, 3600, .inl fun _ => 0), .inr (1, 3600, .inr (.inl fun _ => 0)), .inr (0, 3600, .inl fun _ => 0), .inr (0, 3600, .inl fun _ => 0),
  .inr (0, 3600, .inl fun _ => 0), .inr (1, 3600, .inr (.inl fun _ => 0)), .inr (1, 3600, .inr (.inl fun _ => 0)), .inr (0, 3600, .inl fun _ => 0), .inr (0, 3600, .inl fun _ => 0), .inr (1, 3600, .inr (.inl fun _ => 0)),
  .inr (1, 3600, .inr (.inl fun _ => 0)), .inr (0, 220000, .inl fun _ => 0), .inr (1, 1200, .inr (.inl fun _ => 0)), .inr (1, 1200, .inr (.inl fun _ => 0)), .inr (0, 1200, .inl fun _ => 0), .inr (0, 1200, .inl fun _ => 0),
  .inr (0, 1200, .inl fun _ => 0), .inr (0, 1200, .inl fun _ => 0), .inr (1, 2400, .inr (.inl fun _ => 0)), .inr (1, 2400, .inr (.inl fun _ => 0)), .inr (0, 2400, .inl fun _ => 0), .inr (0, 2400, .inl fun _ => 0),
  .inr (0, 2400, .inl fun _ => 0), .inr (3, 2400, .inl fun _ => 0), .inr (1, 20, .inr (.inl fun _ => 0)), .inr (1, 20, .inr (.inl fun _ => 0)), .inr (0, 20, .inl fun _ => 0), .inr (0, 20, .inl fun _ => 0),
  .inr (0, 20, .inl fun _ => 0), .inr (0, 20, .inl fun _ => 0), .inr (0, 20, .inl fun _ => 0), .inr (1, 160, .inr (.inl fun _ => 0)), .inr (1, 160, .inr (.inl fun _ => 0)), .inr (0, 160, .inl fun _ => 0),
  .inr (1, 200, .inr (.inl fun _ => 0)), .inr (1, 200, .inr (.inl fun _ => 0)), .inr (0, 200, .inl fun _ => 0), .inr (0, 200, .inl fun _ => 0), .inr (0, 200, .inl fun _ => 0), .inr (1, 200, .inr (.inl fun _ => 0)),
  .inr (0, 200, .inl fun _ => 0), .inr (0, 200, .inl fun _ => 0), .inr (0, 200, .inl fun _ => 0), .inr (0, 200, .inl fun _ => 0), .inr (1, 400, .inr (.inl fun _ => 0)), .inr (1, 400, .inr (.inl fun _ => 0)),
  .inr (0, 400, .inl fun _ => 0), .inr (0, 20000, .inl fun _ => 0), .inr (0, 20000, .inl fun _ => 0), .inr (0, 20000, .inl fun _ => 0), .inr (0, 20000, .inl fun _ => 0), .inr (1, 20000, .inr (.inl fun _ => 0)),
  .inr (1, 20000, .inr (.inl fun _ => 0)), .inr (0, 20000, .inl fun _ => 0), .inr (1, 20000, .inr (.inl fun _ => 0)), .inr (0, 20000, .inl fun _ => 0), .inr (1, 20000, .inr (.inl fun _ => 0)), .inr (1, 20000, .inr (.inl fun _ => 0)),
  .inr (0, 2200, .inl fun _ => 0), .inr (1, 2200, .inr (.inl fun _ => 0)), .inr (0, 2200, .inl fun _ => 0), .inr (0, 45000, .inl fun _ => 0), .inr (0, 5, .inl fun _ => 0), .inr (0, 240, .inl fun _ => 0),
  .inr (3, 16, .inl fun _ => 0), .inr (3, 4096, .inl fun _ => 0), .inr (0, 30, .inl fun _ => 0), .inr (3, 16, .inl fun _ => 0), .inr (0, 16, .inl fun _ => 0), .inr (0, 16, .inl fun _ => 0),
  .inr (0, 16, .inl fun _ => 0), .inr (0, 16, .inl fun _ => 0), .inr (0, 16, .inl fun _ => 0), .inr (0, 16, .inl fun _ => 0), .inr (0, 73600, .inl fun _ => 0), .inr (0, 73600, .inl fun _ => 0),
  .inr (0, 73600, .inl fun _ => 0), .inr (0, 73600, .inl fun _ => 0), .inr (1, 73600, .inr (.inl fun _ => 0)), .inr (0, 73600, .inl fun _ => 0), .inr (0, 73600, .inl fun _ => 0), .inr (1, 73600, .inr (.inl fun _ => 0)),
  .inr (0, 73600, .inl fun _ => 0), .inr (0, 73600, .inl fun _ => 0), .inr (0, 146000, .inl fun _ => 0), .inr (0, 4600, .inl fun _ => 0), .inr (0, 64, .inl fun _ => 0), .inr (0, 64, .inl fun _ => 0),
  .inr (0, 64, .inl fun _ => 0), .inr (3, 1600, .inl fun _ => 0), .inr (0, 4600, .inl fun _ => 0), .inr (0, 4600, .inl fun _ => 0), .inr (0, 60000, .inl fun _ => 0), .inr (0, 16, .inl fun _ => 0),
  .inr (0, 16, .inl fun _ => 0), .inr (0, 73600, .inl fun _ => 0), .inr (0, 60000, .inl fun _ => 0), .inr (0, 64, .inl fun _ => 0), .inr (0, 64, .inl fun _ => 0), .inr (0, 64, .inl fun _ => 0),
  .inr (0, 64, .inl fun _ => 0), .inr (0, 64, .inl fun _ => 0), .inr (0, 64, .inl fun _ => 0), .inr (3, 64, .inl fun _ => 0), .inr (0, 73600, .inl fun _ => 0), .inr (0, 16, .inl fun _ => 0),
  .inr (0, 16, .inl fun _ => 0), .inr (0, 16, .inl fun _ => 0), .inr (1, 16, .inr (.inl fun _ => 0)), .inr (0, 16, .inl fun _ => 0), .inr (0, 16, .inl fun _ => 0), .inr (0, 16, .inl fun _ => 0),
  .inr (1, 24000, .inr (.inl fun _ => 0)), .inr (0, 64, .inl fun _ => 0), .inr (0, 64, .inl fun _ => 0), .inr (0, 64, .inl fun _ => 0), .inr (0, 64, .inl fun _ => 0), .inr (0, 64, .inl fun _ => 0),
  .inr (0, 64, .inl fun _ => 0), .inr (0, 64, .inl fun _ => 0), .inr (0, 64, .inl fun _ => 0), .inr (0, 64, .inl fun _ => 0), .inr (0, 64, .inl fun _ => 0), .inr (0, 64, .inl fun _ => 0),
  .inr (0, 64, .inl fun _ => 0), .inr (0, 64, .inl fun _ => 0), .inr (0, 1000, .inl fun _ => 0), .inr (1, 12000, .inr (.inl fun _ => 0)), .inr (1, 12000, .inr (.inl fun _ => 0)), .inr (0, 16, .inl fun _ => 0),
  .inr (0, 16, .inl fun _ => 0), .inr (0, 16, .inl fun _ => 0), .inr (0, 60000, .inl fun _ => 0), .inr (0, 16, .inl fun _ => 0), .inr (0, 16, .inl fun _ => 0), .inr (3, 900, .inl fun _ => 0),
  .inr (0, 900, .inl fun _ => 0), .inr (1, 8, .inr (.inl fun _ => 0)), .inr (1, 8, .inr (.inl fun _ => 0)), .inr (0, 10, .inl fun _ => 0), .inr (0, 6, .inl fun _ => 0), .inr (0, 6, .inl fun _ => 0),
  .inr (0, 6, .inl fun _ => 0), .inr (0, 24600, .inl fun _ => 0), .inr (0, 5, .inl fun _ => 0), .inr (0, 5, .inl fun _ => 0), .inr (0, 5, .inl fun _ => 0), .inr (0, 5, .inl fun _ => 0),
  .inr (3, 500, .inl fun _ => 0), .inr (0, 20500, .inl fun _ => 0), .inr (3, 3, .inl fun _ => 0), .inr (0, 3, .inl fun _ => 0), .inr (0, 3, .inl fun _ => 0), .inr (0, 3, .inl fun _ => 0),
  .inr (0, 3, .inl fun _ => 0), .inr (0, 3, .inl fun _ => 0), .inr (0, 120, .inl fun _ => 0), .inr (0, 120, .inl fun _ => 0), .inr (0, 120, .inl fun _ => 0), .inr (0, 120, .inl fun _ => 0),
  .inr (0, 120, .inl fun _ => 0), .inr (0, 120, .inl fun _ => 0), .inr (1, 61560, .inr (.inl fun _ => 0)), .inr (0, 120, .inl fun _ => 0), .inr (0, 120, .inl fun _ => 0), .inr (3, 12000, .inl fun _ => 0),
  .inr (1, 61560, .inr (.inl fun _ => 0)), .inr (0, 60, .inl fun _ => 0), .inr (0, 60, .inl fun _ => 0), .inr (0, 60, .inl fun _ => 0), .inr (0, 60, .inl fun _ => 0), .inr (0, 60, .inl fun _ => 0),
  .inr (0, 60, .inl fun _ => 0), .inr (0, 2880, .inl fun _ => 0), .inr (0, 48, .inl fun _ => 0), .inr (1, 120, .inr (.inl fun _ => 0))]
set_option maxRecDepth 100000 in
set_option maxHeartbeats 4000000 in
theorem x_minit {d : Nat} {Q : Option Value → xS → Prop} {S0 : xS} (hl : S0.length = 281) (k : Q none (S0 ++ .inl (12, x_MF) :: x_MA)) : x_ev (d + 1) 410 [.ref 281] (S0 ++ [.inl (12, x_df12)]) Q := by
  refine g_in (M := x_M410) (L := [some (.ref 281)]) x_pl410 rfl ?_
  have h0 : x_df12.length = 311 := rfl
  have a0 : ([] : xS).length = 0 := rfl
  refine g_n 1 (pc' := 1) (L' := [some (.ref 281)]) (st' := [.ref 281]) rfl ?_
  refine g_prim (ins := .invokespecial 1) (len := 3) (pc' := 4) (L' := [some (.ref 281)]) (st' := []) rfl rfl rfl rfl (fun _ => rfl) ?_
  refine g_nf (n0 := 281) (m := 0) (m' := 282) (pc3 := 10) (i := 7) (k := 0) (lv := []) hl a0 h0 (fun _ => rfl) rfl rfl rfl (by decide) rfl (fun fs1 g1 h1 a1 => ?_)
  refine g_nf (n0 := 281) (m := 1) (m' := 283) (pc3 := 19) (i := 13) (k := 2) (lv := []) hl a1 h1 (fun _ => rfl) rfl rfl rfl (by decide) rfl (fun fs2 g2 h2 a2 => ?_)
  refine g_nf (n0 := 281) (m := 2) (m' := 284) (pc3 := 27) (i := 16) (k := 3) (lv := []) hl a2 h2 (fun _ => rfl) rfl rfl rfl (by decide) rfl (fun fs3 g3 h3 a3 => ?_)
  refine g_n 2 (pc' := 33) (L' := [some (.ref 281)]) (st' := [.int (-2), .ref 281]) rfl ?_
  refine g_put (i := 19) (kd := 0) (ci := 12) (k := 4) (tc := 0) rfl rfl (Or.inl rfl) (x_omid hl) (by rw [h3]; decide) rfl ?_
  rw [x_smid hl]
  obtain ⟨fs4, g4⟩ : ∃ y, y = fs3.set 4 (.int (-2)) := ⟨_, rfl⟩
  rw [← g4]
  have h4 : fs4.length = 311 := by rw [g4, List.length_set, h3]
  have a4 := a3
  refine g_nf (n0 := 281) (m := 3) (m' := 285) (pc3 := 42) (i := 23) (k := 5) (lv := []) hl a4 h4 (fun _ => rfl) rfl rfl rfl (by decide) rfl (fun fs5 g5 h5 a5 => ?_)
  refine g_nf (n0 := 281) (m := 4) (m' := 286) (pc3 := 50) (i := 26) (k := 15) (lv := []) hl a5 h5 (fun _ => rfl) rfl rfl rfl (by decide) rfl (fun fs6 g6 h6 a6 => ?_)
  refine g_nf (n0 := 281) (m := 5) (m' := 287) (pc3 := 57) (i := 29) (k := 19) (lv := []) hl a6 h6 (fun _ => rfl) rfl rfl rfl (by decide) rfl (fun fs7 g7 h7 a7 => ?_)
  refine g_nf (n0 := 281) (m := 6) (m' := 288) (pc3 := 64) (i := 33) (k := 20) (lv := []) hl a7 h7 (fun _ => rfl) rfl rfl rfl (by decide) rfl (fun fs8 g8 h8 a8 => ?_)
  refine g_nf (n0 := 281) (m := 7) (m' := 289) (pc3 := 71) (i := 36) (k := 21) (lv := []) hl a8 h8 (fun _ => rfl) rfl rfl rfl (by decide) rfl (fun fs9 g9 h9 a9 => ?_)
  refine g_nf (n0 := 281) (m := 8) (m' := 290) (pc3 := 80) (i := 39) (k := 22) (lv := []) hl a9 h9 (fun _ => rfl) rfl rfl rfl (by decide) rfl (fun fs10 g10 h10 a10 => ?_)
  refine g_nf (n0 := 281) (m := 9) (m' := 291) (pc3 := 89) (i := 43) (k := 23) (lv := []) hl a10 h10 (fun _ => rfl) rfl rfl rfl (by decide) rfl (fun fs11 g11 h11 a11 => ?_)
  refine g_nf (n0 := 281) (m := 10) (m' := 292) (pc3 := 98) (i := 46) (k := 24) (lv := []) hl a11 h11 (fun _ => rfl) rfl rfl rfl (by decide) rfl (fun fs12 g12 h12 a12 => ?_)
  refine g_nf (n0 := 281) (m := 11) (m' := 293) (pc3 := 107) (i := 49) (k := 25) (lv := []) hl a12 h12 (fun _ => rfl) rfl rfl rfl (by decide) rfl (fun fs13 g13 h13 a13 => ?_)
  refine g_nf (n0 := 281) (m := 12) (m' := 294) (pc3 := 116) (i := 52) (k := 26) (lv := []) hl a13 h13 (fun _ => rfl) rfl rfl rfl (by decide) rfl (fun fs14 g14 h14 a14 => ?_)
  refine g_nf (n0 := 281) (m := 13) (m' := 295) (pc3 := 125) (i := 55) (k := 27) (lv := []) hl a14 h14 (fun _ => rfl) rfl rfl rfl (by decide) rfl (fun fs15 g15 h15 a15 => ?_)
  refine g_nf (n0 := 281) (m := 14) (m' := 296) (pc3 := 134) (i := 58) (k := 28) (lv := []) hl a15 h15 (fun _ => rfl) rfl rfl rfl (by decide) rfl (fun fs16 g16 h16 a16 => ?_)
  refine g_nf (n0 := 281) (m := 15) (m' := 297) (pc3 := 143) (i := 61) (k := 29) (lv := []) hl a16 h16 (fun _ => rfl) rfl rfl rfl (by decide) rfl (fun fs17 g17 h17 a17 => ?_)
  refine g_nf (n0 := 281) (m := 16) (m' := 298) (pc3 := 152) (i := 64) (k := 30) (lv := []) hl a17 h17 (fun _ => rfl) rfl rfl rfl (by decide) rfl (fun fs18 g18 h18 a18 => ?_)
  refine g_nf (n0 := 281) (m := 17) (m' := 299) (pc3 := 161) (i := 67) (k := 31) (lv := []) hl a18 h18 (fun _ => rfl) rfl rfl rfl (by decide) rfl (fun fs19 g19 h19 a19 => ?_)
  refine g_nf (n0 := 281) (m := 18) (m' := 300) (pc3 := 170) (i := 70) (k := 32) (lv := []) hl a19 h19 (fun _ => rfl) rfl rfl rfl (by decide) rfl (fun fs20 g20 h20 a20 => ?_)
  refine g_nf (n0 := 281) (m := 19) (m' := 301) (pc3 := 179) (i := 73) (k := 33) (lv := []) hl a20 h20 (fun _ => rfl) rfl rfl rfl (by decide) rfl (fun fs21 g21 h21 a21 => ?_)
  refine g_nf (n0 := 281) (m := 20) (m' := 302) (pc3 := 188) (i := 76) (k := 34) (lv := []) hl a21 h21 (fun _ => rfl) rfl rfl rfl (by decide) rfl (fun fs22 g22 h22 a22 => ?_)
  refine g_nf (n0 := 281) (m := 21) (m' := 303) (pc3 := 197) (i := 79) (k := 35) (lv := []) hl a22 h22 (fun _ => rfl) rfl rfl rfl (by decide) rfl (fun fs23 g23 h23 a23 => ?_)
  refine g_nf (n0 := 281) (m := 22) (m' := 304) (pc3 := 206) (i := 82) (k := 36) (lv := []) hl a23 h23 (fun _ => rfl) rfl rfl rfl (by decide) rfl (fun fs24 g24 h24 a24 => ?_)
  refine g_nf (n0 := 281) (m := 23) (m' := 305) (pc3 := 215) (i := 85) (k := 37) (lv := []) hl a24 h24 (fun _ => rfl) rfl rfl rfl (by decide) rfl (fun fs25 g25 h25 a25 => ?_)
  refine g_nf (n0 := 281) (m := 24) (m' := 306) (pc3 := 224) (i := 88) (k := 38) (lv := []) hl a25 h25 (fun _ => rfl) rfl rfl rfl (by decide) rfl (fun fs26 g26 h26 a26 => ?_)
  refine g_nf (n0 := 281) (m := 25) (m' := 307) (pc3 := 233) (i := 91) (k := 39) (lv := []) hl a26 h26 (fun _ => rfl) rfl rfl rfl (by decide) rfl (fun fs27 g27 h27 a27 => ?_)
  refine g_nf (n0 := 281) (m := 26) (m' := 308) (pc3 := 242) (i := 94) (k := 40) (lv := []) hl a27 h27 (fun _ => rfl) rfl rfl rfl (by decide) rfl (fun fs28 g28 h28 a28 => ?_)
  refine g_nf (n0 := 281) (m := 27) (m' := 309) (pc3 := 251) (i := 97) (k := 41) (lv := []) hl a28 h28 (fun _ => rfl) rfl rfl rfl (by decide) rfl (fun fs29 g29 h29 a29 => ?_)
  refine g_nf (n0 := 281) (m := 28) (m' := 310) (pc3 := 260) (i := 100) (k := 42) (lv := []) hl a29 h29 (fun _ => rfl) rfl rfl rfl (by decide) rfl (fun fs30 g30 h30 a30 => ?_)
  refine g_nf (n0 := 281) (m := 29) (m' := 311) (pc3 := 269) (i := 103) (k := 43) (lv := []) hl a30 h30 (fun _ => rfl) rfl rfl rfl (by decide) rfl (fun fs31 g31 h31 a31 => ?_)
  refine g_nf (n0 := 281) (m := 30) (m' := 312) (pc3 := 278) (i := 106) (k := 44) (lv := []) hl a31 h31 (fun _ => rfl) rfl rfl rfl (by decide) rfl (fun fs32 g32 h32 a32 => ?_)
  refine g_nf (n0 := 281) (m := 31) (m' := 313) (pc3 := 287) (i := 109) (k := 45) (lv := []) hl a32 h32 (fun _ => rfl) rfl rfl rfl (by decide) rfl (fun fs33 g33 h33 a33 => ?_)
  refine g_nf (n0 := 281) (m := 32) (m' := 314) (pc3 := 296) (i := 112) (k := 46) (lv := []) hl a33 h33 (fun _ => rfl) rfl rfl rfl (by decide) rfl (fun fs34 g34 h34 a34 => ?_)
  refine g_nf (n0 := 281) (m := 33) (m' := 315) (pc3 := 305) (i := 115) (k := 47) (lv := []) hl a34 h34 (fun _ => rfl) rfl rfl rfl (by decide) rfl (fun fs35 g35 h35 a35 => ?_)
  refine g_nf (n0 := 281) (m := 34) (m' := 316) (pc3 := 314) (i := 118) (k := 48) (lv := []) hl a35 h35 (fun _ => rfl) rfl rfl rfl (by decide) rfl (fun fs36 g36 h36 a36 => ?_)
  refine g_nf (n0 := 281) (m := 35) (m' := 317) (pc3 := 323) (i := 121) (k := 49) (lv := []) hl a36 h36 (fun _ => rfl) rfl rfl rfl (by decide) rfl (fun fs37 g37 h37 a37 => ?_)
  refine g_nf (n0 := 281) (m := 36) (m' := 318) (pc3 := 332) (i := 124) (k := 50) (lv := []) hl a37 h37 (fun _ => rfl) rfl rfl rfl (by decide) rfl (fun fs38 g38 h38 a38 => ?_)
  refine g_nf (n0 := 281) (m := 37) (m' := 319) (pc3 := 341) (i := 127) (k := 51) (lv := []) hl a38 h38 (fun _ => rfl) rfl rfl rfl (by decide) rfl (fun fs39 g39 h39 a39 => ?_)
  refine g_nf (n0 := 281) (m := 38) (m' := 320) (pc3 := 350) (i := 130) (k := 52) (lv := []) hl a39 h39 (fun _ => rfl) rfl rfl rfl (by decide) rfl (fun fs40 g40 h40 a40 => ?_)
  refine g_nf (n0 := 281) (m := 39) (m' := 321) (pc3 := 359) (i := 133) (k := 53) (lv := []) hl a40 h40 (fun _ => rfl) rfl rfl rfl (by decide) rfl (fun fs41 g41 h41 a41 => ?_)
  refine g_nf (n0 := 281) (m := 40) (m' := 322) (pc3 := 368) (i := 136) (k := 54) (lv := []) hl a41 h41 (fun _ => rfl) rfl rfl rfl (by decide) rfl (fun fs42 g42 h42 a42 => ?_)
  refine g_nf (n0 := 281) (m := 41) (m' := 323) (pc3 := 377) (i := 139) (k := 55) (lv := []) hl a42 h42 (fun _ => rfl) rfl rfl rfl (by decide) rfl (fun fs43 g43 h43 a43 => ?_)
  refine g_nf (n0 := 281) (m := 42) (m' := 324) (pc3 := 386) (i := 142) (k := 56) (lv := []) hl a43 h43 (fun _ => rfl) rfl rfl rfl (by decide) rfl (fun fs44 g44 h44 a44 => ?_)
  refine g_nf (n0 := 281) (m := 43) (m' := 325) (pc3 := 395) (i := 145) (k := 57) (lv := []) hl a44 h44 (fun _ => rfl) rfl rfl rfl (by decide) rfl (fun fs45 g45 h45 a45 => ?_)
  refine g_nf (n0 := 281) (m := 44) (m' := 326) (pc3 := 404) (i := 148) (k := 58) (lv := []) hl a45 h45 (fun _ => rfl) rfl rfl rfl (by decide) rfl (fun fs46 g46 h46 a46 => ?_)
  refine g_nf (n0 := 281) (m := 45) (m' := 327) (pc3 := 413) (i := 151) (k := 59) (lv := []) hl a46 h46 (fun _ => rfl) rfl rfl rfl (by decide) rfl (fun fs47 g47 h47 a47 => ?_)
  refine g_nf (n0 := 281) (m := 46) (m' := 328) (pc3 := 422) (i := 154) (k := 60) (lv := []) hl a47 h47 (fun _ => rfl) rfl rfl rfl (by decide) rfl (fun fs48 g48 h48 a48 => ?_)
  refine g_nf (n0 := 281) (m := 47) (m' := 329) (pc3 := 431) (i := 157) (k := 61) (lv := []) hl a48 h48 (fun _ => rfl) rfl rfl rfl (by decide) rfl (fun fs49 g49 h49 a49 => ?_)
  refine g_nf (n0 := 281) (m := 48) (m' := 330) (pc3 := 440) (i := 160) (k := 62) (lv := []) hl a49 h49 (fun _ => rfl) rfl rfl rfl (by decide) rfl (fun fs50 g50 h50 a50 => ?_)
  refine g_nf (n0 := 281) (m := 49) (m' := 331) (pc3 := 448) (i := 164) (k := 63) (lv := []) hl a50 h50 (fun _ => rfl) rfl rfl rfl (by decide) rfl (fun fs51 g51 h51 a51 => ?_)
  refine g_nf (n0 := 281) (m := 50) (m' := 332) (pc3 := 457) (i := 167) (k := 64) (lv := []) hl a51 h51 (fun _ => rfl) rfl rfl rfl (by decide) rfl (fun fs52 g52 h52 a52 => ?_)
  refine g_nf (n0 := 281) (m := 51) (m' := 333) (pc3 := 466) (i := 170) (k := 65) (lv := []) hl a52 h52 (fun _ => rfl) rfl rfl rfl (by decide) rfl (fun fs53 g53 h53 a53 => ?_)
  refine g_nf (n0 := 281) (m := 52) (m' := 334) (pc3 := 475) (i := 173) (k := 66) (lv := []) hl a53 h53 (fun _ => rfl) rfl rfl rfl (by decide) rfl (fun fs54 g54 h54 a54 => ?_)
  refine g_nf (n0 := 281) (m := 53) (m' := 335) (pc3 := 484) (i := 176) (k := 67) (lv := []) hl a54 h54 (fun _ => rfl) rfl rfl rfl (by decide) rfl (fun fs55 g55 h55 a55 => ?_)
  refine g_nf (n0 := 281) (m := 54) (m' := 336) (pc3 := 493) (i := 179) (k := 68) (lv := []) hl a55 h55 (fun _ => rfl) rfl rfl rfl (by decide) rfl (fun fs56 g56 h56 a56 => ?_)
  refine g_nf (n0 := 281) (m := 55) (m' := 337) (pc3 := 502) (i := 182) (k := 69) (lv := []) hl a56 h56 (fun _ => rfl) rfl rfl rfl (by decide) rfl (fun fs57 g57 h57 a57 => ?_)
  refine g_nf (n0 := 281) (m := 56) (m' := 338) (pc3 := 511) (i := 185) (k := 70) (lv := []) hl a57 h57 (fun _ => rfl) rfl rfl rfl (by decide) rfl (fun fs58 g58 h58 a58 => ?_)
  refine g_nf (n0 := 281) (m := 57) (m' := 339) (pc3 := 520) (i := 188) (k := 71) (lv := []) hl a58 h58 (fun _ => rfl) rfl rfl rfl (by decide) rfl (fun fs59 g59 h59 a59 => ?_)
  refine g_nf (n0 := 281) (m := 58) (m' := 340) (pc3 := 529) (i := 191) (k := 72) (lv := []) hl a59 h59 (fun _ => rfl) rfl rfl rfl (by decide) rfl (fun fs60 g60 h60 a60 => ?_)
  refine g_nf (n0 := 281) (m := 59) (m' := 341) (pc3 := 538) (i := 194) (k := 73) (lv := []) hl a60 h60 (fun _ => rfl) rfl rfl rfl (by decide) rfl (fun fs61 g61 h61 a61 => ?_)
  refine g_nf (n0 := 281) (m := 60) (m' := 342) (pc3 := 547) (i := 197) (k := 74) (lv := []) hl a61 h61 (fun _ => rfl) rfl rfl rfl (by decide) rfl (fun fs62 g62 h62 a62 => ?_)
  refine g_nf (n0 := 281) (m := 61) (m' := 343) (pc3 := 556) (i := 200) (k := 75) (lv := []) hl a62 h62 (fun _ => rfl) rfl rfl rfl (by decide) rfl (fun fs63 g63 h63 a63 => ?_)
  refine g_nf (n0 := 281) (m := 62) (m' := 344) (pc3 := 564) (i := 203) (k := 76) (lv := []) hl a63 h63 (fun _ => rfl) rfl rfl rfl (by decide) rfl (fun fs64 g64 h64 a64 => ?_)
  refine g_nf (n0 := 281) (m := 63) (m' := 345) (pc3 := 572) (i := 206) (k := 77) (lv := []) hl a64 h64 (fun _ => rfl) rfl rfl rfl (by decide) rfl (fun fs65 g65 h65 a65 => ?_)
  refine g_nf (n0 := 281) (m := 64) (m' := 346) (pc3 := 580) (i := 209) (k := 78) (lv := []) hl a65 h65 (fun _ => rfl) rfl rfl rfl (by decide) rfl (fun fs66 g66 h66 a66 => ?_)
  refine g_nf (n0 := 281) (m := 65) (m' := 347) (pc3 := 588) (i := 212) (k := 79) (lv := []) hl a66 h66 (fun _ => rfl) rfl rfl rfl (by decide) rfl (fun fs67 g67 h67 a67 => ?_)
  refine g_nf (n0 := 281) (m := 66) (m' := 348) (pc3 := 596) (i := 215) (k := 80) (lv := []) hl a67 h67 (fun _ => rfl) rfl rfl rfl (by decide) rfl (fun fs68 g68 h68 a68 => ?_)
  refine g_nf (n0 := 281) (m := 67) (m' := 349) (pc3 := 604) (i := 218) (k := 81) (lv := []) hl a68 h68 (fun _ => rfl) rfl rfl rfl (by decide) rfl (fun fs69 g69 h69 a69 => ?_)
  refine g_nf (n0 := 281) (m := 68) (m' := 350) (pc3 := 612) (i := 221) (k := 82) (lv := []) hl a69 h69 (fun _ => rfl) rfl rfl rfl (by decide) rfl (fun fs70 g70 h70 a70 => ?_)
  refine g_nf (n0 := 281) (m := 69) (m' := 351) (pc3 := 621) (i := 224) (k := 83) (lv := []) hl a70 h70 (fun _ => rfl) rfl rfl rfl (by decide) rfl (fun fs71 g71 h71 a71 => ?_)
  refine g_nf (n0 := 281) (m := 70) (m' := 352) (pc3 := 630) (i := 227) (k := 84) (lv := []) hl a71 h71 (fun _ => rfl) rfl rfl rfl (by decide) rfl (fun fs72 g72 h72 a72 => ?_)
  refine g_nf (n0 := 281) (m := 71) (m' := 353) (pc3 := 639) (i := 230) (k := 85) (lv := []) hl a72 h72 (fun _ => rfl) rfl rfl rfl (by decide) rfl (fun fs73 g73 h73 a73 => ?_)
  refine g_nf (n0 := 281) (m := 72) (m' := 354) (pc3 := 648) (i := 233) (k := 86) (lv := []) hl a73 h73 (fun _ => rfl) rfl rfl rfl (by decide) rfl (fun fs74 g74 h74 a74 => ?_)
  refine g_nf (n0 := 281) (m := 73) (m' := 355) (pc3 := 657) (i := 236) (k := 87) (lv := []) hl a74 h74 (fun _ => rfl) rfl rfl rfl (by decide) rfl (fun fs75 g75 h75 a75 => ?_)
  refine g_nf (n0 := 281) (m := 74) (m' := 356) (pc3 := 666) (i := 239) (k := 88) (lv := []) hl a75 h75 (fun _ => rfl) rfl rfl rfl (by decide) rfl (fun fs76 g76 h76 a76 => ?_)
  refine g_nf (n0 := 281) (m := 75) (m' := 357) (pc3 := 675) (i := 242) (k := 89) (lv := []) hl a76 h76 (fun _ => rfl) rfl rfl rfl (by decide) rfl (fun fs77 g77 h77 a77 => ?_)
  refine g_nf (n0 := 281) (m := 76) (m' := 358) (pc3 := 684) (i := 245) (k := 90) (lv := []) hl a77 h77 (fun _ => rfl) rfl rfl rfl (by decide) rfl (fun fs78 g78 h78 a78 => ?_)
  refine g_nf (n0 := 281) (m := 77) (m' := 359) (pc3 := 693) (i := 248) (k := 91) (lv := []) hl a78 h78 (fun _ => rfl) rfl rfl rfl (by decide) rfl (fun fs79 g79 h79 a79 => ?_)
  refine g_nf (n0 := 281) (m := 78) (m' := 360) (pc3 := 702) (i := 251) (k := 92) (lv := []) hl a79 h79 (fun _ => rfl) rfl rfl rfl (by decide) rfl (fun fs80 g80 h80 a80 => ?_)
  refine g_nf (n0 := 281) (m := 79) (m' := 361) (pc3 := 711) (i := 254) (k := 93) (lv := []) hl a80 h80 (fun _ => rfl) rfl rfl rfl (by decide) rfl (fun fs81 g81 h81 a81 => ?_)
  refine g_nf (n0 := 281) (m := 80) (m' := 362) (pc3 := 720) (i := 257) (k := 94) (lv := []) hl a81 h81 (fun _ => rfl) rfl rfl rfl (by decide) rfl (fun fs82 g82 h82 a82 => ?_)
  refine g_nf (n0 := 281) (m := 81) (m' := 363) (pc3 := 729) (i := 260) (k := 95) (lv := []) hl a82 h82 (fun _ => rfl) rfl rfl rfl (by decide) rfl (fun fs83 g83 h83 a83 => ?_)
  refine g_nf (n0 := 281) (m := 82) (m' := 364) (pc3 := 738) (i := 263) (k := 96) (lv := []) hl a83 h83 (fun _ => rfl) rfl rfl rfl (by decide) rfl (fun fs84 g84 h84 a84 => ?_)
  refine g_nf (n0 := 281) (m := 83) (m' := 365) (pc3 := 747) (i := 266) (k := 97) (lv := []) hl a84 h84 (fun _ => rfl) rfl rfl rfl (by decide) rfl (fun fs85 g85 h85 a85 => ?_)
  refine g_nf (n0 := 281) (m := 84) (m' := 366) (pc3 := 756) (i := 269) (k := 98) (lv := []) hl a85 h85 (fun _ => rfl) rfl rfl rfl (by decide) rfl (fun fs86 g86 h86 a86 => ?_)
  refine g_nf (n0 := 281) (m := 85) (m' := 367) (pc3 := 765) (i := 272) (k := 99) (lv := []) hl a86 h86 (fun _ => rfl) rfl rfl rfl (by decide) rfl (fun fs87 g87 h87 a87 => ?_)
  refine g_nf (n0 := 281) (m := 86) (m' := 368) (pc3 := 774) (i := 275) (k := 100) (lv := []) hl a87 h87 (fun _ => rfl) rfl rfl rfl (by decide) rfl (fun fs88 g88 h88 a88 => ?_)
  refine g_nf (n0 := 281) (m := 87) (m' := 369) (pc3 := 783) (i := 278) (k := 101) (lv := []) hl a88 h88 (fun _ => rfl) rfl rfl rfl (by decide) rfl (fun fs89 g89 h89 a89 => ?_)
  refine g_nf (n0 := 281) (m := 88) (m' := 370) (pc3 := 792) (i := 281) (k := 102) (lv := []) hl a89 h89 (fun _ => rfl) rfl rfl rfl (by decide) rfl (fun fs90 g90 h90 a90 => ?_)
  refine g_nf (n0 := 281) (m := 89) (m' := 371) (pc3 := 801) (i := 284) (k := 103) (lv := []) hl a90 h90 (fun _ => rfl) rfl rfl rfl (by decide) rfl (fun fs91 g91 h91 a91 => ?_)
  refine g_nf (n0 := 281) (m := 90) (m' := 372) (pc3 := 810) (i := 287) (k := 104) (lv := []) hl a91 h91 (fun _ => rfl) rfl rfl rfl (by decide) rfl (fun fs92 g92 h92 a92 => ?_)
  refine g_nf (n0 := 281) (m := 91) (m' := 373) (pc3 := 819) (i := 290) (k := 105) (lv := []) hl a92 h92 (fun _ => rfl) rfl rfl rfl (by decide) rfl (fun fs93 g93 h93 a93 => ?_)
  refine g_nf (n0 := 281) (m := 92) (m' := 374) (pc3 := 828) (i := 293) (k := 106) (lv := []) hl a93 h93 (fun _ => rfl) rfl rfl rfl (by decide) rfl (fun fs94 g94 h94 a94 => ?_)
  refine g_nf (n0 := 281) (m := 93) (m' := 375) (pc3 := 837) (i := 296) (k := 107) (lv := []) hl a94 h94 (fun _ => rfl) rfl rfl rfl (by decide) rfl (fun fs95 g95 h95 a95 => ?_)
  refine g_nf (n0 := 281) (m := 94) (m' := 376) (pc3 := 846) (i := 299) (k := 108) (lv := []) hl a95 h95 (fun _ => rfl) rfl rfl rfl (by decide) rfl (fun fs96 g96 h96 a96 => ?_)
  refine g_nf (n0 := 281) (m := 95) (m' := 377) (pc3 := 855) (i := 302) (k := 109) (lv := []) hl a96 h96 (fun _ => rfl) rfl rfl rfl (by decide) rfl (fun fs97 g97 h97 a97 => ?_)
  refine g_nf (n0 := 281) (m := 96) (m' := 378) (pc3 := 864) (i := 305) (k := 111) (lv := []) hl a97 h97 (fun _ => rfl) rfl rfl rfl (by decide) rfl (fun fs98 g98 h98 a98 => ?_)
  refine g_nf (n0 := 281) (m := 97) (m' := 379) (pc3 := 873) (i := 308) (k := 112) (lv := []) hl a98 h98 (fun _ => rfl) rfl rfl rfl (by decide) rfl (fun fs99 g99 h99 a99 => ?_)
  refine g_nf (n0 := 281) (m := 98) (m' := 380) (pc3 := 882) (i := 311) (k := 113) (lv := []) hl a99 h99 (fun _ => rfl) rfl rfl rfl (by decide) rfl (fun fs100 g100 h100 a100 => ?_)
  refine g_nf (n0 := 281) (m := 99) (m' := 381) (pc3 := 891) (i := 315) (k := 114) (lv := []) hl a100 h100 (fun _ => rfl) rfl rfl rfl (by decide) rfl (fun fs101 g101 h101 a101 => ?_)
  refine g_nf (n0 := 281) (m := 100) (m' := 382) (pc3 := 898) (i := 318) (k := 115) (lv := []) hl a101 h101 (fun _ => rfl) rfl rfl rfl (by decide) rfl (fun fs102 g102 h102 a102 => ?_)
  refine g_nf (n0 := 281) (m := 101) (m' := 383) (pc3 := 907) (i := 321) (k := 122) (lv := []) hl a102 h102 (fun _ => rfl) rfl rfl rfl (by decide) rfl (fun fs103 g103 h103 a103 => ?_)
  refine g_nf (n0 := 281) (m := 102) (m' := 384) (pc3 := 915) (i := 324) (k := 124) (lv := []) hl a103 h103 (fun _ => rfl) rfl rfl rfl (by decide) rfl (fun fs104 g104 h104 a104 => ?_)
  refine g_nf (n0 := 281) (m := 103) (m' := 385) (pc3 := 924) (i := 327) (k := 129) (lv := []) hl a104 h104 (fun _ => rfl) rfl rfl rfl (by decide) rfl (fun fs105 g105 h105 a105 => ?_)
  refine g_nf (n0 := 281) (m := 104) (m' := 386) (pc3 := 932) (i := 330) (k := 132) (lv := []) hl a105 h105 (fun _ => rfl) rfl rfl rfl (by decide) rfl (fun fs106 g106 h106 a106 => ?_)
  refine g_nf (n0 := 281) (m := 105) (m' := 387) (pc3 := 940) (i := 333) (k := 135) (lv := []) hl a106 h106 (fun _ => rfl) rfl rfl rfl (by decide) rfl (fun fs107 g107 h107 a107 => ?_)
  refine g_nf (n0 := 281) (m := 106) (m' := 388) (pc3 := 948) (i := 336) (k := 136) (lv := []) hl a107 h107 (fun _ => rfl) rfl rfl rfl (by decide) rfl (fun fs108 g108 h108 a108 => ?_)
  refine g_nf (n0 := 281) (m := 107) (m' := 389) (pc3 := 956) (i := 339) (k := 137) (lv := []) hl a108 h108 (fun _ => rfl) rfl rfl rfl (by decide) rfl (fun fs109 g109 h109 a109 => ?_)
  refine g_nf (n0 := 281) (m := 108) (m' := 390) (pc3 := 964) (i := 342) (k := 138) (lv := []) hl a109 h109 (fun _ => rfl) rfl rfl rfl (by decide) rfl (fun fs110 g110 h110 a110 => ?_)
  refine g_nf (n0 := 281) (m := 109) (m' := 391) (pc3 := 972) (i := 345) (k := 139) (lv := []) hl a110 h110 (fun _ => rfl) rfl rfl rfl (by decide) rfl (fun fs111 g111 h111 a111 => ?_)
  refine g_nf (n0 := 281) (m := 110) (m' := 392) (pc3 := 980) (i := 348) (k := 140) (lv := []) hl a111 h111 (fun _ => rfl) rfl rfl rfl (by decide) rfl (fun fs112 g112 h112 a112 => ?_)
  refine g_nf (n0 := 281) (m := 111) (m' := 393) (pc3 := 988) (i := 351) (k := 141) (lv := []) hl a112 h112 (fun _ => rfl) rfl rfl rfl (by decide) rfl (fun fs113 g113 h113 a113 => ?_)
  refine g_nf (n0 := 281) (m := 112) (m' := 394) (pc3 := 997) (i := 355) (k := 142) (lv := []) hl a113 h113 (fun _ => rfl) rfl rfl rfl (by decide) rfl (fun fs114 g114 h114 a114 => ?_)
  refine g_nf (n0 := 281) (m := 113) (m' := 395) (pc3 := 1006) (i := 358) (k := 143) (lv := []) hl a114 h114 (fun _ => rfl) rfl rfl rfl (by decide) rfl (fun fs115 g115 h115 a115 => ?_)
  refine g_nf (n0 := 281) (m := 114) (m' := 396) (pc3 := 1015) (i := 361) (k := 144) (lv := []) hl a115 h115 (fun _ => rfl) rfl rfl rfl (by decide) rfl (fun fs116 g116 h116 a116 => ?_)
  refine g_nf (n0 := 281) (m := 115) (m' := 397) (pc3 := 1024) (i := 364) (k := 145) (lv := []) hl a116 h116 (fun _ => rfl) rfl rfl rfl (by decide) rfl (fun fs117 g117 h117 a117 => ?_)
  refine g_nf (n0 := 281) (m := 116) (m' := 398) (pc3 := 1033) (i := 367) (k := 146) (lv := []) hl a117 h117 (fun _ => rfl) rfl rfl rfl (by decide) rfl (fun fs118 g118 h118 a118 => ?_)
  refine g_nf (n0 := 281) (m := 117) (m' := 399) (pc3 := 1042) (i := 370) (k := 147) (lv := []) hl a118 h118 (fun _ => rfl) rfl rfl rfl (by decide) rfl (fun fs119 g119 h119 a119 => ?_)
  refine g_nf (n0 := 281) (m := 118) (m' := 400) (pc3 := 1051) (i := 373) (k := 148) (lv := []) hl a119 h119 (fun _ => rfl) rfl rfl rfl (by decide) rfl (fun fs120 g120 h120 a120 => ?_)
  refine g_nf (n0 := 281) (m := 119) (m' := 401) (pc3 := 1060) (i := 376) (k := 149) (lv := []) hl a120 h120 (fun _ => rfl) rfl rfl rfl (by decide) rfl (fun fs121 g121 h121 a121 => ?_)
  refine g_nf (n0 := 281) (m := 120) (m' := 402) (pc3 := 1069) (i := 379) (k := 150) (lv := []) hl a121 h121 (fun _ => rfl) rfl rfl rfl (by decide) rfl (fun fs122 g122 h122 a122 => ?_)
  refine g_nf (n0 := 281) (m := 121) (m' := 403) (pc3 := 1078) (i := 382) (k := 151) (lv := []) hl a122 h122 (fun _ => rfl) rfl rfl rfl (by decide) rfl (fun fs123 g123 h123 a123 => ?_)
  refine g_nf (n0 := 281) (m := 122) (m' := 404) (pc3 := 1087) (i := 386) (k := 152) (lv := []) hl a123 h123 (fun _ => rfl) rfl rfl rfl (by decide) rfl (fun fs124 g124 h124 a124 => ?_)
  refine g_nf (n0 := 281) (m := 123) (m' := 405) (pc3 := 1096) (i := 389) (k := 153) (lv := []) hl a124 h124 (fun _ => rfl) rfl rfl rfl (by decide) rfl (fun fs125 g125 h125 a125 => ?_)
  refine g_nf (n0 := 281) (m := 124) (m' := 406) (pc3 := 1104) (i := 392) (k := 155) (lv := []) hl a125 h125 (fun _ => rfl) rfl rfl rfl (by decide) rfl (fun fs126 g126 h126 a126 => ?_)
  refine g_nf (n0 := 281) (m := 125) (m' := 407) (pc3 := 1112) (i := 395) (k := 156) (lv := []) hl a126 h126 (fun _ => rfl) rfl rfl rfl (by decide) rfl (fun fs127 g127 h127 a127 => ?_)
  refine g_nf (n0 := 281) (m := 126) (m' := 408) (pc3 := 1120) (i := 398) (k := 157) (lv := []) hl a127 h127 (fun _ => rfl) rfl rfl rfl (by decide) rfl (fun fs128 g128 h128 a128 => ?_)
  refine g_nf (n0 := 281) (m := 127) (m' := 409) (pc3 := 1129) (i := 401) (k := 159) (lv := []) hl a128 h128 (fun _ => rfl) rfl rfl rfl (by decide) rfl (fun fs129 g129 h129 a129 => ?_)
  refine g_nf (n0 := 281) (m := 128) (m' := 410) (pc3 := 1138) (i := 404) (k := 169) (lv := []) hl a129 h129 (fun _ => rfl) rfl rfl rfl (by decide) rfl (fun fs130 g130 h130 a130 => ?_)
  refine g_nf (n0 := 281) (m := 129) (m' := 411) (pc3 := 1147) (i := 407) (k := 170) (lv := []) hl a130 h130 (fun _ => rfl) rfl rfl rfl (by decide) rfl (fun fs131 g131 h131 a131 => ?_)
  refine g_nf (n0 := 281) (m := 130) (m' := 412) (pc3 := 1156) (i := 411) (k := 171) (lv := []) hl a131 h131 (fun _ => rfl) rfl rfl rfl (by decide) rfl (fun fs132 g132 h132 a132 => ?_)
  refine g_nf (n0 := 281) (m := 131) (m' := 413) (pc3 := 1164) (i := 414) (k := 173) (lv := []) hl a132 h132 (fun _ => rfl) rfl rfl rfl (by decide) rfl (fun fs133 g133 h133 a133 => ?_)
  refine g_nf (n0 := 281) (m := 132) (m' := 414) (pc3 := 1172) (i := 417) (k := 174) (lv := []) hl a133 h133 (fun _ => rfl) rfl rfl rfl (by decide) rfl (fun fs134 g134 h134 a134 => ?_)
  refine g_nf (n0 := 281) (m := 133) (m' := 415) (pc3 := 1181) (i := 420) (k := 176) (lv := []) hl a134 h134 (fun _ => rfl) rfl rfl rfl (by decide) rfl (fun fs135 g135 h135 a135 => ?_)
  refine g_nf (n0 := 281) (m := 134) (m' := 416) (pc3 := 1190) (i := 423) (k := 178) (lv := []) hl a135 h135 (fun _ => rfl) rfl rfl rfl (by decide) rfl (fun fs136 g136 h136 a136 => ?_)
  refine g_nf (n0 := 281) (m := 135) (m' := 417) (pc3 := 1198) (i := 426) (k := 182) (lv := []) hl a136 h136 (fun _ => rfl) rfl rfl rfl (by decide) rfl (fun fs137 g137 h137 a137 => ?_)
  refine g_nf (n0 := 281) (m := 136) (m' := 418) (pc3 := 1206) (i := 429) (k := 183) (lv := []) hl a137 h137 (fun _ => rfl) rfl rfl rfl (by decide) rfl (fun fs138 g138 h138 a138 => ?_)
  refine g_nf (n0 := 281) (m := 137) (m' := 419) (pc3 := 1214) (i := 432) (k := 184) (lv := []) hl a138 h138 (fun _ => rfl) rfl rfl rfl (by decide) rfl (fun fs139 g139 h139 a139 => ?_)
  refine g_nf (n0 := 281) (m := 138) (m' := 420) (pc3 := 1222) (i := 435) (k := 185) (lv := []) hl a139 h139 (fun _ => rfl) rfl rfl rfl (by decide) rfl (fun fs140 g140 h140 a140 => ?_)
  refine g_nf (n0 := 281) (m := 139) (m' := 421) (pc3 := 1230) (i := 438) (k := 186) (lv := []) hl a140 h140 (fun _ => rfl) rfl rfl rfl (by decide) rfl (fun fs141 g141 h141 a141 => ?_)
  refine g_nf (n0 := 281) (m := 140) (m' := 422) (pc3 := 1238) (i := 441) (k := 187) (lv := []) hl a141 h141 (fun _ => rfl) rfl rfl rfl (by decide) rfl (fun fs142 g142 h142 a142 => ?_)
  refine g_nf (n0 := 281) (m := 141) (m' := 423) (pc3 := 1246) (i := 444) (k := 188) (lv := []) hl a142 h142 (fun _ => rfl) rfl rfl rfl (by decide) rfl (fun fs143 g143 h143 a143 => ?_)
  refine g_nf (n0 := 281) (m := 142) (m' := 424) (pc3 := 1255) (i := 447) (k := 193) (lv := []) hl a143 h143 (fun _ => rfl) rfl rfl rfl (by decide) rfl (fun fs144 g144 h144 a144 => ?_)
  refine g_nf (n0 := 281) (m := 143) (m' := 425) (pc3 := 1263) (i := 450) (k := 195) (lv := []) hl a144 h144 (fun _ => rfl) rfl rfl rfl (by decide) rfl (fun fs145 g145 h145 a145 => ?_)
  refine g_nf (n0 := 281) (m := 144) (m' := 426) (pc3 := 1271) (i := 453) (k := 196) (lv := []) hl a145 h145 (fun _ => rfl) rfl rfl rfl (by decide) rfl (fun fs146 g146 h146 a146 => ?_)
  refine g_nf (n0 := 281) (m := 145) (m' := 427) (pc3 := 1279) (i := 456) (k := 197) (lv := []) hl a146 h146 (fun _ => rfl) rfl rfl rfl (by decide) rfl (fun fs147 g147 h147 a147 => ?_)
  refine g_nf (n0 := 281) (m := 146) (m' := 428) (pc3 := 1287) (i := 459) (k := 198) (lv := []) hl a147 h147 (fun _ => rfl) rfl rfl rfl (by decide) rfl (fun fs148 g148 h148 a148 => ?_)
  refine g_nf (n0 := 281) (m := 147) (m' := 429) (pc3 := 1295) (i := 462) (k := 199) (lv := []) hl a148 h148 (fun _ => rfl) rfl rfl rfl (by decide) rfl (fun fs149 g149 h149 a149 => ?_)
  refine g_nf (n0 := 281) (m := 148) (m' := 430) (pc3 := 1303) (i := 465) (k := 200) (lv := []) hl a149 h149 (fun _ => rfl) rfl rfl rfl (by decide) rfl (fun fs150 g150 h150 a150 => ?_)
  refine g_nf (n0 := 281) (m := 149) (m' := 431) (pc3 := 1311) (i := 468) (k := 201) (lv := []) hl a150 h150 (fun _ => rfl) rfl rfl rfl (by decide) rfl (fun fs151 g151 h151 a151 => ?_)
  refine g_nf (n0 := 281) (m := 150) (m' := 432) (pc3 := 1320) (i := 471) (k := 203) (lv := []) hl a151 h151 (fun _ => rfl) rfl rfl rfl (by decide) rfl (fun fs152 g152 h152 a152 => ?_)
  refine g_nf (n0 := 281) (m := 151) (m' := 433) (pc3 := 1328) (i := 474) (k := 211) (lv := []) hl a152 h152 (fun _ => rfl) rfl rfl rfl (by decide) rfl (fun fs153 g153 h153 a153 => ?_)
  refine g_nf (n0 := 281) (m := 152) (m' := 434) (pc3 := 1336) (i := 477) (k := 212) (lv := []) hl a153 h153 (fun _ => rfl) rfl rfl rfl (by decide) rfl (fun fs154 g154 h154 a154 => ?_)
  refine g_nf (n0 := 281) (m := 153) (m' := 435) (pc3 := 1344) (i := 480) (k := 213) (lv := []) hl a154 h154 (fun _ => rfl) rfl rfl rfl (by decide) rfl (fun fs155 g155 h155 a155 => ?_)
  refine g_nf (n0 := 281) (m := 154) (m' := 436) (pc3 := 1352) (i := 483) (k := 214) (lv := []) hl a155 h155 (fun _ => rfl) rfl rfl rfl (by decide) rfl (fun fs156 g156 h156 a156 => ?_)
  refine g_nf (n0 := 281) (m := 155) (m' := 437) (pc3 := 1360) (i := 486) (k := 217) (lv := []) hl a156 h156 (fun _ => rfl) rfl rfl rfl (by decide) rfl (fun fs157 g157 h157 a157 => ?_)
  refine g_nf (n0 := 281) (m := 156) (m' := 438) (pc3 := 1368) (i := 489) (k := 218) (lv := []) hl a157 h157 (fun _ => rfl) rfl rfl rfl (by decide) rfl (fun fs158 g158 h158 a158 => ?_)
  refine g_nf (n0 := 281) (m := 157) (m' := 439) (pc3 := 1376) (i := 492) (k := 219) (lv := []) hl a158 h158 (fun _ => rfl) rfl rfl rfl (by decide) rfl (fun fs159 g159 h159 a159 => ?_)
  refine g_nf (n0 := 281) (m := 158) (m' := 440) (pc3 := 1384) (i := 495) (k := 220) (lv := []) hl a159 h159 (fun _ => rfl) rfl rfl rfl (by decide) rfl (fun fs160 g160 h160 a160 => ?_)
  refine g_nf (n0 := 281) (m := 159) (m' := 441) (pc3 := 1392) (i := 498) (k := 221) (lv := []) hl a160 h160 (fun _ => rfl) rfl rfl rfl (by decide) rfl (fun fs161 g161 h161 a161 => ?_)
  refine g_nf (n0 := 281) (m := 160) (m' := 442) (pc3 := 1400) (i := 501) (k := 222) (lv := []) hl a161 h161 (fun _ => rfl) rfl rfl rfl (by decide) rfl (fun fs162 g162 h162 a162 => ?_)
  refine g_nf (n0 := 281) (m := 161) (m' := 443) (pc3 := 1408) (i := 504) (k := 223) (lv := []) hl a162 h162 (fun _ => rfl) rfl rfl rfl (by decide) rfl (fun fs163 g163 h163 a163 => ?_)
  refine g_nf (n0 := 281) (m := 162) (m' := 444) (pc3 := 1416) (i := 507) (k := 224) (lv := []) hl a163 h163 (fun _ => rfl) rfl rfl rfl (by decide) rfl (fun fs164 g164 h164 a164 => ?_)
  refine g_nf (n0 := 281) (m := 163) (m' := 445) (pc3 := 1424) (i := 510) (k := 225) (lv := []) hl a164 h164 (fun _ => rfl) rfl rfl rfl (by decide) rfl (fun fs165 g165 h165 a165 => ?_)
  refine g_nf (n0 := 281) (m := 164) (m' := 446) (pc3 := 1433) (i := 513) (k := 247) (lv := []) hl a165 h165 (fun _ => rfl) rfl rfl rfl (by decide) rfl (fun fs166 g166 h166 a166 => ?_)
  refine g_nf (n0 := 281) (m := 165) (m' := 447) (pc3 := 1442) (i := 516) (k := 248) (lv := []) hl a166 h166 (fun _ => rfl) rfl rfl rfl (by decide) rfl (fun fs167 g167 h167 a167 => ?_)
  refine g_nf (n0 := 281) (m := 166) (m' := 448) (pc3 := 1451) (i := 519) (k := 249) (lv := []) hl a167 h167 (fun _ => rfl) rfl rfl rfl (by decide) rfl (fun fs168 g168 h168 a168 => ?_)
  refine g_nf (n0 := 281) (m := 167) (m' := 449) (pc3 := 1459) (i := 522) (k := 250) (lv := []) hl a168 h168 (fun _ => rfl) rfl rfl rfl (by decide) rfl (fun fs169 g169 h169 a169 => ?_)
  refine g_nf (n0 := 281) (m := 168) (m' := 450) (pc3 := 1467) (i := 525) (k := 251) (lv := []) hl a169 h169 (fun _ => rfl) rfl rfl rfl (by decide) rfl (fun fs170 g170 h170 a170 => ?_)
  refine g_nf (n0 := 281) (m := 169) (m' := 451) (pc3 := 1475) (i := 528) (k := 252) (lv := []) hl a170 h170 (fun _ => rfl) rfl rfl rfl (by decide) rfl (fun fs171 g171 h171 a171 => ?_)
  refine g_nf (n0 := 281) (m := 170) (m' := 452) (pc3 := 1484) (i := 531) (k := 253) (lv := []) hl a171 h171 (fun _ => rfl) rfl rfl rfl (by decide) rfl (fun fs172 g172 h172 a172 => ?_)
  refine g_nf (n0 := 281) (m := 171) (m' := 453) (pc3 := 1492) (i := 534) (k := 254) (lv := []) hl a172 h172 (fun _ => rfl) rfl rfl rfl (by decide) rfl (fun fs173 g173 h173 a173 => ?_)
  refine g_nf (n0 := 281) (m := 172) (m' := 454) (pc3 := 1500) (i := 537) (k := 255) (lv := []) hl a173 h173 (fun _ => rfl) rfl rfl rfl (by decide) rfl (fun fs174 g174 h174 a174 => ?_)
  refine g_nf (n0 := 281) (m := 173) (m' := 455) (pc3 := 1509) (i := 540) (k := 257) (lv := []) hl a174 h174 (fun _ => rfl) rfl rfl rfl (by decide) rfl (fun fs175 g175 h175 a175 => ?_)
  refine g_nf (n0 := 281) (m := 174) (m' := 456) (pc3 := 1518) (i := 543) (k := 258) (lv := []) hl a175 h175 (fun _ => rfl) rfl rfl rfl (by decide) rfl (fun fs176 g176 h176 a176 => ?_)
  refine g_nf (n0 := 281) (m := 175) (m' := 457) (pc3 := 1526) (i := 546) (k := 265) (lv := []) hl a176 h176 (fun _ => rfl) rfl rfl rfl (by decide) rfl (fun fs177 g177 h177 a177 => ?_)
  refine g_nf (n0 := 281) (m := 176) (m' := 458) (pc3 := 1534) (i := 549) (k := 266) (lv := []) hl a177 h177 (fun _ => rfl) rfl rfl rfl (by decide) rfl (fun fs178 g178 h178 a178 => ?_)
  refine g_nf (n0 := 281) (m := 177) (m' := 459) (pc3 := 1542) (i := 552) (k := 267) (lv := []) hl a178 h178 (fun _ => rfl) rfl rfl rfl (by decide) rfl (fun fs179 g179 h179 a179 => ?_)
  refine g_nf (n0 := 281) (m := 178) (m' := 460) (pc3 := 1550) (i := 555) (k := 269) (lv := []) hl a179 h179 (fun _ => rfl) rfl rfl rfl (by decide) rfl (fun fs180 g180 h180 a180 => ?_)
  refine g_nf (n0 := 281) (m := 179) (m' := 461) (pc3 := 1558) (i := 558) (k := 270) (lv := []) hl a180 h180 (fun _ => rfl) rfl rfl rfl (by decide) rfl (fun fs181 g181 h181 a181 => ?_)
  refine g_nf (n0 := 281) (m := 180) (m' := 462) (pc3 := 1566) (i := 561) (k := 271) (lv := []) hl a181 h181 (fun _ => rfl) rfl rfl rfl (by decide) rfl (fun fs182 g182 h182 a182 => ?_)
  refine g_nf (n0 := 281) (m := 181) (m' := 463) (pc3 := 1575) (i := 564) (k := 272) (lv := []) hl a182 h182 (fun _ => rfl) rfl rfl rfl (by decide) rfl (fun fs183 g183 h183 a183 => ?_)
  refine g_nf (n0 := 281) (m := 182) (m' := 464) (pc3 := 1582) (i := 567) (k := 274) (lv := []) hl a183 h183 (fun _ => rfl) rfl rfl rfl (by decide) rfl (fun fs184 g184 h184 a184 => ?_)
  refine g_nf (n0 := 281) (m := 183) (m' := 465) (pc3 := 1589) (i := 570) (k := 275) (lv := []) hl a184 h184 (fun _ => rfl) rfl rfl rfl (by decide) rfl (fun fs185 g185 h185 a185 => ?_)
  refine g_nf (n0 := 281) (m := 184) (m' := 466) (pc3 := 1596) (i := 573) (k := 276) (lv := []) hl a185 h185 (fun _ => rfl) rfl rfl rfl (by decide) rfl (fun fs186 g186 h186 a186 => ?_)
  refine g_nf (n0 := 281) (m := 185) (m' := 467) (pc3 := 1603) (i := 576) (k := 277) (lv := []) hl a186 h186 (fun _ => rfl) rfl rfl rfl (by decide) rfl (fun fs187 g187 h187 a187 => ?_)
  refine g_nf (n0 := 281) (m := 186) (m' := 468) (pc3 := 1612) (i := 579) (k := 278) (lv := []) hl a187 h187 (fun _ => rfl) rfl rfl rfl (by decide) rfl (fun fs188 g188 h188 a188 => ?_)
  refine g_nf (n0 := 281) (m := 187) (m' := 469) (pc3 := 1621) (i := 582) (k := 279) (lv := []) hl a188 h188 (fun _ => rfl) rfl rfl rfl (by decide) rfl (fun fs189 g189 h189 a189 => ?_)
  refine g_nf (n0 := 281) (m := 188) (m' := 470) (pc3 := 1628) (i := 585) (k := 280) (lv := []) hl a189 h189 (fun _ => rfl) rfl rfl rfl (by decide) rfl (fun fs190 g190 h190 a190 => ?_)
  refine g_nf (n0 := 281) (m := 189) (m' := 471) (pc3 := 1635) (i := 588) (k := 281) (lv := []) hl a190 h190 (fun _ => rfl) rfl rfl rfl (by decide) rfl (fun fs191 g191 h191 a191 => ?_)
  refine g_nf (n0 := 281) (m := 190) (m' := 472) (pc3 := 1642) (i := 591) (k := 282) (lv := []) hl a191 h191 (fun _ => rfl) rfl rfl rfl (by decide) rfl (fun fs192 g192 h192 a192 => ?_)
  refine g_nf (n0 := 281) (m := 191) (m' := 473) (pc3 := 1649) (i := 594) (k := 283) (lv := []) hl a192 h192 (fun _ => rfl) rfl rfl rfl (by decide) rfl (fun fs193 g193 h193 a193 => ?_)
  refine g_nf (n0 := 281) (m := 192) (m' := 474) (pc3 := 1656) (i := 597) (k := 284) (lv := []) hl a193 h193 (fun _ => rfl) rfl rfl rfl (by decide) rfl (fun fs194 g194 h194 a194 => ?_)
  refine g_nf (n0 := 281) (m := 193) (m' := 475) (pc3 := 1663) (i := 600) (k := 285) (lv := []) hl a194 h194 (fun _ => rfl) rfl rfl rfl (by decide) rfl (fun fs195 g195 h195 a195 => ?_)
  refine g_nf (n0 := 281) (m := 194) (m' := 476) (pc3 := 1671) (i := 603) (k := 286) (lv := []) hl a195 h195 (fun _ => rfl) rfl rfl rfl (by decide) rfl (fun fs196 g196 h196 a196 => ?_)
  refine g_nf (n0 := 281) (m := 195) (m' := 477) (pc3 := 1679) (i := 606) (k := 287) (lv := []) hl a196 h196 (fun _ => rfl) rfl rfl rfl (by decide) rfl (fun fs197 g197 h197 a197 => ?_)
  refine g_nf (n0 := 281) (m := 196) (m' := 478) (pc3 := 1687) (i := 609) (k := 288) (lv := []) hl a197 h197 (fun _ => rfl) rfl rfl rfl (by decide) rfl (fun fs198 g198 h198 a198 => ?_)
  refine g_nf (n0 := 281) (m := 197) (m' := 479) (pc3 := 1695) (i := 612) (k := 289) (lv := []) hl a198 h198 (fun _ => rfl) rfl rfl rfl (by decide) rfl (fun fs199 g199 h199 a199 => ?_)
  refine g_nf (n0 := 281) (m := 198) (m' := 480) (pc3 := 1703) (i := 615) (k := 290) (lv := []) hl a199 h199 (fun _ => rfl) rfl rfl rfl (by decide) rfl (fun fs200 g200 h200 a200 => ?_)
  refine g_nf (n0 := 281) (m := 199) (m' := 481) (pc3 := 1711) (i := 618) (k := 291) (lv := []) hl a200 h200 (fun _ => rfl) rfl rfl rfl (by decide) rfl (fun fs201 g201 h201 a201 => ?_)
  refine g_nf (n0 := 281) (m := 200) (m' := 482) (pc3 := 1720) (i := 622) (k := 292) (lv := []) hl a201 h201 (fun _ => rfl) rfl rfl rfl (by decide) rfl (fun fs202 g202 h202 a202 => ?_)
  refine g_nf (n0 := 281) (m := 201) (m' := 483) (pc3 := 1728) (i := 625) (k := 293) (lv := []) hl a202 h202 (fun _ => rfl) rfl rfl rfl (by decide) rfl (fun fs203 g203 h203 a203 => ?_)
  refine g_nf (n0 := 281) (m := 202) (m' := 484) (pc3 := 1736) (i := 628) (k := 294) (lv := []) hl a203 h203 (fun _ => rfl) rfl rfl rfl (by decide) rfl (fun fs204 g204 h204 a204 => ?_)
  refine g_nf (n0 := 281) (m := 203) (m' := 485) (pc3 := 1745) (i := 631) (k := 295) (lv := []) hl a204 h204 (fun _ => rfl) rfl rfl rfl (by decide) rfl (fun fs205 g205 h205 a205 => ?_)
  refine g_nf (n0 := 281) (m := 204) (m' := 486) (pc3 := 1754) (i := 634) (k := 296) (lv := []) hl a205 h205 (fun _ => rfl) rfl rfl rfl (by decide) rfl (fun fs206 g206 h206 a206 => ?_)
  refine g_nf (n0 := 281) (m := 205) (m' := 487) (pc3 := 1762) (i := 637) (k := 299) (lv := []) hl a206 h206 (fun _ => rfl) rfl rfl rfl (by decide) rfl (fun fs207 g207 h207 a207 => ?_)
  refine g_nf (n0 := 281) (m := 206) (m' := 488) (pc3 := 1770) (i := 640) (k := 300) (lv := []) hl a207 h207 (fun _ => rfl) rfl rfl rfl (by decide) rfl (fun fs208 g208 h208 a208 => ?_)
  refine g_nf (n0 := 281) (m := 207) (m' := 489) (pc3 := 1778) (i := 643) (k := 301) (lv := []) hl a208 h208 (fun _ => rfl) rfl rfl rfl (by decide) rfl (fun fs209 g209 h209 a209 => ?_)
  refine g_nf (n0 := 281) (m := 208) (m' := 490) (pc3 := 1786) (i := 646) (k := 302) (lv := []) hl a209 h209 (fun _ => rfl) rfl rfl rfl (by decide) rfl (fun fs210 g210 h210 a210 => ?_)
  refine g_nf (n0 := 281) (m := 209) (m' := 491) (pc3 := 1794) (i := 649) (k := 303) (lv := []) hl a210 h210 (fun _ => rfl) rfl rfl rfl (by decide) rfl (fun fs211 g211 h211 a211 => ?_)
  refine g_nf (n0 := 281) (m := 210) (m' := 492) (pc3 := 1802) (i := 652) (k := 304) (lv := []) hl a211 h211 (fun _ => rfl) rfl rfl rfl (by decide) rfl (fun fs212 g212 h212 a212 => ?_)
  refine g_nf (n0 := 281) (m := 211) (m' := 493) (pc3 := 1811) (i := 655) (k := 305) (lv := []) hl a212 h212 (fun _ => rfl) rfl rfl rfl (by decide) rfl (fun fs213 g213 h213 a213 => ?_)
  refine g_nf (n0 := 281) (m := 212) (m' := 494) (pc3 := 1819) (i := 658) (k := 306) (lv := []) hl a213 h213 (fun _ => rfl) rfl rfl rfl (by decide) rfl (fun fs214 g214 h214 a214 => ?_)
  refine g_nf (n0 := 281) (m := 213) (m' := 495) (pc3 := 1827) (i := 661) (k := 308) (lv := []) hl a214 h214 (fun _ => rfl) rfl rfl rfl (by decide) rfl (fun fs215 g215 h215 a215 => ?_)
  refine g_ret (ins := .return_) (len := 1) (r := none) rfl rfl rfl ?_
  have e : fs215 = x_MF := by
    subst g215 g214 g213 g212 g211 g210 g209 g208 g207 g206 g205 g204 g203 g202 g201 g200 g199 g198 g197 g196 g195 g194 g193 g192 g191 g190 g189 g188 g187 g186 g185 g184 g183 g182 g181 g180 g179 g178 g177 g176 g175 g174 g173 g172 g171 g170 g169 g168 g167 g166 g165 g164 g163 g162 g161 g160 g159 g158 g157 g156 g155 g154 g153 g152 g151 g150 g149 g148 g147 g146 g145 g144 g143 g142 g141 g140 g139 g138 g137 g136 g135 g134 g133 g132 g131 g130 g129 g128 g127 g126 g125 g124 g123 g122 g121 g120 g119 g118 g117 g116 g115 g114 g113 g112 g111 g110 g109 g108 g107 g106 g105 g104 g103 g102 g101 g100 g99 g98 g97 g96 g95 g94 g93 g92 g91 g90 g89 g88 g87 g86 g85 g84 g83 g82 g81 g80 g79 g78 g77 g76 g75 g74 g73 g72 g71 g70 g69 g68 g67 g66 g65 g64 g63 g62 g61 g60 g59 g58 g57 g56 g55 g54 g53 g52 g51 g50 g49 g48 g47 g46 g45 g44 g43 g42 g41 g40 g39 g38 g37 g36 g35 g34 g33 g32 g31 g30 g29 g28 g27 g26 g25 g24 g23 g22 g21 g20 g19 g18 g17 g16 g15 g14 g13 g12 g11 g10 g9 g8 g7 g6 g5 g4 g3 g2 g1
    rfl
  rw [e]
  exact k
