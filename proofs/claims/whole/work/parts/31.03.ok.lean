/-! The methods of WireHouse$Lexer are what the tables say. -/
theorem x_PA2 : x_P2 = x_plain x_A2 := by rfl
set_option maxRecDepth 100000 in
theorem x_okA2 : ∀ q ∈ x_P2.flatten, x_okL x_cls x_MT x_big x_nx "WireHouse$Lexer" q.1 q.2 := by
  rw [x_PA2]
  exact x_ckA_ok x_ch_ok x_cn_ok (by decide +kernel)
theorem x_oM44 : x_okM x_big x_M44 := x_ckM_ok x_ch_ok (ix := 32023) (by decide +kernel)
theorem x_oM45 : x_okM x_big x_M45 := x_ckM_ok x_ch_ok (ix := 34055) (by decide +kernel)
theorem x_oM46 : x_okM x_big x_M46 := x_ckM_ok x_ch_ok (ix := 34229) (by decide +kernel)
theorem x_oM47 : x_okM x_big x_M47 := x_ckM_ok x_ch_ok (ix := 35091) (by decide +kernel)
theorem x_oM48 : x_okM x_big x_M48 := x_ckM_ok x_ch_ok (ix := 35235) (by decide +kernel)
theorem x_oM49 : x_okM x_big x_M49 := x_ckM_ok x_ch_ok (ix := 35050) (by decide +kernel)
theorem x_oM50 : x_okM x_big x_M50 := x_ckM_ok x_ch_ok (ix := 35030) (by decide +kernel)
theorem x_oM51 : x_okM x_big x_M51 := x_ckM_ok x_ch_ok (ix := 35046) (by decide +kernel)
theorem x_oM52 : x_okM x_big x_M52 := x_ckM_ok x_ch_ok (ix := 36012) (by decide +kernel)
theorem x_oM53 : x_okM x_big x_M53 := x_ckM_ok x_ch_ok (ix := 36016) (by decide +kernel)
theorem x_oM54 : x_okM x_big x_M54 := x_ckM_ok x_ch_ok (ix := 35095) (by decide +kernel)
theorem x_oM55 : x_okM x_big x_M55 := x_ckM_ok x_ch_ok (ix := 34060) (by decide +kernel)
theorem x_oM56 : x_okM x_big x_M56 := x_ckM_ok x_ch_ok (ix := 34065) (by decide +kernel)
theorem x_oM57 : x_okM x_big x_M57 := x_ckM_ok x_ch_ok (ix := 34069) (by decide +kernel)
theorem x_oM58 : x_okM x_big x_M58 := x_ckM_ok x_ch_ok (ix := 34081) (by decide +kernel)
theorem x_oM59 : x_okM x_big x_M59 := x_ckM_ok x_ch_ok (ix := 34145) (by decide +kernel)
theorem x_oM60 : x_okM x_big x_M60 := x_ckM_ok x_ch_ok (ix := 34150) (by decide +kernel)
theorem x_oM61 : x_okM x_big x_M61 := x_ckM_ok x_ch_ok (ix := 34156) (by decide +kernel)
theorem x_oM62 : x_okM x_big x_M62 := x_ckM_ok x_ch_ok (ix := 34160) (by decide +kernel)
theorem x_oM63 : x_okM x_big x_M63 := x_ckM_ok x_ch_ok (ix := 34167) (by decide +kernel)
theorem x_oM64 : x_okM x_big x_M64 := x_ckM_ok x_ch_ok (ix := 34088) (by decide +kernel)
theorem x_oM65 : x_okM x_big x_M65 := x_ckM_ok x_ch_ok (ix := 34141) (by decide +kernel)
theorem x_oM66 : x_okM x_big x_M66 := x_ckM_ok x_ch_ok (ix := 34077) (by decide +kernel)
theorem x_oM67 : x_okM x_big x_M67 := x_ckM_ok x_ch_ok (ix := 34084) (by decide +kernel)
theorem x_oM68 : x_okM x_big x_M68 := x_ckM_ok x_ch_ok (ix := 34163) (by decide +kernel)
set_option maxRecDepth 100000 in
theorem x_okK2 : ∀ M ∈ x_MT2, x_okM x_big M ∧ ∀ q ∈ M.2.2.2.2.2.2.flatten, x_okL x_cls x_MT x_big x_nx M.1.cls q.1 q.2 := List.forall_mem_cons.mpr ⟨⟨x_oM44, x_okA2⟩, List.forall_mem_cons.mpr ⟨⟨x_oM45, x_okA2⟩, List.forall_mem_cons.mpr ⟨⟨x_oM46, x_okA2⟩, List.forall_mem_cons.mpr ⟨⟨x_oM47, x_okA2⟩, List.forall_mem_cons.mpr ⟨⟨x_oM48, x_okA2⟩, List.forall_mem_cons.mpr ⟨⟨x_oM49, x_okA2⟩, List.forall_mem_cons.mpr ⟨⟨x_oM50, x_okA2⟩, List.forall_mem_cons.mpr ⟨⟨x_oM51, x_okA2⟩, List.forall_mem_cons.mpr ⟨⟨x_oM52, x_okA2⟩, List.forall_mem_cons.mpr ⟨⟨x_oM53, x_okA2⟩, List.forall_mem_cons.mpr ⟨⟨x_oM54, x_okA2⟩, List.forall_mem_cons.mpr ⟨⟨x_oM55, x_okA2⟩, List.forall_mem_cons.mpr ⟨⟨x_oM56, x_okA2⟩, List.forall_mem_cons.mpr ⟨⟨x_oM57, x_okA2⟩, List.forall_mem_cons.mpr ⟨⟨x_oM58, x_okA2⟩, List.forall_mem_cons.mpr ⟨⟨x_oM59, x_okA2⟩, List.forall_mem_cons.mpr ⟨⟨x_oM60, x_okA2⟩, List.forall_mem_cons.mpr ⟨⟨x_oM61, x_okA2⟩, List.forall_mem_cons.mpr ⟨⟨x_oM62, x_okA2⟩, List.forall_mem_cons.mpr ⟨⟨x_oM63, x_okA2⟩, List.forall_mem_cons.mpr ⟨⟨x_oM64, x_okA2⟩, List.forall_mem_cons.mpr ⟨⟨x_oM65, x_okA2⟩, List.forall_mem_cons.mpr ⟨⟨x_oM66, x_okA2⟩, List.forall_mem_cons.mpr ⟨⟨x_oM67, x_okA2⟩, List.forall_mem_cons.mpr ⟨⟨x_oM68, x_okA2⟩, fun _ h => absurd h List.not_mem_nil⟩⟩⟩⟩⟩⟩⟩⟩⟩⟩⟩⟩⟩⟩⟩⟩⟩⟩⟩⟩⟩⟩⟩⟩⟩
