def z_X11_init : fMi := (yX11_init, cX11_init, 1, none, [])
theorem k_X11_init : fMk z_X11_init 0 := ⟨⟨List.mem_of_getElem? (i := 100) (by decide +kernel), by decide +kernel⟩, List.mem_of_getElem? (i := 66) (by decide +kernel), ⟨by decide +kernel, by decide +kernel⟩, by decide +kernel, by decide +kernel, by decide +kernel⟩
theorem im_X11_init : Cond.instanceMethod yX11_init ∈ lw_tbl := List.mem_of_getElem? (i := 99) (by decide +kernel)
def z_X8_init : fMi := (yX8_init, cX8_init, 1, none, [])
theorem k_X8_init : fMk z_X8_init 0 := ⟨⟨List.mem_of_getElem? (i := 108) (by decide +kernel), by decide +kernel⟩, List.mem_of_getElem? (i := 67) (by decide +kernel), ⟨by decide +kernel, by decide +kernel⟩, by decide +kernel, by decide +kernel, by decide +kernel⟩
theorem im_X8_init : Cond.instanceMethod yX8_init ∈ lw_tbl := List.mem_of_getElem? (i := 107) (by decide +kernel)
def z_X0_init : fMi := (yX0_init, cX0_init, 1, none, [])
theorem k_X0_init : fMk z_X0_init 0 := ⟨⟨List.mem_of_getElem? (i := 114) (by decide +kernel), by decide +kernel⟩, List.mem_of_getElem? (i := 68) (by decide +kernel), ⟨by decide +kernel, by decide +kernel⟩, by decide +kernel, by decide +kernel, by decide +kernel⟩
theorem im_X0_init : Cond.instanceMethod yX0_init ∈ lw_tbl := List.mem_of_getElem? (i := 113) (by decide +kernel)
def z_X7_init : fMi := (yX7_init, cX7_init, 2, none, [])
theorem k_X7_init : fMk z_X7_init 1 := ⟨⟨List.mem_of_getElem? (i := 120) (by decide +kernel), by decide +kernel⟩, List.mem_of_getElem? (i := 69) (by decide +kernel), ⟨by decide +kernel, by decide +kernel⟩, by decide +kernel, by decide +kernel, by decide +kernel⟩
theorem im_X7_init : Cond.instanceMethod yX7_init ∈ lw_tbl := List.mem_of_getElem? (i := 119) (by decide +kernel)
def z_X6_init : fMi := (yX6_init, cX6_init, 1, none, [])
theorem k_X6_init : fMk z_X6_init 0 := ⟨⟨List.mem_of_getElem? (i := 160) (by decide +kernel), by decide +kernel⟩, List.mem_of_getElem? (i := 71) (by decide +kernel), ⟨by decide +kernel, by decide +kernel⟩, by decide +kernel, by decide +kernel, by decide +kernel⟩
theorem im_X6_init : Cond.instanceMethod yX6_init ∈ lw_tbl := List.mem_of_getElem? (i := 159) (by decide +kernel)
def z_X5_init : fMi := (yX5_init, cX5_init, 1, none, [])
theorem k_X5_init : fMk z_X5_init 0 := ⟨⟨List.mem_of_getElem? (i := 181) (by decide +kernel), by decide +kernel⟩, List.mem_of_getElem? (i := 72) (by decide +kernel), ⟨by decide +kernel, by decide +kernel⟩, by decide +kernel, by decide +kernel, by decide +kernel⟩
theorem im_X5_init : Cond.instanceMethod yX5_init ∈ lw_tbl := List.mem_of_getElem? (i := 180) (by decide +kernel)
def z_X4_init : fMi := (yX4_init, cX4_init, 2, none, [])
theorem k_X4_init : fMk z_X4_init 0 := ⟨⟨List.mem_of_getElem? (i := 261) (by decide +kernel), by decide +kernel⟩, List.mem_of_getElem? (i := 73) (by decide +kernel), ⟨by decide +kernel, by decide +kernel⟩, by decide +kernel, by decide +kernel, by decide +kernel⟩
theorem im_X4_init : Cond.instanceMethod yX4_init ∈ lw_tbl := List.mem_of_getElem? (i := 260) (by decide +kernel)
def z_X10_init : fMi := (yX10_init, cX10_init, 2, none, [])
theorem k_X10_init : fMk z_X10_init 1 := ⟨⟨List.mem_of_getElem? (i := 281) (by decide +kernel), by decide +kernel⟩, List.mem_of_getElem? (i := 74) (by decide +kernel), ⟨by decide +kernel, by decide +kernel⟩, by decide +kernel, by decide +kernel, by decide +kernel⟩
theorem im_X10_init : Cond.instanceMethod yX10_init ∈ lw_tbl := List.mem_of_getElem? (i := 280) (by decide +kernel)
def z_X1_init : fMi := (yX1_init, cX1_init, 1, none, [])
theorem k_X1_init : fMk z_X1_init 0 := ⟨⟨List.mem_of_getElem? (i := 303) (by decide +kernel), by decide +kernel⟩, List.mem_of_getElem? (i := 75) (by decide +kernel), ⟨by decide +kernel, by decide +kernel⟩, by decide +kernel, by decide +kernel, by decide +kernel⟩
theorem im_X1_init : Cond.instanceMethod yX1_init ∈ lw_tbl := List.mem_of_getElem? (i := 302) (by decide +kernel)
def z_X3_init : fMi := (yX3_init, cX3_init, 1, none, [])
theorem k_X3_init : fMk z_X3_init 0 := ⟨⟨List.mem_of_getElem? (i := 335) (by decide +kernel), by decide +kernel⟩, List.mem_of_getElem? (i := 76) (by decide +kernel), ⟨by decide +kernel, by decide +kernel⟩, by decide +kernel, by decide +kernel, by decide +kernel⟩
theorem im_X3_init : Cond.instanceMethod yX3_init ∈ lw_tbl := List.mem_of_getElem? (i := 334) (by decide +kernel)
def z_X2_init : fMi := (yX2_init, cX2_init, 1, none, [])
theorem k_X2_init : fMk z_X2_init 0 := ⟨⟨List.mem_of_getElem? (i := 350) (by decide +kernel), by decide +kernel⟩, List.mem_of_getElem? (i := 77) (by decide +kernel), ⟨by decide +kernel, by decide +kernel⟩, by decide +kernel, by decide +kernel, by decide +kernel⟩
theorem im_X2_init : Cond.instanceMethod yX2_init ∈ lw_tbl := List.mem_of_getElem? (i := 349) (by decide +kernel)
def z_X11_rawCount : fMi := (yX11_rawCount, cX11_rawCount, 1, some .int, [])
theorem k_X11_rawCount : fMk z_X11_rawCount 0 := ⟨⟨List.mem_of_getElem? (i := 407) (by decide +kernel), by decide +kernel⟩, List.mem_of_getElem? (i := 66) (by decide +kernel), ⟨by decide +kernel, by decide +kernel⟩, by decide +kernel, by decide +kernel, by decide +kernel⟩
theorem im_X11_rawCount : Cond.instanceMethod yX11_rawCount ∈ lw_tbl := List.mem_of_getElem? (i := 405) (by decide +kernel)
theorem se_X11_rawCount : Cond.selects RX11 yX11_rawCount yX11_rawCount ∈ lw_tbl := List.mem_of_getElem? (i := 406) (by decide +kernel)
def z_X11_batchCount : fMi := (yX11_batchCount, cX11_batchCount, 1, some .int, [])
theorem k_X11_batchCount : fMk z_X11_batchCount 0 := ⟨⟨List.mem_of_getElem? (i := 411) (by decide +kernel), by decide +kernel⟩, List.mem_of_getElem? (i := 66) (by decide +kernel), ⟨by decide +kernel, by decide +kernel⟩, by decide +kernel, by decide +kernel, by decide +kernel⟩
theorem im_X11_batchCount : Cond.instanceMethod yX11_batchCount ∈ lw_tbl := List.mem_of_getElem? (i := 409) (by decide +kernel)
theorem se_X11_batchCount : Cond.selects RX11 yX11_batchCount yX11_batchCount ∈ lw_tbl := List.mem_of_getElem? (i := 410) (by decide +kernel)
def z_X11_labelCount : fMi := (yX11_labelCount, cX11_labelCount, 1, some .int, [])
theorem k_X11_labelCount : fMk z_X11_labelCount 0 := ⟨⟨List.mem_of_getElem? (i := 415) (by decide +kernel), by decide +kernel⟩, List.mem_of_getElem? (i := 66) (by decide +kernel), ⟨by decide +kernel, by decide +kernel⟩, by decide +kernel, by decide +kernel, by decide +kernel⟩
theorem im_X11_labelCount : Cond.instanceMethod yX11_labelCount ∈ lw_tbl := List.mem_of_getElem? (i := 413) (by decide +kernel)
theorem se_X11_labelCount : Cond.selects RX11 yX11_labelCount yX11_labelCount ∈ lw_tbl := List.mem_of_getElem? (i := 414) (by decide +kernel)
def z_X11_lotCount : fMi := (yX11_lotCount, cX11_lotCount, 1, some .int, [])
theorem k_X11_lotCount : fMk z_X11_lotCount 0 := ⟨⟨List.mem_of_getElem? (i := 419) (by decide +kernel), by decide +kernel⟩, List.mem_of_getElem? (i := 66) (by decide +kernel), ⟨by decide +kernel, by decide +kernel⟩, by decide +kernel, by decide +kernel, by decide +kernel⟩
theorem im_X11_lotCount : Cond.instanceMethod yX11_lotCount ∈ lw_tbl := List.mem_of_getElem? (i := 417) (by decide +kernel)
theorem se_X11_lotCount : Cond.selects RX11 yX11_lotCount yX11_lotCount ∈ lw_tbl := List.mem_of_getElem? (i := 418) (by decide +kernel)
def z_X11_fewestTests : fMi := (yX11_fewestTests, cX11_fewestTests, 1, some .int, [])
theorem k_X11_fewestTests : fMk z_X11_fewestTests 0 := ⟨⟨List.mem_of_getElem? (i := 423) (by decide +kernel), by decide +kernel⟩, List.mem_of_getElem? (i := 66) (by decide +kernel), ⟨by decide +kernel, by decide +kernel⟩, by decide +kernel, by decide +kernel, by decide +kernel⟩
theorem im_X11_fewestTests : Cond.instanceMethod yX11_fewestTests ∈ lw_tbl := List.mem_of_getElem? (i := 421) (by decide +kernel)
theorem se_X11_fewestTests : Cond.selects RX11 yX11_fewestTests yX11_fewestTests ∈ lw_tbl := List.mem_of_getElem? (i := 422) (by decide +kernel)
def z_X9_best : fMi := (yX9_best, cX9_best, 4, some .int, [])
theorem k_X9_best : fMk z_X9_best 1 := ⟨⟨List.mem_of_getElem? (i := 426) (by decide +kernel), by decide +kernel⟩, List.mem_of_getElem? (i := 91) (by decide +kernel), ⟨by decide +kernel, by decide +kernel⟩, by decide +kernel, by decide +kernel, by decide +kernel⟩
theorem sm_X9_best : Cond.static yX9_best ∈ lw_tbl := List.mem_of_getElem? (i := 425) (by decide +kernel)
def z_X9_firstUntested : fMi := (yX9_firstUntested, cX9_firstUntested, 3, some .int, [])
theorem k_X9_firstUntested : fMk z_X9_firstUntested 2 := ⟨⟨List.mem_of_getElem? (i := 435) (by decide +kernel), by decide +kernel⟩, List.mem_of_getElem? (i := 91) (by decide +kernel), ⟨by decide +kernel, by decide +kernel⟩, by decide +kernel, by decide +kernel, by decide +kernel⟩
theorem sm_X9_firstUntested : Cond.static yX9_firstUntested ∈ lw_tbl := List.mem_of_getElem? (i := 434) (by decide +kernel)
def z_X8_rawsAt : fMi := (yX8_rawsAt, cX8_rawsAt, 2, some .int, [])
theorem k_X8_rawsAt : fMk z_X8_rawsAt 1 := ⟨⟨List.mem_of_getElem? (i := 439) (by decide +kernel), by decide +kernel⟩, List.mem_of_getElem? (i := 67) (by decide +kernel), ⟨by decide +kernel, by decide +kernel⟩, by decide +kernel, by decide +kernel, by decide +kernel⟩
theorem im_X8_rawsAt : Cond.instanceMethod yX8_rawsAt ∈ lw_tbl := List.mem_of_getElem? (i := 437) (by decide +kernel)
theorem se_X8_rawsAt : Cond.selects RX8 yX8_rawsAt yX8_rawsAt ∈ lw_tbl := List.mem_of_getElem? (i := 438) (by decide +kernel)
def z_X7_get : fMi := (yX7_get, cX7_get, 2, some .int, [])
theorem k_X7_get : fMk z_X7_get 1 := ⟨⟨List.mem_of_getElem? (i := 443) (by decide +kernel), by decide +kernel⟩, List.mem_of_getElem? (i := 69) (by decide +kernel), ⟨by decide +kernel, by decide +kernel⟩, by decide +kernel, by decide +kernel, by decide +kernel⟩
theorem im_X7_get : Cond.instanceMethod yX7_get ∈ lw_tbl := List.mem_of_getElem? (i := 441) (by decide +kernel)
theorem se_X7_get : Cond.selects RX7 yX7_get yX7_get ∈ lw_tbl := List.mem_of_getElem? (i := 442) (by decide +kernel)
def z_X11_fewestTestsByBranching : fMi := (yX11_fewestTestsByBranching, cX11_fewestTestsByBranching, 1, some .int, [])
theorem k_X11_fewestTestsByBranching : fMk z_X11_fewestTestsByBranching 0 := ⟨⟨List.mem_of_getElem? (i := 448) (by decide +kernel), by decide +kernel⟩, List.mem_of_getElem? (i := 66) (by decide +kernel), ⟨by decide +kernel, by decide +kernel⟩, by decide +kernel, by decide +kernel, by decide +kernel⟩
theorem im_X11_fewestTestsByBranching : Cond.instanceMethod yX11_fewestTestsByBranching ∈ lw_tbl := List.mem_of_getElem? (i := 446) (by decide +kernel)
theorem se_X11_fewestTestsByBranching : Cond.selects RX11 yX11_fewestTestsByBranching yX11_fewestTestsByBranching ∈ lw_tbl := List.mem_of_getElem? (i := 447) (by decide +kernel)
def z_X9_fewestByBranching : fMi := (yX9_fewestByBranching, cX9_fewestByBranching, 1, some .int, [])
theorem k_X9_fewestByBranching : fMk z_X9_fewestByBranching 1 := ⟨⟨List.mem_of_getElem? (i := 451) (by decide +kernel), by decide +kernel⟩, List.mem_of_getElem? (i := 91) (by decide +kernel), ⟨by decide +kernel, by decide +kernel⟩, by decide +kernel, by decide +kernel, by decide +kernel⟩
theorem sm_X9_fewestByBranching : Cond.static yX9_fewestByBranching ∈ lw_tbl := List.mem_of_getElem? (i := 450) (by decide +kernel)
def z_X9_branch : fMi := (yX9_branch, cX9_branch, 7, some .int, [])
theorem k_X9_branch : fMk z_X9_branch 3 := ⟨⟨List.mem_of_getElem? (i := 454) (by decide +kernel), by decide +kernel⟩, List.mem_of_getElem? (i := 91) (by decide +kernel), ⟨by decide +kernel, by decide +kernel⟩, by decide +kernel, by decide +kernel, by decide +kernel⟩
theorem sm_X9_branch : Cond.static yX9_branch ∈ lw_tbl := List.mem_of_getElem? (i := 453) (by decide +kernel)
def z_X11_setHas : fMi := (yX11_setHas, cX11_setHas, 2, some .boolean, [])
theorem k_X11_setHas : fMk z_X11_setHas 2 := ⟨⟨List.mem_of_getElem? (i := 457) (by decide +kernel), by decide +kernel⟩, List.mem_of_getElem? (i := 66) (by decide +kernel), ⟨by decide +kernel, by decide +kernel⟩, by decide +kernel, by decide +kernel, by decide +kernel⟩
theorem sm_X11_setHas : Cond.static yX11_setHas ∈ lw_tbl := List.mem_of_getElem? (i := 456) (by decide +kernel)
def z_X11_dayCount : fMi := (yX11_dayCount, cX11_dayCount, 1, some .int, [])
theorem k_X11_dayCount : fMk z_X11_dayCount 0 := ⟨⟨List.mem_of_getElem? (i := 464) (by decide +kernel), by decide +kernel⟩, List.mem_of_getElem? (i := 66) (by decide +kernel), ⟨by decide +kernel, by decide +kernel⟩, by decide +kernel, by decide +kernel, by decide +kernel⟩
theorem im_X11_dayCount : Cond.instanceMethod yX11_dayCount ∈ lw_tbl := List.mem_of_getElem? (i := 462) (by decide +kernel)
theorem se_X11_dayCount : Cond.selects RX11 yX11_dayCount yX11_dayCount ∈ lw_tbl := List.mem_of_getElem? (i := 463) (by decide +kernel)
def z_X11_filled : fMi := (yX11_filled, cX11_filled, 1, some .int, [])
theorem k_X11_filled : fMk z_X11_filled 0 := ⟨⟨List.mem_of_getElem? (i := 468) (by decide +kernel), by decide +kernel⟩, List.mem_of_getElem? (i := 66) (by decide +kernel), ⟨by decide +kernel, by decide +kernel⟩, by decide +kernel, by decide +kernel, by decide +kernel⟩
theorem im_X11_filled : Cond.instanceMethod yX11_filled ∈ lw_tbl := List.mem_of_getElem? (i := 466) (by decide +kernel)
theorem se_X11_filled : Cond.selects RX11 yX11_filled yX11_filled ∈ lw_tbl := List.mem_of_getElem? (i := 467) (by decide +kernel)
def z_X11_stored : fMi := (yX11_stored, cX11_stored, 1, some .int, [])
theorem k_X11_stored : fMk z_X11_stored 0 := ⟨⟨List.mem_of_getElem? (i := 472) (by decide +kernel), by decide +kernel⟩, List.mem_of_getElem? (i := 66) (by decide +kernel), ⟨by decide +kernel, by decide +kernel⟩, by decide +kernel, by decide +kernel, by decide +kernel⟩
theorem im_X11_stored : Cond.instanceMethod yX11_stored ∈ lw_tbl := List.mem_of_getElem? (i := 470) (by decide +kernel)
theorem se_X11_stored : Cond.selects RX11 yX11_stored yX11_stored ∈ lw_tbl := List.mem_of_getElem? (i := 471) (by decide +kernel)
def z_X5_sumOf : fMi := (yX5_sumOf, cX5_sumOf, 4, some .int, [])
theorem k_X5_sumOf : fMk z_X5_sumOf 1 := ⟨⟨List.mem_of_getElem? (i := 476) (by decide +kernel), by decide +kernel⟩, List.mem_of_getElem? (i := 72) (by decide +kernel), ⟨by decide +kernel, by decide +kernel⟩, by decide +kernel, by decide +kernel, by decide +kernel⟩
theorem im_X5_sumOf : Cond.instanceMethod yX5_sumOf ∈ lw_tbl := List.mem_of_getElem? (i := 474) (by decide +kernel)
theorem se_X5_sumOf : Cond.selects RX5 yX5_sumOf yX5_sumOf ∈ lw_tbl := List.mem_of_getElem? (i := 475) (by decide +kernel)
def z_X11_shipped : fMi := (yX11_shipped, cX11_shipped, 1, some .int, [])
theorem k_X11_shipped : fMk z_X11_shipped 0 := ⟨⟨List.mem_of_getElem? (i := 481) (by decide +kernel), by decide +kernel⟩, List.mem_of_getElem? (i := 66) (by decide +kernel), ⟨by decide +kernel, by decide +kernel⟩, by decide +kernel, by decide +kernel, by decide +kernel⟩
theorem im_X11_shipped : Cond.instanceMethod yX11_shipped ∈ lw_tbl := List.mem_of_getElem? (i := 479) (by decide +kernel)
theorem se_X11_shipped : Cond.selects RX11 yX11_shipped yX11_shipped ∈ lw_tbl := List.mem_of_getElem? (i := 480) (by decide +kernel)
def z_X11_recalled : fMi := (yX11_recalled, cX11_recalled, 1, some .int, [])
theorem k_X11_recalled : fMk z_X11_recalled 0 := ⟨⟨List.mem_of_getElem? (i := 485) (by decide +kernel), by decide +kernel⟩, List.mem_of_getElem? (i := 66) (by decide +kernel), ⟨by decide +kernel, by decide +kernel⟩, by decide +kernel, by decide +kernel, by decide +kernel⟩
theorem im_X11_recalled : Cond.instanceMethod yX11_recalled ∈ lw_tbl := List.mem_of_getElem? (i := 483) (by decide +kernel)
theorem se_X11_recalled : Cond.selects RX11 yX11_recalled yX11_recalled ∈ lw_tbl := List.mem_of_getElem? (i := 484) (by decide +kernel)
def z_X11_spoiled : fMi := (yX11_spoiled, cX11_spoiled, 1, some .int, [])
theorem k_X11_spoiled : fMk z_X11_spoiled 0 := ⟨⟨List.mem_of_getElem? (i := 489) (by decide +kernel), by decide +kernel⟩, List.mem_of_getElem? (i := 66) (by decide +kernel), ⟨by decide +kernel, by decide +kernel⟩, by decide +kernel, by decide +kernel, by decide +kernel⟩
theorem im_X11_spoiled : Cond.instanceMethod yX11_spoiled ∈ lw_tbl := List.mem_of_getElem? (i := 487) (by decide +kernel)
theorem se_X11_spoiled : Cond.selects RX11 yX11_spoiled yX11_spoiled ∈ lw_tbl := List.mem_of_getElem? (i := 488) (by decide +kernel)
def z_X11_writeRaws : fMi := (yX11_writeRaws, cX11_writeRaws, 3, some .int, [])
theorem k_X11_writeRaws : fMk z_X11_writeRaws 0 := ⟨⟨List.mem_of_getElem? (i := 493) (by decide +kernel), by decide +kernel⟩, List.mem_of_getElem? (i := 66) (by decide +kernel), ⟨by decide +kernel, by decide +kernel⟩, by decide +kernel, by decide +kernel, by decide +kernel⟩
theorem im_X11_writeRaws : Cond.instanceMethod yX11_writeRaws ∈ lw_tbl := List.mem_of_getElem? (i := 491) (by decide +kernel)
theorem se_X11_writeRaws : Cond.selects RX11 yX11_writeRaws yX11_writeRaws ∈ lw_tbl := List.mem_of_getElem? (i := 492) (by decide +kernel)
def z_X10_clear : fMi := (yX10_clear, cX10_clear, 1, none, [])
theorem k_X10_clear : fMk z_X10_clear 0 := ⟨⟨List.mem_of_getElem? (i := 497) (by decide +kernel), by decide +kernel⟩, List.mem_of_getElem? (i := 74) (by decide +kernel), ⟨by decide +kernel, by decide +kernel⟩, by decide +kernel, by decide +kernel, by decide +kernel⟩
theorem im_X10_clear : Cond.instanceMethod yX10_clear ∈ lw_tbl := List.mem_of_getElem? (i := 495) (by decide +kernel)
theorem se_X10_clear : Cond.selects RX10 yX10_clear yX10_clear ∈ lw_tbl := List.mem_of_getElem? (i := 496) (by decide +kernel)
def z_X11_signOfRaw : fMi := (yX11_signOfRaw, cX11_signOfRaw, 3, some .char, [])
theorem k_X11_signOfRaw : fMk z_X11_signOfRaw 2 := ⟨⟨List.mem_of_getElem? (i := 501) (by decide +kernel), by decide +kernel⟩, List.mem_of_getElem? (i := 66) (by decide +kernel), ⟨by decide +kernel, by decide +kernel⟩, by decide +kernel, by decide +kernel, by decide +kernel⟩
theorem im_X11_signOfRaw : Cond.instanceMethod yX11_signOfRaw ∈ lw_tbl := List.mem_of_getElem? (i := 500) (by decide +kernel)
theorem se_X11_signOfRaw : Cond.selects RX11 yX11_signOfRaw yX11_signOfRaw ∈ lw_tbl := List.mem_of_getElem? (i := 0) (by decide +kernel)
def z_X0_isRawFaulty : fMi := (yX0_isRawFaulty, cX0_isRawFaulty, 2, some .boolean, [])
theorem k_X0_isRawFaulty : fMk z_X0_isRawFaulty 1 := ⟨⟨List.mem_of_getElem? (i := 505) (by decide +kernel), by decide +kernel⟩, List.mem_of_getElem? (i := 68) (by decide +kernel), ⟨by decide +kernel, by decide +kernel⟩, by decide +kernel, by decide +kernel, by decide +kernel⟩
theorem im_X0_isRawFaulty : Cond.instanceMethod yX0_isRawFaulty ∈ lw_tbl := List.mem_of_getElem? (i := 503) (by decide +kernel)
theorem se_X0_isRawFaulty : Cond.selects RX0 yX0_isRawFaulty yX0_isRawFaulty ∈ lw_tbl := List.mem_of_getElem? (i := 504) (by decide +kernel)
def z_X10_add : fMi := (yX10_add, cX10_add, 2, none, [])
theorem k_X10_add : fMk z_X10_add 1 := ⟨⟨List.mem_of_getElem? (i := 511) (by decide +kernel), by decide +kernel⟩, List.mem_of_getElem? (i := 74) (by decide +kernel), ⟨by decide +kernel, by decide +kernel⟩, by decide +kernel, by decide +kernel, by decide +kernel⟩
theorem im_X10_add : Cond.instanceMethod yX10_add ∈ lw_tbl := List.mem_of_getElem? (i := 509) (by decide +kernel)
theorem se_X10_add : Cond.selects RX10 yX10_add yX10_add ∈ lw_tbl := List.mem_of_getElem? (i := 510) (by decide +kernel)
def z_X7_set : fMi := (yX7_set, cX7_set, 3, none, [])
theorem k_X7_set : fMk z_X7_set 2 := ⟨⟨List.mem_of_getElem? (i := 515) (by decide +kernel), by decide +kernel⟩, List.mem_of_getElem? (i := 69) (by decide +kernel), ⟨by decide +kernel, by decide +kernel⟩, by decide +kernel, by decide +kernel, by decide +kernel⟩
theorem im_X7_set : Cond.instanceMethod yX7_set ∈ lw_tbl := List.mem_of_getElem? (i := 513) (by decide +kernel)
theorem se_X7_set : Cond.selects RX7 yX7_set yX7_set ∈ lw_tbl := List.mem_of_getElem? (i := 514) (by decide +kernel)
def z_X11_isConsistent : fMi := (yX11_isConsistent, cX11_isConsistent, 1, some .boolean, [])
theorem k_X11_isConsistent : fMk z_X11_isConsistent 0 := ⟨⟨List.mem_of_getElem? (i := 519) (by decide +kernel), by decide +kernel⟩, List.mem_of_getElem? (i := 66) (by decide +kernel), ⟨by decide +kernel, by decide +kernel⟩, by decide +kernel, by decide +kernel, by decide +kernel⟩
theorem im_X11_isConsistent : Cond.instanceMethod yX11_isConsistent ∈ lw_tbl := List.mem_of_getElem? (i := 517) (by decide +kernel)
theorem se_X11_isConsistent : Cond.selects RX11 yX11_isConsistent yX11_isConsistent ∈ lw_tbl := List.mem_of_getElem? (i := 518) (by decide +kernel)
def z_X11_recallsAgree : fMi := (yX11_recallsAgree, cX11_recallsAgree, 2, some .boolean, [])
theorem k_X11_recallsAgree : fMk z_X11_recallsAgree 0 := ⟨⟨List.mem_of_getElem? (i := 523) (by decide +kernel), by decide +kernel⟩, List.mem_of_getElem? (i := 66) (by decide +kernel), ⟨by decide +kernel, by decide +kernel⟩, by decide +kernel, by decide +kernel, by decide +kernel⟩
theorem im_X11_recallsAgree : Cond.instanceMethod yX11_recallsAgree ∈ lw_tbl := List.mem_of_getElem? (i := 522) (by decide +kernel)
theorem se_X11_recallsAgree : Cond.selects RX11 yX11_recallsAgree yX11_recallsAgree ∈ lw_tbl := List.mem_of_getElem? (i := 1) (by decide +kernel)
def z_X8_countThroughBatches : fMi := (yX8_countThroughBatches, cX8_countThroughBatches, 6, some .int, [])
theorem k_X8_countThroughBatches : fMk z_X8_countThroughBatches 1 := ⟨⟨List.mem_of_getElem? (i := 527) (by decide +kernel), by decide +kernel⟩, List.mem_of_getElem? (i := 67) (by decide +kernel), ⟨by decide +kernel, by decide +kernel⟩, by decide +kernel, by decide +kernel, by decide +kernel⟩
theorem im_X8_countThroughBatches : Cond.instanceMethod yX8_countThroughBatches ∈ lw_tbl := List.mem_of_getElem? (i := 525) (by decide +kernel)
theorem se_X8_countThroughBatches : Cond.selects RX8 yX8_countThroughBatches yX8_countThroughBatches ∈ lw_tbl := List.mem_of_getElem? (i := 526) (by decide +kernel)
def z_X8_lotsOfBatch : fMi := (yX8_lotsOfBatch, cX8_lotsOfBatch, 4, some .int, [])
theorem k_X8_lotsOfBatch : fMk z_X8_lotsOfBatch 1 := ⟨⟨List.mem_of_getElem? (i := 532) (by decide +kernel), by decide +kernel⟩, List.mem_of_getElem? (i := 67) (by decide +kernel), ⟨by decide +kernel, by decide +kernel⟩, by decide +kernel, by decide +kernel, by decide +kernel⟩
theorem im_X8_lotsOfBatch : Cond.instanceMethod yX8_lotsOfBatch ∈ lw_tbl := List.mem_of_getElem? (i := 531) (by decide +kernel)
theorem se_X8_lotsOfBatch : Cond.selects RX8 yX8_lotsOfBatch yX8_lotsOfBatch ∈ lw_tbl := List.mem_of_getElem? (i := 2) (by decide +kernel)
def z_X8_countFromSets : fMi := (yX8_countFromSets, cX8_countFromSets, 4, some .int, [])
theorem k_X8_countFromSets : fMk z_X8_countFromSets 1 := ⟨⟨List.mem_of_getElem? (i := 537) (by decide +kernel), by decide +kernel⟩, List.mem_of_getElem? (i := 67) (by decide +kernel), ⟨by decide +kernel, by decide +kernel⟩, by decide +kernel, by decide +kernel, by decide +kernel⟩
theorem im_X8_countFromSets : Cond.instanceMethod yX8_countFromSets ∈ lw_tbl := List.mem_of_getElem? (i := 535) (by decide +kernel)
theorem se_X8_countFromSets : Cond.selects RX8 yX8_countFromSets yX8_countFromSets ∈ lw_tbl := List.mem_of_getElem? (i := 536) (by decide +kernel)
def z_X11_popsAgree : fMi := (yX11_popsAgree, cX11_popsAgree, 2, some .boolean, [])
theorem k_X11_popsAgree : fMk z_X11_popsAgree 0 := ⟨⟨List.mem_of_getElem? (i := 542) (by decide +kernel), by decide +kernel⟩, List.mem_of_getElem? (i := 66) (by decide +kernel), ⟨by decide +kernel, by decide +kernel⟩, by decide +kernel, by decide +kernel, by decide +kernel⟩
theorem im_X11_popsAgree : Cond.instanceMethod yX11_popsAgree ∈ lw_tbl := List.mem_of_getElem? (i := 541) (by decide +kernel)
theorem se_X11_popsAgree : Cond.selects RX11 yX11_popsAgree yX11_popsAgree ∈ lw_tbl := List.mem_of_getElem? (i := 3) (by decide +kernel)
def z_X8_daysDayByDay : fMi := (yX8_daysDayByDay, cX8_daysDayByDay, 4, some .int, [])
theorem k_X8_daysDayByDay : fMk z_X8_daysDayByDay 1 := ⟨⟨List.mem_of_getElem? (i := 546) (by decide +kernel), by decide +kernel⟩, List.mem_of_getElem? (i := 67) (by decide +kernel), ⟨by decide +kernel, by decide +kernel⟩, by decide +kernel, by decide +kernel, by decide +kernel⟩
theorem im_X8_daysDayByDay : Cond.instanceMethod yX8_daysDayByDay ∈ lw_tbl := List.mem_of_getElem? (i := 544) (by decide +kernel)
theorem se_X8_daysDayByDay : Cond.selects RX8 yX8_daysDayByDay yX8_daysDayByDay ∈ lw_tbl := List.mem_of_getElem? (i := 545) (by decide +kernel)
def z_X8_riseAt : fMi := (yX8_riseAt, cX8_riseAt, 2, some .int, [])
theorem k_X8_riseAt : fMk z_X8_riseAt 1 := ⟨⟨List.mem_of_getElem? (i := 550) (by decide +kernel), by decide +kernel⟩, List.mem_of_getElem? (i := 67) (by decide +kernel), ⟨by decide +kernel, by decide +kernel⟩, by decide +kernel, by decide +kernel, by decide +kernel⟩
theorem im_X8_riseAt : Cond.instanceMethod yX8_riseAt ∈ lw_tbl := List.mem_of_getElem? (i := 549) (by decide +kernel)
theorem se_X8_riseAt : Cond.selects RX8 yX8_riseAt yX8_riseAt ∈ lw_tbl := List.mem_of_getElem? (i := 4) (by decide +kernel)
def z_X8_strengthAt : fMi := (yX8_strengthAt, cX8_strengthAt, 4, some .int, [])
theorem k_X8_strengthAt : fMk z_X8_strengthAt 1 := ⟨⟨List.mem_of_getElem? (i := 554) (by decide +kernel), by decide +kernel⟩, List.mem_of_getElem? (i := 67) (by decide +kernel), ⟨by decide +kernel, by decide +kernel⟩, by decide +kernel, by decide +kernel, by decide +kernel⟩
theorem im_X8_strengthAt : Cond.instanceMethod yX8_strengthAt ∈ lw_tbl := List.mem_of_getElem? (i := 552) (by decide +kernel)
theorem se_X8_strengthAt : Cond.selects RX8 yX8_strengthAt yX8_strengthAt ∈ lw_tbl := List.mem_of_getElem? (i := 553) (by decide +kernel)
def z_X8_daysDivided : fMi := (yX8_daysDivided, cX8_daysDivided, 4, some .int, [])
theorem k_X8_daysDivided : fMk z_X8_daysDivided 1 := ⟨⟨List.mem_of_getElem? (i := 558) (by decide +kernel), by decide +kernel⟩, List.mem_of_getElem? (i := 67) (by decide +kernel), ⟨by decide +kernel, by decide +kernel⟩, by decide +kernel, by decide +kernel, by decide +kernel⟩
theorem im_X8_daysDivided : Cond.instanceMethod yX8_daysDivided ∈ lw_tbl := List.mem_of_getElem? (i := 556) (by decide +kernel)
theorem se_X8_daysDivided : Cond.selects RX8 yX8_daysDivided yX8_daysDivided ∈ lw_tbl := List.mem_of_getElem? (i := 557) (by decide +kernel)
def z_X11_cratesAgree : fMi := (yX11_cratesAgree, cX11_cratesAgree, 2, some .boolean, [])
theorem k_X11_cratesAgree : fMk z_X11_cratesAgree 1 := ⟨⟨List.mem_of_getElem? (i := 562) (by decide +kernel), by decide +kernel⟩, List.mem_of_getElem? (i := 66) (by decide +kernel), ⟨by decide +kernel, by decide +kernel⟩, by decide +kernel, by decide +kernel, by decide +kernel⟩
theorem im_X11_cratesAgree : Cond.instanceMethod yX11_cratesAgree ∈ lw_tbl := List.mem_of_getElem? (i := 561) (by decide +kernel)
theorem se_X11_cratesAgree : Cond.selects RX11 yX11_cratesAgree yX11_cratesAgree ∈ lw_tbl := List.mem_of_getElem? (i := 5) (by decide +kernel)
def z_X2_leastBySets : fMi := (yX2_leastBySets, cX2_leastBySets, 5, some .int, [])
theorem k_X2_leastBySets : fMk z_X2_leastBySets 2 := ⟨⟨List.mem_of_getElem? (i := 566) (by decide +kernel), by decide +kernel⟩, List.mem_of_getElem? (i := 77) (by decide +kernel), ⟨by decide +kernel, by decide +kernel⟩, by decide +kernel, by decide +kernel, by decide +kernel⟩
theorem im_X2_leastBySets : Cond.instanceMethod yX2_leastBySets ∈ lw_tbl := List.mem_of_getElem? (i := 564) (by decide +kernel)
theorem se_X2_leastBySets : Cond.selects RX2 yX2_leastBySets yX2_leastBySets ∈ lw_tbl := List.mem_of_getElem? (i := 565) (by decide +kernel)
def z_X2_findFor : fMi := (yX2_findFor, cX2_findFor, 12, none, [])
theorem k_X2_findFor : fMk z_X2_findFor 3 := ⟨⟨List.mem_of_getElem? (i := 571) (by decide +kernel), by decide +kernel⟩, List.mem_of_getElem? (i := 77) (by decide +kernel), ⟨by decide +kernel, by decide +kernel⟩, by decide +kernel, by decide +kernel, by decide +kernel⟩
theorem im_X2_findFor : Cond.instanceMethod yX2_findFor ∈ lw_tbl := List.mem_of_getElem? (i := 570) (by decide +kernel)
theorem se_X2_findFor : Cond.selects RX2 yX2_findFor yX2_findFor ∈ lw_tbl := List.mem_of_getElem? (i := 6) (by decide +kernel)
def z_X2_leastByTrial : fMi := (yX2_leastByTrial, cX2_leastByTrial, 3, some .int, [])
theorem k_X2_leastByTrial : fMk z_X2_leastByTrial 2 := ⟨⟨List.mem_of_getElem? (i := 577) (by decide +kernel), by decide +kernel⟩, List.mem_of_getElem? (i := 77) (by decide +kernel), ⟨by decide +kernel, by decide +kernel⟩, by decide +kernel, by decide +kernel, by decide +kernel⟩
theorem im_X2_leastByTrial : Cond.instanceMethod yX2_leastByTrial ∈ lw_tbl := List.mem_of_getElem? (i := 575) (by decide +kernel)
theorem se_X2_leastByTrial : Cond.selects RX2 yX2_leastByTrial yX2_leastByTrial ∈ lw_tbl := List.mem_of_getElem? (i := 576) (by decide +kernel)
def z_X2_put : fMi := (yX2_put, cX2_put, 10, some .int, [])
theorem k_X2_put : fMk z_X2_put 6 := ⟨⟨List.mem_of_getElem? (i := 580) (by decide +kernel), by decide +kernel⟩, List.mem_of_getElem? (i := 77) (by decide +kernel), ⟨by decide +kernel, by decide +kernel⟩, by decide +kernel, by decide +kernel, by decide +kernel⟩
theorem sm_X2_put : Cond.static yX2_put ∈ lw_tbl := List.mem_of_getElem? (i := 579) (by decide +kernel)
def z_X11_accountsAgree : fMi := (yX11_accountsAgree, cX11_accountsAgree, 2, some .boolean, [])
theorem k_X11_accountsAgree : fMk z_X11_accountsAgree 0 := ⟨⟨List.mem_of_getElem? (i := 585) (by decide +kernel), by decide +kernel⟩, List.mem_of_getElem? (i := 66) (by decide +kernel), ⟨by decide +kernel, by decide +kernel⟩, by decide +kernel, by decide +kernel, by decide +kernel⟩
theorem im_X11_accountsAgree : Cond.instanceMethod yX11_accountsAgree ∈ lw_tbl := List.mem_of_getElem? (i := 584) (by decide +kernel)
theorem se_X11_accountsAgree : Cond.selects RX11 yX11_accountsAgree yX11_accountsAgree ∈ lw_tbl := List.mem_of_getElem? (i := 7) (by decide +kernel)
def z_X11_clearText : fMi := (yX11_clearText, cX11_clearText, 2, some .int, [])
theorem k_X11_clearText : fMk z_X11_clearText 0 := ⟨⟨List.mem_of_getElem? (i := 589) (by decide +kernel), by decide +kernel⟩, List.mem_of_getElem? (i := 66) (by decide +kernel), ⟨by decide +kernel, by decide +kernel⟩, by decide +kernel, by decide +kernel, by decide +kernel⟩
theorem im_X11_clearText : Cond.instanceMethod yX11_clearText ∈ lw_tbl := List.mem_of_getElem? (i := 587) (by decide +kernel)
theorem se_X11_clearText : Cond.selects RX11 yX11_clearText yX11_clearText ∈ lw_tbl := List.mem_of_getElem? (i := 588) (by decide +kernel)
def z_X11_save : fMi := (yX11_save, cX11_save, 1, some .int, [])
theorem k_X11_save : fMk z_X11_save 0 := ⟨⟨List.mem_of_getElem? (i := 593) (by decide +kernel), by decide +kernel⟩, List.mem_of_getElem? (i := 66) (by decide +kernel), ⟨by decide +kernel, by decide +kernel⟩, by decide +kernel, by decide +kernel, by decide +kernel⟩
theorem im_X11_save : Cond.instanceMethod yX11_save ∈ lw_tbl := List.mem_of_getElem? (i := 591) (by decide +kernel)
theorem se_X11_save : Cond.selects RX11 yX11_save yX11_save ∈ lw_tbl := List.mem_of_getElem? (i := 592) (by decide +kernel)
def z_X8_copyFrom : fMi := (yX8_copyFrom, cX8_copyFrom, 2, none, [])
theorem k_X8_copyFrom : fMk z_X8_copyFrom 1 := ⟨⟨List.mem_of_getElem? (i := 597) (by decide +kernel), by decide +kernel⟩, List.mem_of_getElem? (i := 67) (by decide +kernel), ⟨by decide +kernel, by decide +kernel⟩, by decide +kernel, by decide +kernel, by decide +kernel⟩
theorem im_X8_copyFrom : Cond.instanceMethod yX8_copyFrom ∈ lw_tbl := List.mem_of_getElem? (i := 595) (by decide +kernel)
theorem se_X8_copyFrom : Cond.selects RX8 yX8_copyFrom yX8_copyFrom ∈ lw_tbl := List.mem_of_getElem? (i := 596) (by decide +kernel)
def z_X0_copyFrom : fMi := (yX0_copyFrom, cX0_copyFrom, 2, none, [])
theorem k_X0_copyFrom : fMk z_X0_copyFrom 1 := ⟨⟨List.mem_of_getElem? (i := 601) (by decide +kernel), by decide +kernel⟩, List.mem_of_getElem? (i := 68) (by decide +kernel), ⟨by decide +kernel, by decide +kernel⟩, by decide +kernel, by decide +kernel, by decide +kernel⟩
theorem im_X0_copyFrom : Cond.instanceMethod yX0_copyFrom ∈ lw_tbl := List.mem_of_getElem? (i := 599) (by decide +kernel)
theorem se_X0_copyFrom : Cond.selects RX0 yX0_copyFrom yX0_copyFrom ∈ lw_tbl := List.mem_of_getElem? (i := 600) (by decide +kernel)
def z_X7_copyFrom : fMi := (yX7_copyFrom, cX7_copyFrom, 2, none, [])
theorem k_X7_copyFrom : fMk z_X7_copyFrom 1 := ⟨⟨List.mem_of_getElem? (i := 605) (by decide +kernel), by decide +kernel⟩, List.mem_of_getElem? (i := 69) (by decide +kernel), ⟨by decide +kernel, by decide +kernel⟩, by decide +kernel, by decide +kernel, by decide +kernel⟩
theorem im_X7_copyFrom : Cond.instanceMethod yX7_copyFrom ∈ lw_tbl := List.mem_of_getElem? (i := 603) (by decide +kernel)
theorem se_X7_copyFrom : Cond.selects RX7 yX7_copyFrom yX7_copyFrom ∈ lw_tbl := List.mem_of_getElem? (i := 604) (by decide +kernel)
def z_X6_copyFrom : fMi := (yX6_copyFrom, cX6_copyFrom, 2, none, [])
theorem k_X6_copyFrom : fMk z_X6_copyFrom 1 := ⟨⟨List.mem_of_getElem? (i := 613) (by decide +kernel), by decide +kernel⟩, List.mem_of_getElem? (i := 71) (by decide +kernel), ⟨by decide +kernel, by decide +kernel⟩, by decide +kernel, by decide +kernel, by decide +kernel⟩
theorem im_X6_copyFrom : Cond.instanceMethod yX6_copyFrom ∈ lw_tbl := List.mem_of_getElem? (i := 611) (by decide +kernel)
theorem se_X6_copyFrom : Cond.selects RX6 yX6_copyFrom yX6_copyFrom ∈ lw_tbl := List.mem_of_getElem? (i := 612) (by decide +kernel)
def z_X5_copyFrom : fMi := (yX5_copyFrom, cX5_copyFrom, 2, none, [])
theorem k_X5_copyFrom : fMk z_X5_copyFrom 1 := ⟨⟨List.mem_of_getElem? (i := 618) (by decide +kernel), by decide +kernel⟩, List.mem_of_getElem? (i := 72) (by decide +kernel), ⟨by decide +kernel, by decide +kernel⟩, by decide +kernel, by decide +kernel, by decide +kernel⟩
theorem im_X5_copyFrom : Cond.instanceMethod yX5_copyFrom ∈ lw_tbl := List.mem_of_getElem? (i := 616) (by decide +kernel)
theorem se_X5_copyFrom : Cond.selects RX5 yX5_copyFrom yX5_copyFrom ∈ lw_tbl := List.mem_of_getElem? (i := 617) (by decide +kernel)
def z_L_addRaw : fMi := (yL_addRaw, cL_addRaw, 3, some .int, [(0, 8, 11, 13)])
theorem k_L_addRaw : fMk z_L_addRaw 2 := ⟨⟨List.mem_of_getElem? (i := 622) (by decide +kernel), by decide +kernel⟩, List.mem_of_getElem? (i := 65) (by decide +kernel), ⟨by decide +kernel, by decide +kernel⟩, by decide +kernel, by decide +kernel, by decide +kernel⟩
theorem sm_L_addRaw : Cond.static yL_addRaw ∈ lw_tbl := List.mem_of_getElem? (i := 621) (by decide +kernel)
def z_X11_addRaw : fMi := (yX11_addRaw, cX11_addRaw, 1, some .int, [])
theorem k_X11_addRaw : fMk z_X11_addRaw 0 := ⟨⟨List.mem_of_getElem? (i := 627) (by decide +kernel), by decide +kernel⟩, List.mem_of_getElem? (i := 66) (by decide +kernel), ⟨by decide +kernel, by decide +kernel⟩, by decide +kernel, by decide +kernel, by decide +kernel⟩
theorem im_X11_addRaw : Cond.instanceMethod yX11_addRaw ∈ lw_tbl := List.mem_of_getElem? (i := 625) (by decide +kernel)
theorem se_X11_addRaw : Cond.selects RX11 yX11_addRaw yX11_addRaw ∈ lw_tbl := List.mem_of_getElem? (i := 626) (by decide +kernel)
def z_X8_rawRefusal : fMi := (yX8_rawRefusal, cX8_rawRefusal, 1, some .int, [])
theorem k_X8_rawRefusal : fMk z_X8_rawRefusal 0 := ⟨⟨List.mem_of_getElem? (i := 631) (by decide +kernel), by decide +kernel⟩, List.mem_of_getElem? (i := 67) (by decide +kernel), ⟨by decide +kernel, by decide +kernel⟩, by decide +kernel, by decide +kernel, by decide +kernel⟩
theorem im_X8_rawRefusal : Cond.instanceMethod yX8_rawRefusal ∈ lw_tbl := List.mem_of_getElem? (i := 629) (by decide +kernel)
theorem se_X8_rawRefusal : Cond.selects RX8 yX8_rawRefusal yX8_rawRefusal ∈ lw_tbl := List.mem_of_getElem? (i := 630) (by decide +kernel)
def z_X11_demandAllowed : fMi := (yX11_demandAllowed, cX11_demandAllowed, 1, none, [])
theorem k_X11_demandAllowed : fMk z_X11_demandAllowed 1 := ⟨⟨List.mem_of_getElem? (i := 634) (by decide +kernel), by decide +kernel⟩, List.mem_of_getElem? (i := 66) (by decide +kernel), ⟨by decide +kernel, by decide +kernel⟩, by decide +kernel, by decide +kernel, by decide +kernel⟩
theorem sm_X11_demandAllowed : Cond.static yX11_demandAllowed ∈ lw_tbl := List.mem_of_getElem? (i := 633) (by decide +kernel)
def z_X4_keep : fMi := (yX4_keep, cX4_keep, 3, none, [])
theorem k_X4_keep : fMk z_X4_keep 1 := ⟨⟨List.mem_of_getElem? (i := 774) (by decide +kernel), by decide +kernel⟩, List.mem_of_getElem? (i := 73) (by decide +kernel), ⟨by decide +kernel, by decide +kernel⟩, by decide +kernel, by decide +kernel, by decide +kernel⟩
theorem im_X4_keep : Cond.instanceMethod yX4_keep ∈ lw_tbl := List.mem_of_getElem? (i := 772) (by decide +kernel)
theorem se_X4_keep : Cond.selects RX4 yX4_keep yX4_keep ∈ lw_tbl := List.mem_of_getElem? (i := 773) (by decide +kernel)
def z_X4_at : fMi := (yX4_at, cX4_at, 2, some (.object "JarCannery$State"), [])
theorem k_X4_at : fMk z_X4_at 1 := ⟨⟨List.mem_of_getElem? (i := 778) (by decide +kernel), by decide +kernel⟩, List.mem_of_getElem? (i := 73) (by decide +kernel), ⟨by decide +kernel, by decide +kernel⟩, by decide +kernel, by decide +kernel, by decide +kernel⟩
theorem im_X4_at : Cond.instanceMethod yX4_at ∈ lw_tbl := List.mem_of_getElem? (i := 777) (by decide +kernel)
theorem se_X4_at : Cond.selects RX4 yX4_at yX4_at ∈ lw_tbl := List.mem_of_getElem? (i := 9) (by decide +kernel)
def z_X0_addOneRaw : fMi := (yX0_addOneRaw, cX0_addOneRaw, 1, some .int, [])
theorem k_X0_addOneRaw : fMk z_X0_addOneRaw 0 := ⟨⟨List.mem_of_getElem? (i := 784) (by decide +kernel), by decide +kernel⟩, List.mem_of_getElem? (i := 68) (by decide +kernel), ⟨by decide +kernel, by decide +kernel⟩, by decide +kernel, by decide +kernel, by decide +kernel⟩
theorem im_X0_addOneRaw : Cond.instanceMethod yX0_addOneRaw ∈ lw_tbl := List.mem_of_getElem? (i := 782) (by decide +kernel)
theorem se_X0_addOneRaw : Cond.selects RX0 yX0_addOneRaw yX0_addOneRaw ∈ lw_tbl := List.mem_of_getElem? (i := 783) (by decide +kernel)
def z_L_mix : fMi := (yL_mix, cL_mix, 5, some .int, [(0, 10, 13, 19), (0, 10, 17, 13), (0, 10, 21, 21)])
theorem k_L_mix : fMk z_L_mix 4 := ⟨⟨List.mem_of_getElem? (i := 787) (by decide +kernel), by decide +kernel⟩, List.mem_of_getElem? (i := 65) (by decide +kernel), ⟨by decide +kernel, by decide +kernel⟩, by decide +kernel, by decide +kernel, by decide +kernel⟩
theorem sm_L_mix : Cond.static yL_mix ∈ lw_tbl := List.mem_of_getElem? (i := 786) (by decide +kernel)
def z_X11_mix : fMi := (yX11_mix, cX11_mix, 3, some .int, [])
theorem k_X11_mix : fMk z_X11_mix 2 := ⟨⟨List.mem_of_getElem? (i := 793) (by decide +kernel), by decide +kernel⟩, List.mem_of_getElem? (i := 66) (by decide +kernel), ⟨by decide +kernel, by decide +kernel⟩, by decide +kernel, by decide +kernel, by decide +kernel⟩
theorem im_X11_mix : Cond.instanceMethod yX11_mix ∈ lw_tbl := List.mem_of_getElem? (i := 791) (by decide +kernel)
theorem se_X11_mix : Cond.selects RX11 yX11_mix yX11_mix ∈ lw_tbl := List.mem_of_getElem? (i := 792) (by decide +kernel)
def z_X8_mixRefusal : fMi := (yX8_mixRefusal, cX8_mixRefusal, 3, some .int, [])
theorem k_X8_mixRefusal : fMk z_X8_mixRefusal 2 := ⟨⟨List.mem_of_getElem? (i := 797) (by decide +kernel), by decide +kernel⟩, List.mem_of_getElem? (i := 67) (by decide +kernel), ⟨by decide +kernel, by decide +kernel⟩, by decide +kernel, by decide +kernel, by decide +kernel⟩
theorem im_X8_mixRefusal : Cond.instanceMethod yX8_mixRefusal ∈ lw_tbl := List.mem_of_getElem? (i := 795) (by decide +kernel)
theorem se_X8_mixRefusal : Cond.selects RX8 yX8_mixRefusal yX8_mixRefusal ∈ lw_tbl := List.mem_of_getElem? (i := 796) (by decide +kernel)
def z_X0_hasSet : fMi := (yX0_hasSet, cX0_hasSet, 2, some .boolean, [])
theorem k_X0_hasSet : fMk z_X0_hasSet 1 := ⟨⟨List.mem_of_getElem? (i := 801) (by decide +kernel), by decide +kernel⟩, List.mem_of_getElem? (i := 68) (by decide +kernel), ⟨by decide +kernel, by decide +kernel⟩, by decide +kernel, by decide +kernel, by decide +kernel⟩
theorem im_X0_hasSet : Cond.instanceMethod yX0_hasSet ∈ lw_tbl := List.mem_of_getElem? (i := 799) (by decide +kernel)
theorem se_X0_hasSet : Cond.selects RX0 yX0_hasSet yX0_hasSet ∈ lw_tbl := List.mem_of_getElem? (i := 800) (by decide +kernel)
def z_X0_addBatch : fMi := (yX0_addBatch, cX0_addBatch, 3, some .int, [])
theorem k_X0_addBatch : fMk z_X0_addBatch 2 := ⟨⟨List.mem_of_getElem? (i := 805) (by decide +kernel), by decide +kernel⟩, List.mem_of_getElem? (i := 68) (by decide +kernel), ⟨by decide +kernel, by decide +kernel⟩, by decide +kernel, by decide +kernel, by decide +kernel⟩
theorem im_X0_addBatch : Cond.instanceMethod yX0_addBatch ∈ lw_tbl := List.mem_of_getElem? (i := 803) (by decide +kernel)
theorem se_X0_addBatch : Cond.selects RX0 yX0_addBatch yX0_addBatch ∈ lw_tbl := List.mem_of_getElem? (i := 804) (by decide +kernel)
def z_L_isFaulty : fMi := (yL_isFaulty, cL_isFaulty, 4, some .int, [(0, 16, 19, 27)])
theorem k_L_isFaulty : fMk z_L_isFaulty 3 := ⟨⟨List.mem_of_getElem? (i := 809) (by decide +kernel), by decide +kernel⟩, List.mem_of_getElem? (i := 65) (by decide +kernel), ⟨by decide +kernel, by decide +kernel⟩, by decide +kernel, by decide +kernel, by decide +kernel⟩
theorem sm_L_isFaulty : Cond.static yL_isFaulty ∈ lw_tbl := List.mem_of_getElem? (i := 808) (by decide +kernel)
def z_X11_isFaulty : fMi := (yX11_isFaulty, cX11_isFaulty, 2, some .boolean, [])
theorem k_X11_isFaulty : fMk z_X11_isFaulty 1 := ⟨⟨List.mem_of_getElem? (i := 834) (by decide +kernel), by decide +kernel⟩, List.mem_of_getElem? (i := 66) (by decide +kernel), ⟨by decide +kernel, by decide +kernel⟩, by decide +kernel, by decide +kernel, by decide +kernel⟩
theorem im_X11_isFaulty : Cond.instanceMethod yX11_isFaulty ∈ lw_tbl := List.mem_of_getElem? (i := 832) (by decide +kernel)
theorem se_X11_isFaulty : Cond.selects RX11 yX11_isFaulty yX11_isFaulty ∈ lw_tbl := List.mem_of_getElem? (i := 833) (by decide +kernel)
def z_X11_demandRaw : fMi := (yX11_demandRaw, cX11_demandRaw, 2, none, [])
theorem k_X11_demandRaw : fMk z_X11_demandRaw 1 := ⟨⟨List.mem_of_getElem? (i := 838) (by decide +kernel), by decide +kernel⟩, List.mem_of_getElem? (i := 66) (by decide +kernel), ⟨by decide +kernel, by decide +kernel⟩, by decide +kernel, by decide +kernel, by decide +kernel⟩
theorem im_X11_demandRaw : Cond.instanceMethod yX11_demandRaw ∈ lw_tbl := List.mem_of_getElem? (i := 837) (by decide +kernel)
theorem se_X11_demandRaw : Cond.selects RX11 yX11_demandRaw yX11_demandRaw ∈ lw_tbl := List.mem_of_getElem? (i := 10) (by decide +kernel)
def z_X0_hasRaw : fMi := (yX0_hasRaw, cX0_hasRaw, 2, some .boolean, [])
theorem k_X0_hasRaw : fMk z_X0_hasRaw 1 := ⟨⟨List.mem_of_getElem? (i := 842) (by decide +kernel), by decide +kernel⟩, List.mem_of_getElem? (i := 68) (by decide +kernel), ⟨by decide +kernel, by decide +kernel⟩, by decide +kernel, by decide +kernel, by decide +kernel⟩
theorem im_X0_hasRaw : Cond.instanceMethod yX0_hasRaw ∈ lw_tbl := List.mem_of_getElem? (i := 840) (by decide +kernel)
theorem se_X0_hasRaw : Cond.selects RX0 yX0_hasRaw yX0_hasRaw ∈ lw_tbl := List.mem_of_getElem? (i := 841) (by decide +kernel)
def z_L_strengthOf : fMi := (yL_strengthOf, cL_strengthOf, 4, some .int, [(0, 9, 12, 27)])
theorem k_L_strengthOf : fMk z_L_strengthOf 3 := ⟨⟨List.mem_of_getElem? (i := 846) (by decide +kernel), by decide +kernel⟩, List.mem_of_getElem? (i := 65) (by decide +kernel), ⟨by decide +kernel, by decide +kernel⟩, by decide +kernel, by decide +kernel, by decide +kernel⟩
theorem sm_L_strengthOf : Cond.static yL_strengthOf ∈ lw_tbl := List.mem_of_getElem? (i := 845) (by decide +kernel)
def z_X11_strengthOf : fMi := (yX11_strengthOf, cX11_strengthOf, 2, some .int, [])
theorem k_X11_strengthOf : fMk z_X11_strengthOf 1 := ⟨⟨List.mem_of_getElem? (i := 850) (by decide +kernel), by decide +kernel⟩, List.mem_of_getElem? (i := 66) (by decide +kernel), ⟨by decide +kernel, by decide +kernel⟩, by decide +kernel, by decide +kernel, by decide +kernel⟩
theorem im_X11_strengthOf : Cond.instanceMethod yX11_strengthOf ∈ lw_tbl := List.mem_of_getElem? (i := 848) (by decide +kernel)
theorem se_X11_strengthOf : Cond.selects RX11 yX11_strengthOf yX11_strengthOf ∈ lw_tbl := List.mem_of_getElem? (i := 849) (by decide +kernel)
def z_X11_demandBatch : fMi := (yX11_demandBatch, cX11_demandBatch, 2, none, [])
theorem k_X11_demandBatch : fMk z_X11_demandBatch 1 := ⟨⟨List.mem_of_getElem? (i := 854) (by decide +kernel), by decide +kernel⟩, List.mem_of_getElem? (i := 66) (by decide +kernel), ⟨by decide +kernel, by decide +kernel⟩, by decide +kernel, by decide +kernel, by decide +kernel⟩
theorem im_X11_demandBatch : Cond.instanceMethod yX11_demandBatch ∈ lw_tbl := List.mem_of_getElem? (i := 853) (by decide +kernel)
theorem se_X11_demandBatch : Cond.selects RX11 yX11_demandBatch yX11_demandBatch ∈ lw_tbl := List.mem_of_getElem? (i := 11) (by decide +kernel)
def z_X0_hasBatch : fMi := (yX0_hasBatch, cX0_hasBatch, 2, some .boolean, [])
theorem k_X0_hasBatch : fMk z_X0_hasBatch 1 := ⟨⟨List.mem_of_getElem? (i := 858) (by decide +kernel), by decide +kernel⟩, List.mem_of_getElem? (i := 68) (by decide +kernel), ⟨by decide +kernel, by decide +kernel⟩, by decide +kernel, by decide +kernel, by decide +kernel⟩
theorem im_X0_hasBatch : Cond.instanceMethod yX0_hasBatch ∈ lw_tbl := List.mem_of_getElem? (i := 856) (by decide +kernel)
theorem se_X0_hasBatch : Cond.selects RX0 yX0_hasBatch yX0_hasBatch ∈ lw_tbl := List.mem_of_getElem? (i := 857) (by decide +kernel)
def z_L_batchContains : fMi := (yL_batchContains, cL_batchContains, 5, some .int, [(0, 17, 20, 27)])
theorem k_L_batchContains : fMk z_L_batchContains 4 := ⟨⟨List.mem_of_getElem? (i := 863) (by decide +kernel), by decide +kernel⟩, List.mem_of_getElem? (i := 65) (by decide +kernel), ⟨by decide +kernel, by decide +kernel⟩, by decide +kernel, by decide +kernel, by decide +kernel⟩
theorem sm_L_batchContains : Cond.static yL_batchContains ∈ lw_tbl := List.mem_of_getElem? (i := 862) (by decide +kernel)
def z_X11_batchContains : fMi := (yX11_batchContains, cX11_batchContains, 3, some .boolean, [])
theorem k_X11_batchContains : fMk z_X11_batchContains 2 := ⟨⟨List.mem_of_getElem? (i := 867) (by decide +kernel), by decide +kernel⟩, List.mem_of_getElem? (i := 66) (by decide +kernel), ⟨by decide +kernel, by decide +kernel⟩, by decide +kernel, by decide +kernel, by decide +kernel⟩
theorem im_X11_batchContains : Cond.instanceMethod yX11_batchContains ∈ lw_tbl := List.mem_of_getElem? (i := 865) (by decide +kernel)
theorem se_X11_batchContains : Cond.selects RX11 yX11_batchContains yX11_batchContains ∈ lw_tbl := List.mem_of_getElem? (i := 866) (by decide +kernel)
def z_L_addLabel : fMi := (yL_addLabel, cL_addLabel, 3, some .int, [(0, 8, 11, 19), (0, 8, 14, 13)])
theorem k_L_addLabel : fMk z_L_addLabel 2 := ⟨⟨List.mem_of_getElem? (i := 870) (by decide +kernel), by decide +kernel⟩, List.mem_of_getElem? (i := 65) (by decide +kernel), ⟨by decide +kernel, by decide +kernel⟩, by decide +kernel, by decide +kernel, by decide +kernel⟩
theorem sm_L_addLabel : Cond.static yL_addLabel ∈ lw_tbl := List.mem_of_getElem? (i := 869) (by decide +kernel)
def z_X11_addLabel : fMi := (yX11_addLabel, cX11_addLabel, 2, some .int, [])
theorem k_X11_addLabel : fMk z_X11_addLabel 0 := ⟨⟨List.mem_of_getElem? (i := 874) (by decide +kernel), by decide +kernel⟩, List.mem_of_getElem? (i := 66) (by decide +kernel), ⟨by decide +kernel, by decide +kernel⟩, by decide +kernel, by decide +kernel, by decide +kernel⟩
theorem im_X11_addLabel : Cond.instanceMethod yX11_addLabel ∈ lw_tbl := List.mem_of_getElem? (i := 872) (by decide +kernel)
theorem se_X11_addLabel : Cond.selects RX11 yX11_addLabel yX11_addLabel ∈ lw_tbl := List.mem_of_getElem? (i := 873) (by decide +kernel)
def z_X8_labelRefusal : fMi := (yX8_labelRefusal, cX8_labelRefusal, 2, some .int, [])
theorem k_X8_labelRefusal : fMk z_X8_labelRefusal 1 := ⟨⟨List.mem_of_getElem? (i := 878) (by decide +kernel), by decide +kernel⟩, List.mem_of_getElem? (i := 67) (by decide +kernel), ⟨by decide +kernel, by decide +kernel⟩, by decide +kernel, by decide +kernel, by decide +kernel⟩
theorem im_X8_labelRefusal : Cond.instanceMethod yX8_labelRefusal ∈ lw_tbl := List.mem_of_getElem? (i := 876) (by decide +kernel)
theorem se_X8_labelRefusal : Cond.selects RX8 yX8_labelRefusal yX8_labelRefusal ∈ lw_tbl := List.mem_of_getElem? (i := 877) (by decide +kernel)
def z_X10_isLetters : fMi := (yX10_isLetters, cX10_isLetters, 3, some .boolean, [])
theorem k_X10_isLetters : fMk z_X10_isLetters 1 := ⟨⟨List.mem_of_getElem? (i := 882) (by decide +kernel), by decide +kernel⟩, List.mem_of_getElem? (i := 74) (by decide +kernel), ⟨by decide +kernel, by decide +kernel⟩, by decide +kernel, by decide +kernel, by decide +kernel⟩
theorem im_X10_isLetters : Cond.instanceMethod yX10_isLetters ∈ lw_tbl := List.mem_of_getElem? (i := 880) (by decide +kernel)
theorem se_X10_isLetters : Cond.selects RX10 yX10_isLetters yX10_isLetters ∈ lw_tbl := List.mem_of_getElem? (i := 881) (by decide +kernel)
def z_X10_at : fMi := (yX10_at, cX10_at, 2, some .char, [])
theorem k_X10_at : fMk z_X10_at 1 := ⟨⟨List.mem_of_getElem? (i := 886) (by decide +kernel), by decide +kernel⟩, List.mem_of_getElem? (i := 74) (by decide +kernel), ⟨by decide +kernel, by decide +kernel⟩, by decide +kernel, by decide +kernel, by decide +kernel⟩
theorem im_X10_at : Cond.instanceMethod yX10_at ∈ lw_tbl := List.mem_of_getElem? (i := 884) (by decide +kernel)
theorem se_X10_at : Cond.selects RX10 yX10_at yX10_at ∈ lw_tbl := List.mem_of_getElem? (i := 885) (by decide +kernel)
def z_X6_holds : fMi := (yX6_holds, cX6_holds, 3, some .boolean, [])
theorem k_X6_holds : fMk z_X6_holds 1 := ⟨⟨List.mem_of_getElem? (i := 891) (by decide +kernel), by decide +kernel⟩, List.mem_of_getElem? (i := 71) (by decide +kernel), ⟨by decide +kernel, by decide +kernel⟩, by decide +kernel, by decide +kernel, by decide +kernel⟩
theorem im_X6_holds : Cond.instanceMethod yX6_holds ∈ lw_tbl := List.mem_of_getElem? (i := 889) (by decide +kernel)
theorem se_X6_holds : Cond.selects RX6 yX6_holds yX6_holds ∈ lw_tbl := List.mem_of_getElem? (i := 890) (by decide +kernel)
def z_X6_isSame : fMi := (yX6_isSame, cX6_isSame, 4, some .boolean, [])
theorem k_X6_isSame : fMk z_X6_isSame 2 := ⟨⟨List.mem_of_getElem? (i := 895) (by decide +kernel), by decide +kernel⟩, List.mem_of_getElem? (i := 71) (by decide +kernel), ⟨by decide +kernel, by decide +kernel⟩, by decide +kernel, by decide +kernel, by decide +kernel⟩
theorem im_X6_isSame : Cond.instanceMethod yX6_isSame ∈ lw_tbl := List.mem_of_getElem? (i := 894) (by decide +kernel)
theorem se_X6_isSame : Cond.selects RX6 yX6_isSame yX6_isSame ∈ lw_tbl := List.mem_of_getElem? (i := 12) (by decide +kernel)
def z_X6_letter : fMi := (yX6_letter, cX6_letter, 3, some .char, [])
theorem k_X6_letter : fMk z_X6_letter 2 := ⟨⟨List.mem_of_getElem? (i := 900) (by decide +kernel), by decide +kernel⟩, List.mem_of_getElem? (i := 71) (by decide +kernel), ⟨by decide +kernel, by decide +kernel⟩, by decide +kernel, by decide +kernel, by decide +kernel⟩
theorem im_X6_letter : Cond.instanceMethod yX6_letter ∈ lw_tbl := List.mem_of_getElem? (i := 898) (by decide +kernel)
theorem se_X6_letter : Cond.selects RX6 yX6_letter yX6_letter ∈ lw_tbl := List.mem_of_getElem? (i := 899) (by decide +kernel)
def z_X6_addFrom : fMi := (yX6_addFrom, cX6_addFrom, 3, none, [])
theorem k_X6_addFrom : fMk z_X6_addFrom 1 := ⟨⟨List.mem_of_getElem? (i := 905) (by decide +kernel), by decide +kernel⟩, List.mem_of_getElem? (i := 71) (by decide +kernel), ⟨by decide +kernel, by decide +kernel⟩, by decide +kernel, by decide +kernel, by decide +kernel⟩
theorem im_X6_addFrom : Cond.instanceMethod yX6_addFrom ∈ lw_tbl := List.mem_of_getElem? (i := 903) (by decide +kernel)
theorem se_X6_addFrom : Cond.selects RX6 yX6_addFrom yX6_addFrom ∈ lw_tbl := List.mem_of_getElem? (i := 904) (by decide +kernel)
def z_L_labelLength : fMi := (yL_labelLength, cL_labelLength, 4, some .int, [(0, 9, 12, 27)])
theorem k_L_labelLength : fMk z_L_labelLength 3 := ⟨⟨List.mem_of_getElem? (i := 909) (by decide +kernel), by decide +kernel⟩, List.mem_of_getElem? (i := 65) (by decide +kernel), ⟨by decide +kernel, by decide +kernel⟩, by decide +kernel, by decide +kernel, by decide +kernel⟩
theorem sm_L_labelLength : Cond.static yL_labelLength ∈ lw_tbl := List.mem_of_getElem? (i := 908) (by decide +kernel)
def z_X11_labelLength : fMi := (yX11_labelLength, cX11_labelLength, 2, some .int, [])
theorem k_X11_labelLength : fMk z_X11_labelLength 1 := ⟨⟨List.mem_of_getElem? (i := 913) (by decide +kernel), by decide +kernel⟩, List.mem_of_getElem? (i := 66) (by decide +kernel), ⟨by decide +kernel, by decide +kernel⟩, by decide +kernel, by decide +kernel, by decide +kernel⟩
theorem im_X11_labelLength : Cond.instanceMethod yX11_labelLength ∈ lw_tbl := List.mem_of_getElem? (i := 911) (by decide +kernel)
theorem se_X11_labelLength : Cond.selects RX11 yX11_labelLength yX11_labelLength ∈ lw_tbl := List.mem_of_getElem? (i := 912) (by decide +kernel)
def z_X11_demandLabel : fMi := (yX11_demandLabel, cX11_demandLabel, 2, none, [])
theorem k_X11_demandLabel : fMk z_X11_demandLabel 1 := ⟨⟨List.mem_of_getElem? (i := 917) (by decide +kernel), by decide +kernel⟩, List.mem_of_getElem? (i := 66) (by decide +kernel), ⟨by decide +kernel, by decide +kernel⟩, by decide +kernel, by decide +kernel, by decide +kernel⟩
theorem im_X11_demandLabel : Cond.instanceMethod yX11_demandLabel ∈ lw_tbl := List.mem_of_getElem? (i := 916) (by decide +kernel)
theorem se_X11_demandLabel : Cond.selects RX11 yX11_demandLabel yX11_demandLabel ∈ lw_tbl := List.mem_of_getElem? (i := 13) (by decide +kernel)
def z_X6_has : fMi := (yX6_has, cX6_has, 2, some .boolean, [])
theorem k_X6_has : fMk z_X6_has 1 := ⟨⟨List.mem_of_getElem? (i := 921) (by decide +kernel), by decide +kernel⟩, List.mem_of_getElem? (i := 71) (by decide +kernel), ⟨by decide +kernel, by decide +kernel⟩, by decide +kernel, by decide +kernel, by decide +kernel⟩
theorem im_X6_has : Cond.instanceMethod yX6_has ∈ lw_tbl := List.mem_of_getElem? (i := 919) (by decide +kernel)
theorem se_X6_has : Cond.selects RX6 yX6_has yX6_has ∈ lw_tbl := List.mem_of_getElem? (i := 920) (by decide +kernel)
def z_L_labelLetter : fMi := (yL_labelLetter, cL_labelLetter, 5, some .int, [(0, 10, 13, 27)])
theorem k_L_labelLetter : fMk z_L_labelLetter 4 := ⟨⟨List.mem_of_getElem? (i := 925) (by decide +kernel), by decide +kernel⟩, List.mem_of_getElem? (i := 65) (by decide +kernel), ⟨by decide +kernel, by decide +kernel⟩, by decide +kernel, by decide +kernel, by decide +kernel⟩
theorem sm_L_labelLetter : Cond.static yL_labelLetter ∈ lw_tbl := List.mem_of_getElem? (i := 924) (by decide +kernel)
def z_X11_labelLetter : fMi := (yX11_labelLetter, cX11_labelLetter, 3, some .char, [])
theorem k_X11_labelLetter : fMk z_X11_labelLetter 2 := ⟨⟨List.mem_of_getElem? (i := 929) (by decide +kernel), by decide +kernel⟩, List.mem_of_getElem? (i := 66) (by decide +kernel), ⟨by decide +kernel, by decide +kernel⟩, by decide +kernel, by decide +kernel, by decide +kernel⟩
theorem im_X11_labelLetter : Cond.instanceMethod yX11_labelLetter ∈ lw_tbl := List.mem_of_getElem? (i := 927) (by decide +kernel)
theorem se_X11_labelLetter : Cond.selects RX11 yX11_labelLetter yX11_labelLetter ∈ lw_tbl := List.mem_of_getElem? (i := 928) (by decide +kernel)
def z_L_scan : fMi := (yL_scan, cL_scan, 3, some .int, [(0, 8, 11, 19), (0, 8, 14, 50)])
theorem k_L_scan : fMk z_L_scan 2 := ⟨⟨List.mem_of_getElem? (i := 934) (by decide +kernel), by decide +kernel⟩, List.mem_of_getElem? (i := 65) (by decide +kernel), ⟨by decide +kernel, by decide +kernel⟩, by decide +kernel, by decide +kernel, by decide +kernel⟩
theorem sm_L_scan : Cond.static yL_scan ∈ lw_tbl := List.mem_of_getElem? (i := 933) (by decide +kernel)
def z_X11_scan : fMi := (yX11_scan, cX11_scan, 5, some .int, [])
theorem k_X11_scan : fMk z_X11_scan 0 := ⟨⟨List.mem_of_getElem? (i := 939) (by decide +kernel), by decide +kernel⟩, List.mem_of_getElem? (i := 66) (by decide +kernel), ⟨by decide +kernel, by decide +kernel⟩, by decide +kernel, by decide +kernel, by decide +kernel⟩
theorem im_X11_scan : Cond.instanceMethod yX11_scan ∈ lw_tbl := List.mem_of_getElem? (i := 937) (by decide +kernel)
theorem se_X11_scan : Cond.selects RX11 yX11_scan yX11_scan ∈ lw_tbl := List.mem_of_getElem? (i := 938) (by decide +kernel)
def z_X11_demandScannedText : fMi := (yX11_demandScannedText, cX11_demandScannedText, 1, none, [])
theorem k_X11_demandScannedText : fMk z_X11_demandScannedText 0 := ⟨⟨List.mem_of_getElem? (i := 943) (by decide +kernel), by decide +kernel⟩, List.mem_of_getElem? (i := 66) (by decide +kernel), ⟨by decide +kernel, by decide +kernel⟩, by decide +kernel, by decide +kernel, by decide +kernel⟩
theorem im_X11_demandScannedText : Cond.instanceMethod yX11_demandScannedText ∈ lw_tbl := List.mem_of_getElem? (i := 942) (by decide +kernel)
theorem se_X11_demandScannedText : Cond.selects RX11 yX11_demandScannedText yX11_demandScannedText ∈ lw_tbl := List.mem_of_getElem? (i := 14) (by decide +kernel)
def z_X11_tableDistance : fMi := (yX11_tableDistance, cX11_tableDistance, 2, some .int, [])
theorem k_X11_tableDistance : fMk z_X11_tableDistance 1 := ⟨⟨List.mem_of_getElem? (i := 950) (by decide +kernel), by decide +kernel⟩, List.mem_of_getElem? (i := 66) (by decide +kernel), ⟨by decide +kernel, by decide +kernel⟩, by decide +kernel, by decide +kernel, by decide +kernel⟩
theorem im_X11_tableDistance : Cond.instanceMethod yX11_tableDistance ∈ lw_tbl := List.mem_of_getElem? (i := 949) (by decide +kernel)
theorem se_X11_tableDistance : Cond.selects RX11 yX11_tableDistance yX11_tableDistance ∈ lw_tbl := List.mem_of_getElem? (i := 15) (by decide +kernel)
def z_X11_takeWord : fMi := (yX11_takeWord, cX11_takeWord, 2, none, [])
theorem k_X11_takeWord : fMk z_X11_takeWord 1 := ⟨⟨List.mem_of_getElem? (i := 954) (by decide +kernel), by decide +kernel⟩, List.mem_of_getElem? (i := 66) (by decide +kernel), ⟨by decide +kernel, by decide +kernel⟩, by decide +kernel, by decide +kernel, by decide +kernel⟩
theorem im_X11_takeWord : Cond.instanceMethod yX11_takeWord ∈ lw_tbl := List.mem_of_getElem? (i := 953) (by decide +kernel)
theorem se_X11_takeWord : Cond.selects RX11 yX11_takeWord yX11_takeWord ∈ lw_tbl := List.mem_of_getElem? (i := 16) (by decide +kernel)
def z_X6_appendTo : fMi := (yX6_appendTo, cX6_appendTo, 4, none, [])
theorem k_X6_appendTo : fMk z_X6_appendTo 2 := ⟨⟨List.mem_of_getElem? (i := 958) (by decide +kernel), by decide +kernel⟩, List.mem_of_getElem? (i := 71) (by decide +kernel), ⟨by decide +kernel, by decide +kernel⟩, by decide +kernel, by decide +kernel, by decide +kernel⟩
theorem im_X6_appendTo : Cond.instanceMethod yX6_appendTo ∈ lw_tbl := List.mem_of_getElem? (i := 956) (by decide +kernel)
theorem se_X6_appendTo : Cond.selects RX6 yX6_appendTo yX6_appendTo ∈ lw_tbl := List.mem_of_getElem? (i := 957) (by decide +kernel)
def z_X3_byTable : fMi := (yX3_byTable, cX3_byTable, 5, some .int, [])
theorem k_X3_byTable : fMk z_X3_byTable 2 := ⟨⟨List.mem_of_getElem? (i := 963) (by decide +kernel), by decide +kernel⟩, List.mem_of_getElem? (i := 76) (by decide +kernel), ⟨by decide +kernel, by decide +kernel⟩, by decide +kernel, by decide +kernel, by decide +kernel⟩
theorem im_X3_byTable : Cond.instanceMethod yX3_byTable ∈ lw_tbl := List.mem_of_getElem? (i := 961) (by decide +kernel)
theorem se_X3_byTable : Cond.selects RX3 yX3_byTable yX3_byTable ∈ lw_tbl := List.mem_of_getElem? (i := 962) (by decide +kernel)
def z_X3_cell : fMi := (yX3_cell, cX3_cell, 8, some .int, [])
theorem k_X3_cell : fMk z_X3_cell 4 := ⟨⟨List.mem_of_getElem? (i := 967) (by decide +kernel), by decide +kernel⟩, List.mem_of_getElem? (i := 76) (by decide +kernel), ⟨by decide +kernel, by decide +kernel⟩, by decide +kernel, by decide +kernel, by decide +kernel⟩
theorem im_X3_cell : Cond.instanceMethod yX3_cell ∈ lw_tbl := List.mem_of_getElem? (i := 966) (by decide +kernel)
theorem se_X3_cell : Cond.selects RX3 yX3_cell yX3_cell ∈ lw_tbl := List.mem_of_getElem? (i := 17) (by decide +kernel)
def z_L_distanceTo : fMi := (yL_distanceTo, cL_distanceTo, 4, some .int, [(0, 9, 12, 27), (0, 9, 15, 19)])
theorem k_L_distanceTo : fMk z_L_distanceTo 3 := ⟨⟨List.mem_of_getElem? (i := 974) (by decide +kernel), by decide +kernel⟩, List.mem_of_getElem? (i := 65) (by decide +kernel), ⟨by decide +kernel, by decide +kernel⟩, by decide +kernel, by decide +kernel, by decide +kernel⟩
theorem sm_L_distanceTo : Cond.static yL_distanceTo ∈ lw_tbl := List.mem_of_getElem? (i := 973) (by decide +kernel)
def z_X11_distanceTo : fMi := (yX11_distanceTo, cX11_distanceTo, 2, some .int, [])
theorem k_X11_distanceTo : fMk z_X11_distanceTo 1 := ⟨⟨List.mem_of_getElem? (i := 978) (by decide +kernel), by decide +kernel⟩, List.mem_of_getElem? (i := 66) (by decide +kernel), ⟨by decide +kernel, by decide +kernel⟩, by decide +kernel, by decide +kernel, by decide +kernel⟩
theorem im_X11_distanceTo : Cond.instanceMethod yX11_distanceTo ∈ lw_tbl := List.mem_of_getElem? (i := 976) (by decide +kernel)
theorem se_X11_distanceTo : Cond.selects RX11 yX11_distanceTo yX11_distanceTo ∈ lw_tbl := List.mem_of_getElem? (i := 977) (by decide +kernel)
def z_L_distanceByLetters : fMi := (yL_distanceByLetters, cL_distanceByLetters, 4, some .int, [(0, 9, 12, 27), (0, 9, 15, 19)])
theorem k_L_distanceByLetters : fMk z_L_distanceByLetters 3 := ⟨⟨List.mem_of_getElem? (i := 981) (by decide +kernel), by decide +kernel⟩, List.mem_of_getElem? (i := 65) (by decide +kernel), ⟨by decide +kernel, by decide +kernel⟩, by decide +kernel, by decide +kernel, by decide +kernel⟩
theorem sm_L_distanceByLetters : Cond.static yL_distanceByLetters ∈ lw_tbl := List.mem_of_getElem? (i := 980) (by decide +kernel)
def z_X11_distanceByLetters : fMi := (yX11_distanceByLetters, cX11_distanceByLetters, 2, some .int, [])
theorem k_X11_distanceByLetters : fMk z_X11_distanceByLetters 1 := ⟨⟨List.mem_of_getElem? (i := 985) (by decide +kernel), by decide +kernel⟩, List.mem_of_getElem? (i := 66) (by decide +kernel), ⟨by decide +kernel, by decide +kernel⟩, by decide +kernel, by decide +kernel, by decide +kernel⟩
theorem im_X11_distanceByLetters : Cond.instanceMethod yX11_distanceByLetters ∈ lw_tbl := List.mem_of_getElem? (i := 983) (by decide +kernel)
theorem se_X11_distanceByLetters : Cond.selects RX11 yX11_distanceByLetters yX11_distanceByLetters ∈ lw_tbl := List.mem_of_getElem? (i := 984) (by decide +kernel)
def z_X3_byLetters : fMi := (yX3_byLetters, cX3_byLetters, 3, some .int, [])
theorem k_X3_byLetters : fMk z_X3_byLetters 2 := ⟨⟨List.mem_of_getElem? (i := 989) (by decide +kernel), by decide +kernel⟩, List.mem_of_getElem? (i := 76) (by decide +kernel), ⟨by decide +kernel, by decide +kernel⟩, by decide +kernel, by decide +kernel, by decide +kernel⟩
theorem im_X3_byLetters : Cond.instanceMethod yX3_byLetters ∈ lw_tbl := List.mem_of_getElem? (i := 987) (by decide +kernel)
theorem se_X3_byLetters : Cond.selects RX3 yX3_byLetters yX3_byLetters ∈ lw_tbl := List.mem_of_getElem? (i := 988) (by decide +kernel)
def z_X7_setAll : fMi := (yX7_setAll, cX7_setAll, 3, none, [])
theorem k_X7_setAll : fMk z_X7_setAll 1 := ⟨⟨List.mem_of_getElem? (i := 993) (by decide +kernel), by decide +kernel⟩, List.mem_of_getElem? (i := 69) (by decide +kernel), ⟨by decide +kernel, by decide +kernel⟩, by decide +kernel, by decide +kernel, by decide +kernel⟩
theorem im_X7_setAll : Cond.instanceMethod yX7_setAll ∈ lw_tbl := List.mem_of_getElem? (i := 991) (by decide +kernel)
theorem se_X7_setAll : Cond.selects RX7 yX7_setAll yX7_setAll ∈ lw_tbl := List.mem_of_getElem? (i := 992) (by decide +kernel)
def z_X3_goOn : fMi := (yX3_goOn, cX3_goOn, 12, some .int, [])
theorem k_X3_goOn : fMk z_X3_goOn 6 := ⟨⟨List.mem_of_getElem? (i := 996) (by decide +kernel), by decide +kernel⟩, List.mem_of_getElem? (i := 76) (by decide +kernel), ⟨by decide +kernel, by decide +kernel⟩, by decide +kernel, by decide +kernel, by decide +kernel⟩
theorem sm_X3_goOn : Cond.static yX3_goOn ∈ lw_tbl := List.mem_of_getElem? (i := 995) (by decide +kernel)
def z_L_fill : fMi := (yL_fill, cL_fill, 7, some .int, [(0, 14, 17, 27), (0, 14, 21, 19), (0, 14, 25, 13), (0, 14, 29, 21)])
theorem k_L_fill : fMk z_L_fill 6 := ⟨⟨List.mem_of_getElem? (i := 1000) (by decide +kernel), by decide +kernel⟩, List.mem_of_getElem? (i := 65) (by decide +kernel), ⟨by decide +kernel, by decide +kernel⟩, by decide +kernel, by decide +kernel, by decide +kernel⟩
theorem sm_L_fill : Cond.static yL_fill ∈ lw_tbl := List.mem_of_getElem? (i := 999) (by decide +kernel)
def z_X11_fill : fMi := (yX11_fill, cX11_fill, 5, some .int, [])
theorem k_X11_fill : fMk z_X11_fill 4 := ⟨⟨List.mem_of_getElem? (i := 1004) (by decide +kernel), by decide +kernel⟩, List.mem_of_getElem? (i := 66) (by decide +kernel), ⟨by decide +kernel, by decide +kernel⟩, by decide +kernel, by decide +kernel, by decide +kernel⟩
theorem im_X11_fill : Cond.instanceMethod yX11_fill ∈ lw_tbl := List.mem_of_getElem? (i := 1002) (by decide +kernel)
theorem se_X11_fill : Cond.selects RX11 yX11_fill yX11_fill ∈ lw_tbl := List.mem_of_getElem? (i := 1003) (by decide +kernel)
def z_X8_fillRefusal : fMi := (yX8_fillRefusal, cX8_fillRefusal, 5, some .int, [])
theorem k_X8_fillRefusal : fMk z_X8_fillRefusal 4 := ⟨⟨List.mem_of_getElem? (i := 1008) (by decide +kernel), by decide +kernel⟩, List.mem_of_getElem? (i := 67) (by decide +kernel), ⟨by decide +kernel, by decide +kernel⟩, by decide +kernel, by decide +kernel, by decide +kernel⟩
theorem im_X8_fillRefusal : Cond.instanceMethod yX8_fillRefusal ∈ lw_tbl := List.mem_of_getElem? (i := 1006) (by decide +kernel)
theorem se_X8_fillRefusal : Cond.selects RX8 yX8_fillRefusal yX8_fillRefusal ∈ lw_tbl := List.mem_of_getElem? (i := 1007) (by decide +kernel)
def z_X0_isSpoilt : fMi := (yX0_isSpoilt, cX0_isSpoilt, 2, some .boolean, [])
theorem k_X0_isSpoilt : fMk z_X0_isSpoilt 1 := ⟨⟨List.mem_of_getElem? (i := 1014) (by decide +kernel), by decide +kernel⟩, List.mem_of_getElem? (i := 68) (by decide +kernel), ⟨by decide +kernel, by decide +kernel⟩, by decide +kernel, by decide +kernel, by decide +kernel⟩
theorem im_X0_isSpoilt : Cond.instanceMethod yX0_isSpoilt ∈ lw_tbl := List.mem_of_getElem? (i := 1012) (by decide +kernel)
theorem se_X0_isSpoilt : Cond.selects RX0 yX0_isSpoilt yX0_isSpoilt ∈ lw_tbl := List.mem_of_getElem? (i := 1013) (by decide +kernel)
def z_X8_fillLot : fMi := (yX8_fillLot, cX8_fillLot, 5, some .int, [])
theorem k_X8_fillLot : fMk z_X8_fillLot 4 := ⟨⟨List.mem_of_getElem? (i := 1019) (by decide +kernel), by decide +kernel⟩, List.mem_of_getElem? (i := 67) (by decide +kernel), ⟨by decide +kernel, by decide +kernel⟩, by decide +kernel, by decide +kernel, by decide +kernel⟩
theorem im_X8_fillLot : Cond.instanceMethod yX8_fillLot ∈ lw_tbl := List.mem_of_getElem? (i := 1017) (by decide +kernel)
theorem se_X8_fillLot : Cond.selects RX8 yX8_fillLot yX8_fillLot ∈ lw_tbl := List.mem_of_getElem? (i := 1018) (by decide +kernel)
def z_X5_add : fMi := (yX5_add, cX5_add, 5, some .int, [])
theorem k_X5_add : fMk z_X5_add 4 := ⟨⟨List.mem_of_getElem? (i := 1023) (by decide +kernel), by decide +kernel⟩, List.mem_of_getElem? (i := 72) (by decide +kernel), ⟨by decide +kernel, by decide +kernel⟩, by decide +kernel, by decide +kernel, by decide +kernel⟩
theorem im_X5_add : Cond.instanceMethod yX5_add ∈ lw_tbl := List.mem_of_getElem? (i := 1021) (by decide +kernel)
theorem se_X5_add : Cond.selects RX5 yX5_add yX5_add ∈ lw_tbl := List.mem_of_getElem? (i := 1022) (by decide +kernel)
def z_L_ship : fMi := (yL_ship, cL_ship, 4, some .int, [(0, 9, 12, 50)])
theorem k_L_ship : fMk z_L_ship 3 := ⟨⟨List.mem_of_getElem? (i := 1027) (by decide +kernel), by decide +kernel⟩, List.mem_of_getElem? (i := 65) (by decide +kernel), ⟨by decide +kernel, by decide +kernel⟩, by decide +kernel, by decide +kernel, by decide +kernel⟩
theorem sm_L_ship : Cond.static yL_ship ∈ lw_tbl := List.mem_of_getElem? (i := 1026) (by decide +kernel)
def z_X11_ship : fMi := (yX11_ship, cX11_ship, 2, some .int, [])
theorem k_X11_ship : fMk z_X11_ship 1 := ⟨⟨List.mem_of_getElem? (i := 1031) (by decide +kernel), by decide +kernel⟩, List.mem_of_getElem? (i := 66) (by decide +kernel), ⟨by decide +kernel, by decide +kernel⟩, by decide +kernel, by decide +kernel, by decide +kernel⟩
theorem im_X11_ship : Cond.instanceMethod yX11_ship ∈ lw_tbl := List.mem_of_getElem? (i := 1029) (by decide +kernel)
theorem se_X11_ship : Cond.selects RX11 yX11_ship yX11_ship ∈ lw_tbl := List.mem_of_getElem? (i := 1030) (by decide +kernel)
def z_X8_shipRefusal : fMi := (yX8_shipRefusal, cX8_shipRefusal, 2, some .int, [])
theorem k_X8_shipRefusal : fMk z_X8_shipRefusal 1 := ⟨⟨List.mem_of_getElem? (i := 1035) (by decide +kernel), by decide +kernel⟩, List.mem_of_getElem? (i := 67) (by decide +kernel), ⟨by decide +kernel, by decide +kernel⟩, by decide +kernel, by decide +kernel, by decide +kernel⟩
theorem im_X8_shipRefusal : Cond.instanceMethod yX8_shipRefusal ∈ lw_tbl := List.mem_of_getElem? (i := 1033) (by decide +kernel)
theorem se_X8_shipRefusal : Cond.selects RX8 yX8_shipRefusal yX8_shipRefusal ∈ lw_tbl := List.mem_of_getElem? (i := 1034) (by decide +kernel)
def z_X5_positionOf : fMi := (yX5_positionOf, cX5_positionOf, 3, some .int, [])
theorem k_X5_positionOf : fMk z_X5_positionOf 1 := ⟨⟨List.mem_of_getElem? (i := 1039) (by decide +kernel), by decide +kernel⟩, List.mem_of_getElem? (i := 72) (by decide +kernel), ⟨by decide +kernel, by decide +kernel⟩, by decide +kernel, by decide +kernel, by decide +kernel⟩
theorem im_X5_positionOf : Cond.instanceMethod yX5_positionOf ∈ lw_tbl := List.mem_of_getElem? (i := 1037) (by decide +kernel)
theorem se_X5_positionOf : Cond.selects RX5 yX5_positionOf yX5_positionOf ∈ lw_tbl := List.mem_of_getElem? (i := 1038) (by decide +kernel)
def z_X8_shipLot : fMi := (yX8_shipLot, cX8_shipLot, 3, some .int, [])
theorem k_X8_shipLot : fMk z_X8_shipLot 1 := ⟨⟨List.mem_of_getElem? (i := 1043) (by decide +kernel), by decide +kernel⟩, List.mem_of_getElem? (i := 67) (by decide +kernel), ⟨by decide +kernel, by decide +kernel⟩, by decide +kernel, by decide +kernel, by decide +kernel⟩
theorem im_X8_shipLot : Cond.instanceMethod yX8_shipLot ∈ lw_tbl := List.mem_of_getElem? (i := 1041) (by decide +kernel)
theorem se_X8_shipLot : Cond.selects RX8 yX8_shipLot yX8_shipLot ∈ lw_tbl := List.mem_of_getElem? (i := 1042) (by decide +kernel)
def z_X5_remove : fMi := (yX5_remove, cX5_remove, 3, some .int, [])
theorem k_X5_remove : fMk z_X5_remove 1 := ⟨⟨List.mem_of_getElem? (i := 1047) (by decide +kernel), by decide +kernel⟩, List.mem_of_getElem? (i := 72) (by decide +kernel), ⟨by decide +kernel, by decide +kernel⟩, by decide +kernel, by decide +kernel, by decide +kernel⟩
theorem im_X5_remove : Cond.instanceMethod yX5_remove ∈ lw_tbl := List.mem_of_getElem? (i := 1045) (by decide +kernel)
theorem se_X5_remove : Cond.selects RX5 yX5_remove yX5_remove ∈ lw_tbl := List.mem_of_getElem? (i := 1046) (by decide +kernel)
def z_X7_closeGap : fMi := (yX7_closeGap, cX7_closeGap, 3, none, [])
theorem k_X7_closeGap : fMk z_X7_closeGap 1 := ⟨⟨List.mem_of_getElem? (i := 1051) (by decide +kernel), by decide +kernel⟩, List.mem_of_getElem? (i := 69) (by decide +kernel), ⟨by decide +kernel, by decide +kernel⟩, by decide +kernel, by decide +kernel, by decide +kernel⟩
theorem im_X7_closeGap : Cond.instanceMethod yX7_closeGap ∈ lw_tbl := List.mem_of_getElem? (i := 1049) (by decide +kernel)
theorem se_X7_closeGap : Cond.selects RX7 yX7_closeGap yX7_closeGap ∈ lw_tbl := List.mem_of_getElem? (i := 1050) (by decide +kernel)
def z_L_pass : fMi := (yL_pass, cL_pass, 4, some .int, [(0, 9, 12, 19)])
theorem k_L_pass : fMk z_L_pass 3 := ⟨⟨List.mem_of_getElem? (i := 1054) (by decide +kernel), by decide +kernel⟩, List.mem_of_getElem? (i := 65) (by decide +kernel), ⟨by decide +kernel, by decide +kernel⟩, by decide +kernel, by decide +kernel, by decide +kernel⟩
theorem sm_L_pass : Cond.static yL_pass ∈ lw_tbl := List.mem_of_getElem? (i := 1053) (by decide +kernel)
def z_X11_pass : fMi := (yX11_pass, cX11_pass, 2, some .int, [])
theorem k_X11_pass : fMk z_X11_pass 1 := ⟨⟨List.mem_of_getElem? (i := 1058) (by decide +kernel), by decide +kernel⟩, List.mem_of_getElem? (i := 66) (by decide +kernel), ⟨by decide +kernel, by decide +kernel⟩, by decide +kernel, by decide +kernel, by decide +kernel⟩
theorem im_X11_pass : Cond.instanceMethod yX11_pass ∈ lw_tbl := List.mem_of_getElem? (i := 1056) (by decide +kernel)
theorem se_X11_pass : Cond.selects RX11 yX11_pass yX11_pass ∈ lw_tbl := List.mem_of_getElem? (i := 1057) (by decide +kernel)
def z_X8_passRefusal : fMi := (yX8_passRefusal, cX8_passRefusal, 2, some .int, [])
theorem k_X8_passRefusal : fMk z_X8_passRefusal 1 := ⟨⟨List.mem_of_getElem? (i := 1062) (by decide +kernel), by decide +kernel⟩, List.mem_of_getElem? (i := 67) (by decide +kernel), ⟨by decide +kernel, by decide +kernel⟩, by decide +kernel, by decide +kernel, by decide +kernel⟩
theorem im_X8_passRefusal : Cond.instanceMethod yX8_passRefusal ∈ lw_tbl := List.mem_of_getElem? (i := 1060) (by decide +kernel)
theorem se_X8_passRefusal : Cond.selects RX8 yX8_passRefusal yX8_passRefusal ∈ lw_tbl := List.mem_of_getElem? (i := 1061) (by decide +kernel)
def z_X8_passDays : fMi := (yX8_passDays, cX8_passDays, 4, some .int, [])
theorem k_X8_passDays : fMk z_X8_passDays 1 := ⟨⟨List.mem_of_getElem? (i := 1066) (by decide +kernel), by decide +kernel⟩, List.mem_of_getElem? (i := 67) (by decide +kernel), ⟨by decide +kernel, by decide +kernel⟩, by decide +kernel, by decide +kernel, by decide +kernel⟩
theorem im_X8_passDays : Cond.instanceMethod yX8_passDays ∈ lw_tbl := List.mem_of_getElem? (i := 1064) (by decide +kernel)
theorem se_X8_passDays : Cond.selects RX8 yX8_passDays yX8_passDays ∈ lw_tbl := List.mem_of_getElem? (i := 1065) (by decide +kernel)
def z_X8_passOneDay : fMi := (yX8_passOneDay, cX8_passOneDay, 4, some .int, [])
theorem k_X8_passOneDay : fMk z_X8_passOneDay 0 := ⟨⟨List.mem_of_getElem? (i := 1070) (by decide +kernel), by decide +kernel⟩, List.mem_of_getElem? (i := 67) (by decide +kernel), ⟨by decide +kernel, by decide +kernel⟩, by decide +kernel, by decide +kernel, by decide +kernel⟩
theorem im_X8_passOneDay : Cond.instanceMethod yX8_passOneDay ∈ lw_tbl := List.mem_of_getElem? (i := 1069) (by decide +kernel)
theorem se_X8_passOneDay : Cond.selects RX8 yX8_passOneDay yX8_passOneDay ∈ lw_tbl := List.mem_of_getElem? (i := 18) (by decide +kernel)
def z_L_recall : fMi := (yL_recall, cL_recall, 4, some .int, [(0, 9, 12, 27), (0, 9, 15, 13)])
theorem k_L_recall : fMk z_L_recall 3 := ⟨⟨List.mem_of_getElem? (i := 1074) (by decide +kernel), by decide +kernel⟩, List.mem_of_getElem? (i := 65) (by decide +kernel), ⟨by decide +kernel, by decide +kernel⟩, by decide +kernel, by decide +kernel, by decide +kernel⟩
theorem sm_L_recall : Cond.static yL_recall ∈ lw_tbl := List.mem_of_getElem? (i := 1073) (by decide +kernel)
def z_X11_recall : fMi := (yX11_recall, cX11_recall, 2, some .int, [])
theorem k_X11_recall : fMk z_X11_recall 1 := ⟨⟨List.mem_of_getElem? (i := 1078) (by decide +kernel), by decide +kernel⟩, List.mem_of_getElem? (i := 66) (by decide +kernel), ⟨by decide +kernel, by decide +kernel⟩, by decide +kernel, by decide +kernel, by decide +kernel⟩
theorem im_X11_recall : Cond.instanceMethod yX11_recall ∈ lw_tbl := List.mem_of_getElem? (i := 1076) (by decide +kernel)
theorem se_X11_recall : Cond.selects RX11 yX11_recall yX11_recall ∈ lw_tbl := List.mem_of_getElem? (i := 1077) (by decide +kernel)
def z_X8_recallRefusal : fMi := (yX8_recallRefusal, cX8_recallRefusal, 2, some .int, [])
theorem k_X8_recallRefusal : fMk z_X8_recallRefusal 1 := ⟨⟨List.mem_of_getElem? (i := 1082) (by decide +kernel), by decide +kernel⟩, List.mem_of_getElem? (i := 67) (by decide +kernel), ⟨by decide +kernel, by decide +kernel⟩, by decide +kernel, by decide +kernel, by decide +kernel⟩
theorem im_X8_recallRefusal : Cond.instanceMethod yX8_recallRefusal ∈ lw_tbl := List.mem_of_getElem? (i := 1080) (by decide +kernel)
theorem se_X8_recallRefusal : Cond.selects RX8 yX8_recallRefusal yX8_recallRefusal ∈ lw_tbl := List.mem_of_getElem? (i := 1081) (by decide +kernel)
def z_X8_recallRaw : fMi := (yX8_recallRaw, cX8_recallRaw, 4, some .int, [])
theorem k_X8_recallRaw : fMk z_X8_recallRaw 1 := ⟨⟨List.mem_of_getElem? (i := 1088) (by decide +kernel), by decide +kernel⟩, List.mem_of_getElem? (i := 67) (by decide +kernel), ⟨by decide +kernel, by decide +kernel⟩, by decide +kernel, by decide +kernel, by decide +kernel⟩
theorem im_X8_recallRaw : Cond.instanceMethod yX8_recallRaw ∈ lw_tbl := List.mem_of_getElem? (i := 1086) (by decide +kernel)
theorem se_X8_recallRaw : Cond.selects RX8 yX8_recallRaw yX8_recallRaw ∈ lw_tbl := List.mem_of_getElem? (i := 1087) (by decide +kernel)
def z_X0_markFaulty : fMi := (yX0_markFaulty, cX0_markFaulty, 2, none, [])
theorem k_X0_markFaulty : fMk z_X0_markFaulty 1 := ⟨⟨List.mem_of_getElem? (i := 1092) (by decide +kernel), by decide +kernel⟩, List.mem_of_getElem? (i := 68) (by decide +kernel), ⟨by decide +kernel, by decide +kernel⟩, by decide +kernel, by decide +kernel, by decide +kernel⟩
theorem im_X0_markFaulty : Cond.instanceMethod yX0_markFaulty ∈ lw_tbl := List.mem_of_getElem? (i := 1090) (by decide +kernel)
theorem se_X0_markFaulty : Cond.selects RX0 yX0_markFaulty yX0_markFaulty ∈ lw_tbl := List.mem_of_getElem? (i := 1091) (by decide +kernel)
def z_L_lotAt : fMi := (yL_lotAt, cL_lotAt, 4, some .int, [(0, 9, 12, 27)])
theorem k_L_lotAt : fMk z_L_lotAt 3 := ⟨⟨List.mem_of_getElem? (i := 1095) (by decide +kernel), by decide +kernel⟩, List.mem_of_getElem? (i := 65) (by decide +kernel), ⟨by decide +kernel, by decide +kernel⟩, by decide +kernel, by decide +kernel, by decide +kernel⟩
theorem sm_L_lotAt : Cond.static yL_lotAt ∈ lw_tbl := List.mem_of_getElem? (i := 1094) (by decide +kernel)
def z_X11_lotAt : fMi := (yX11_lotAt, cX11_lotAt, 2, some .int, [])
theorem k_X11_lotAt : fMk z_X11_lotAt 1 := ⟨⟨List.mem_of_getElem? (i := 1099) (by decide +kernel), by decide +kernel⟩, List.mem_of_getElem? (i := 66) (by decide +kernel), ⟨by decide +kernel, by decide +kernel⟩, by decide +kernel, by decide +kernel, by decide +kernel⟩
theorem im_X11_lotAt : Cond.instanceMethod yX11_lotAt ∈ lw_tbl := List.mem_of_getElem? (i := 1097) (by decide +kernel)
theorem se_X11_lotAt : Cond.selects RX11 yX11_lotAt yX11_lotAt ∈ lw_tbl := List.mem_of_getElem? (i := 1098) (by decide +kernel)
def z_L_jarsOf : fMi := (yL_jarsOf, cL_jarsOf, 4, some .int, [(0, 9, 12, 50)])
theorem k_L_jarsOf : fMk z_L_jarsOf 3 := ⟨⟨List.mem_of_getElem? (i := 1103) (by decide +kernel), by decide +kernel⟩, List.mem_of_getElem? (i := 65) (by decide +kernel), ⟨by decide +kernel, by decide +kernel⟩, by decide +kernel, by decide +kernel, by decide +kernel⟩
theorem sm_L_jarsOf : Cond.static yL_jarsOf ∈ lw_tbl := List.mem_of_getElem? (i := 1102) (by decide +kernel)
def z_X11_jarsOf : fMi := (yX11_jarsOf, cX11_jarsOf, 2, some .int, [])
theorem k_X11_jarsOf : fMk z_X11_jarsOf 1 := ⟨⟨List.mem_of_getElem? (i := 1107) (by decide +kernel), by decide +kernel⟩, List.mem_of_getElem? (i := 66) (by decide +kernel), ⟨by decide +kernel, by decide +kernel⟩, by decide +kernel, by decide +kernel, by decide +kernel⟩
theorem im_X11_jarsOf : Cond.instanceMethod yX11_jarsOf ∈ lw_tbl := List.mem_of_getElem? (i := 1105) (by decide +kernel)
theorem se_X11_jarsOf : Cond.selects RX11 yX11_jarsOf yX11_jarsOf ∈ lw_tbl := List.mem_of_getElem? (i := 1106) (by decide +kernel)
def z_X11_demandLot : fMi := (yX11_demandLot, cX11_demandLot, 3, some .int, [])
theorem k_X11_demandLot : fMk z_X11_demandLot 1 := ⟨⟨List.mem_of_getElem? (i := 1111) (by decide +kernel), by decide +kernel⟩, List.mem_of_getElem? (i := 66) (by decide +kernel), ⟨by decide +kernel, by decide +kernel⟩, by decide +kernel, by decide +kernel, by decide +kernel⟩
theorem im_X11_demandLot : Cond.instanceMethod yX11_demandLot ∈ lw_tbl := List.mem_of_getElem? (i := 1110) (by decide +kernel)
theorem se_X11_demandLot : Cond.selects RX11 yX11_demandLot yX11_demandLot ∈ lw_tbl := List.mem_of_getElem? (i := 19) (by decide +kernel)
def z_L_labelOf : fMi := (yL_labelOf, cL_labelOf, 4, some .int, [(0, 9, 12, 50)])
theorem k_L_labelOf : fMk z_L_labelOf 3 := ⟨⟨List.mem_of_getElem? (i := 1115) (by decide +kernel), by decide +kernel⟩, List.mem_of_getElem? (i := 65) (by decide +kernel), ⟨by decide +kernel, by decide +kernel⟩, by decide +kernel, by decide +kernel, by decide +kernel⟩
theorem sm_L_labelOf : Cond.static yL_labelOf ∈ lw_tbl := List.mem_of_getElem? (i := 1114) (by decide +kernel)
def z_X11_labelOf : fMi := (yX11_labelOf, cX11_labelOf, 2, some .int, [])
theorem k_X11_labelOf : fMk z_X11_labelOf 1 := ⟨⟨List.mem_of_getElem? (i := 1119) (by decide +kernel), by decide +kernel⟩, List.mem_of_getElem? (i := 66) (by decide +kernel), ⟨by decide +kernel, by decide +kernel⟩, by decide +kernel, by decide +kernel, by decide +kernel⟩
theorem im_X11_labelOf : Cond.instanceMethod yX11_labelOf ∈ lw_tbl := List.mem_of_getElem? (i := 1117) (by decide +kernel)
theorem se_X11_labelOf : Cond.selects RX11 yX11_labelOf yX11_labelOf ∈ lw_tbl := List.mem_of_getElem? (i := 1118) (by decide +kernel)
def z_L_strengthOfLot : fMi := (yL_strengthOfLot, cL_strengthOfLot, 4, some .int, [(0, 9, 12, 50)])
theorem k_L_strengthOfLot : fMk z_L_strengthOfLot 3 := ⟨⟨List.mem_of_getElem? (i := 1122) (by decide +kernel), by decide +kernel⟩, List.mem_of_getElem? (i := 65) (by decide +kernel), ⟨by decide +kernel, by decide +kernel⟩, by decide +kernel, by decide +kernel, by decide +kernel⟩
theorem sm_L_strengthOfLot : Cond.static yL_strengthOfLot ∈ lw_tbl := List.mem_of_getElem? (i := 1121) (by decide +kernel)
def z_X11_strengthOfLot : fMi := (yX11_strengthOfLot, cX11_strengthOfLot, 2, some .int, [])
theorem k_X11_strengthOfLot : fMk z_X11_strengthOfLot 1 := ⟨⟨List.mem_of_getElem? (i := 1126) (by decide +kernel), by decide +kernel⟩, List.mem_of_getElem? (i := 66) (by decide +kernel), ⟨by decide +kernel, by decide +kernel⟩, by decide +kernel, by decide +kernel, by decide +kernel⟩
theorem im_X11_strengthOfLot : Cond.instanceMethod yX11_strengthOfLot ∈ lw_tbl := List.mem_of_getElem? (i := 1124) (by decide +kernel)
theorem se_X11_strengthOfLot : Cond.selects RX11 yX11_strengthOfLot yX11_strengthOfLot ∈ lw_tbl := List.mem_of_getElem? (i := 1125) (by decide +kernel)
def z_L_pressureOf : fMi := (yL_pressureOf, cL_pressureOf, 4, some .int, [(0, 9, 12, 50)])
theorem k_L_pressureOf : fMk z_L_pressureOf 3 := ⟨⟨List.mem_of_getElem? (i := 1130) (by decide +kernel), by decide +kernel⟩, List.mem_of_getElem? (i := 65) (by decide +kernel), ⟨by decide +kernel, by decide +kernel⟩, by decide +kernel, by decide +kernel, by decide +kernel⟩
theorem sm_L_pressureOf : Cond.static yL_pressureOf ∈ lw_tbl := List.mem_of_getElem? (i := 1129) (by decide +kernel)
def z_X11_pressureOf : fMi := (yX11_pressureOf, cX11_pressureOf, 2, some .int, [])
theorem k_X11_pressureOf : fMk z_X11_pressureOf 1 := ⟨⟨List.mem_of_getElem? (i := 1134) (by decide +kernel), by decide +kernel⟩, List.mem_of_getElem? (i := 66) (by decide +kernel), ⟨by decide +kernel, by decide +kernel⟩, by decide +kernel, by decide +kernel, by decide +kernel⟩
theorem im_X11_pressureOf : Cond.instanceMethod yX11_pressureOf ∈ lw_tbl := List.mem_of_getElem? (i := 1132) (by decide +kernel)
theorem se_X11_pressureOf : Cond.selects RX11 yX11_pressureOf yX11_pressureOf ∈ lw_tbl := List.mem_of_getElem? (i := 1133) (by decide +kernel)
def z_L_lotContains : fMi := (yL_lotContains, cL_lotContains, 5, some .int, [(0, 17, 20, 50), (0, 17, 24, 27)])
theorem k_L_lotContains : fMk z_L_lotContains 4 := ⟨⟨List.mem_of_getElem? (i := 1137) (by decide +kernel), by decide +kernel⟩, List.mem_of_getElem? (i := 65) (by decide +kernel), ⟨by decide +kernel, by decide +kernel⟩, by decide +kernel, by decide +kernel, by decide +kernel⟩
theorem sm_L_lotContains : Cond.static yL_lotContains ∈ lw_tbl := List.mem_of_getElem? (i := 1136) (by decide +kernel)
def z_X11_lotContains : fMi := (yX11_lotContains, cX11_lotContains, 4, some .boolean, [])
theorem k_X11_lotContains : fMk z_X11_lotContains 2 := ⟨⟨List.mem_of_getElem? (i := 1141) (by decide +kernel), by decide +kernel⟩, List.mem_of_getElem? (i := 66) (by decide +kernel), ⟨by decide +kernel, by decide +kernel⟩, by decide +kernel, by decide +kernel, by decide +kernel⟩
theorem im_X11_lotContains : Cond.instanceMethod yX11_lotContains ∈ lw_tbl := List.mem_of_getElem? (i := 1139) (by decide +kernel)
theorem se_X11_lotContains : Cond.selects RX11 yX11_lotContains yX11_lotContains ∈ lw_tbl := List.mem_of_getElem? (i := 1140) (by decide +kernel)
def z_L_daysUntilPop : fMi := (yL_daysUntilPop, cL_daysUntilPop, 4, some .int, [(0, 9, 12, 50)])
theorem k_L_daysUntilPop : fMk z_L_daysUntilPop 3 := ⟨⟨List.mem_of_getElem? (i := 1145) (by decide +kernel), by decide +kernel⟩, List.mem_of_getElem? (i := 65) (by decide +kernel), ⟨by decide +kernel, by decide +kernel⟩, by decide +kernel, by decide +kernel, by decide +kernel⟩
theorem sm_L_daysUntilPop : Cond.static yL_daysUntilPop ∈ lw_tbl := List.mem_of_getElem? (i := 1144) (by decide +kernel)
def z_X11_daysUntilPop : fMi := (yX11_daysUntilPop, cX11_daysUntilPop, 2, some .int, [])
theorem k_X11_daysUntilPop : fMk z_X11_daysUntilPop 1 := ⟨⟨List.mem_of_getElem? (i := 1149) (by decide +kernel), by decide +kernel⟩, List.mem_of_getElem? (i := 66) (by decide +kernel), ⟨by decide +kernel, by decide +kernel⟩, by decide +kernel, by decide +kernel, by decide +kernel⟩
theorem im_X11_daysUntilPop : Cond.instanceMethod yX11_daysUntilPop ∈ lw_tbl := List.mem_of_getElem? (i := 1147) (by decide +kernel)
theorem se_X11_daysUntilPop : Cond.selects RX11 yX11_daysUntilPop yX11_daysUntilPop ∈ lw_tbl := List.mem_of_getElem? (i := 1148) (by decide +kernel)
def z_L_daysByDivision : fMi := (yL_daysByDivision, cL_daysByDivision, 4, some .int, [(0, 9, 12, 50)])
theorem k_L_daysByDivision : fMk z_L_daysByDivision 3 := ⟨⟨List.mem_of_getElem? (i := 1152) (by decide +kernel), by decide +kernel⟩, List.mem_of_getElem? (i := 65) (by decide +kernel), ⟨by decide +kernel, by decide +kernel⟩, by decide +kernel, by decide +kernel, by decide +kernel⟩
theorem sm_L_daysByDivision : Cond.static yL_daysByDivision ∈ lw_tbl := List.mem_of_getElem? (i := 1151) (by decide +kernel)
def z_X11_daysByDivision : fMi := (yX11_daysByDivision, cX11_daysByDivision, 2, some .int, [])
theorem k_X11_daysByDivision : fMk z_X11_daysByDivision 1 := ⟨⟨List.mem_of_getElem? (i := 1156) (by decide +kernel), by decide +kernel⟩, List.mem_of_getElem? (i := 66) (by decide +kernel), ⟨by decide +kernel, by decide +kernel⟩, by decide +kernel, by decide +kernel, by decide +kernel⟩
theorem im_X11_daysByDivision : Cond.instanceMethod yX11_daysByDivision ∈ lw_tbl := List.mem_of_getElem? (i := 1154) (by decide +kernel)
theorem se_X11_daysByDivision : Cond.selects RX11 yX11_daysByDivision yX11_daysByDivision ∈ lw_tbl := List.mem_of_getElem? (i := 1155) (by decide +kernel)
def z_L_lotByPressure : fMi := (yL_lotByPressure, cL_lotByPressure, 4, some .int, [(0, 9, 12, 50)])
theorem k_L_lotByPressure : fMk z_L_lotByPressure 3 := ⟨⟨List.mem_of_getElem? (i := 1159) (by decide +kernel), by decide +kernel⟩, List.mem_of_getElem? (i := 65) (by decide +kernel), ⟨by decide +kernel, by decide +kernel⟩, by decide +kernel, by decide +kernel, by decide +kernel⟩
theorem sm_L_lotByPressure : Cond.static yL_lotByPressure ∈ lw_tbl := List.mem_of_getElem? (i := 1158) (by decide +kernel)
def z_X11_lotByPressure : fMi := (yX11_lotByPressure, cX11_lotByPressure, 3, some .int, [])
theorem k_X11_lotByPressure : fMk z_X11_lotByPressure 1 := ⟨⟨List.mem_of_getElem? (i := 1163) (by decide +kernel), by decide +kernel⟩, List.mem_of_getElem? (i := 66) (by decide +kernel), ⟨by decide +kernel, by decide +kernel⟩, by decide +kernel, by decide +kernel, by decide +kernel⟩
theorem im_X11_lotByPressure : Cond.instanceMethod yX11_lotByPressure ∈ lw_tbl := List.mem_of_getElem? (i := 1161) (by decide +kernel)
theorem se_X11_lotByPressure : Cond.selects RX11 yX11_lotByPressure yX11_lotByPressure ∈ lw_tbl := List.mem_of_getElem? (i := 1162) (by decide +kernel)
def z_X5_positionOfRank : fMi := (yX5_positionOfRank, cX5_positionOfRank, 3, some .int, [])
theorem k_X5_positionOfRank : fMk z_X5_positionOfRank 1 := ⟨⟨List.mem_of_getElem? (i := 1167) (by decide +kernel), by decide +kernel⟩, List.mem_of_getElem? (i := 72) (by decide +kernel), ⟨by decide +kernel, by decide +kernel⟩, by decide +kernel, by decide +kernel, by decide +kernel⟩
theorem im_X5_positionOfRank : Cond.instanceMethod yX5_positionOfRank ∈ lw_tbl := List.mem_of_getElem? (i := 1165) (by decide +kernel)
theorem se_X5_positionOfRank : Cond.selects RX5 yX5_positionOfRank yX5_positionOfRank ∈ lw_tbl := List.mem_of_getElem? (i := 1166) (by decide +kernel)
def z_X5_rankOf : fMi := (yX5_rankOf, cX5_rankOf, 6, some .int, [])
theorem k_X5_rankOf : fMk z_X5_rankOf 1 := ⟨⟨List.mem_of_getElem? (i := 1171) (by decide +kernel), by decide +kernel⟩, List.mem_of_getElem? (i := 72) (by decide +kernel), ⟨by decide +kernel, by decide +kernel⟩, by decide +kernel, by decide +kernel, by decide +kernel⟩
theorem im_X5_rankOf : Cond.instanceMethod yX5_rankOf ∈ lw_tbl := List.mem_of_getElem? (i := 1170) (by decide +kernel)
theorem se_X5_rankOf : Cond.selects RX5 yX5_rankOf yX5_rankOf ∈ lw_tbl := List.mem_of_getElem? (i := 20) (by decide +kernel)
def z_L_affectedLots : fMi := (yL_affectedLots, cL_affectedLots, 4, some .int, [(0, 9, 12, 27)])
theorem k_L_affectedLots : fMk z_L_affectedLots 3 := ⟨⟨List.mem_of_getElem? (i := 1175) (by decide +kernel), by decide +kernel⟩, List.mem_of_getElem? (i := 65) (by decide +kernel), ⟨by decide +kernel, by decide +kernel⟩, by decide +kernel, by decide +kernel, by decide +kernel⟩
theorem sm_L_affectedLots : Cond.static yL_affectedLots ∈ lw_tbl := List.mem_of_getElem? (i := 1174) (by decide +kernel)
def z_X11_affectedLots : fMi := (yX11_affectedLots, cX11_affectedLots, 2, some .int, [])
theorem k_X11_affectedLots : fMk z_X11_affectedLots 1 := ⟨⟨List.mem_of_getElem? (i := 1179) (by decide +kernel), by decide +kernel⟩, List.mem_of_getElem? (i := 66) (by decide +kernel), ⟨by decide +kernel, by decide +kernel⟩, by decide +kernel, by decide +kernel, by decide +kernel⟩
theorem im_X11_affectedLots : Cond.instanceMethod yX11_affectedLots ∈ lw_tbl := List.mem_of_getElem? (i := 1177) (by decide +kernel)
theorem se_X11_affectedLots : Cond.selects RX11 yX11_affectedLots yX11_affectedLots ∈ lw_tbl := List.mem_of_getElem? (i := 1178) (by decide +kernel)
def z_L_affectedBySets : fMi := (yL_affectedBySets, cL_affectedBySets, 4, some .int, [(0, 9, 12, 27)])
theorem k_L_affectedBySets : fMk z_L_affectedBySets 3 := ⟨⟨List.mem_of_getElem? (i := 1182) (by decide +kernel), by decide +kernel⟩, List.mem_of_getElem? (i := 65) (by decide +kernel), ⟨by decide +kernel, by decide +kernel⟩, by decide +kernel, by decide +kernel, by decide +kernel⟩
theorem sm_L_affectedBySets : Cond.static yL_affectedBySets ∈ lw_tbl := List.mem_of_getElem? (i := 1181) (by decide +kernel)
def z_X11_affectedBySets : fMi := (yX11_affectedBySets, cX11_affectedBySets, 2, some .int, [])
theorem k_X11_affectedBySets : fMk z_X11_affectedBySets 1 := ⟨⟨List.mem_of_getElem? (i := 1186) (by decide +kernel), by decide +kernel⟩, List.mem_of_getElem? (i := 66) (by decide +kernel), ⟨by decide +kernel, by decide +kernel⟩, by decide +kernel, by decide +kernel, by decide +kernel⟩
theorem im_X11_affectedBySets : Cond.instanceMethod yX11_affectedBySets ∈ lw_tbl := List.mem_of_getElem? (i := 1184) (by decide +kernel)
theorem se_X11_affectedBySets : Cond.selects RX11 yX11_affectedBySets yX11_affectedBySets ∈ lw_tbl := List.mem_of_getElem? (i := 1185) (by decide +kernel)
def z_L_leastCrates : fMi := (yL_leastCrates, cL_leastCrates, 4, some .int, [(0, 9, 12, 19)])
theorem k_L_leastCrates : fMk z_L_leastCrates 3 := ⟨⟨List.mem_of_getElem? (i := 1189) (by decide +kernel), by decide +kernel⟩, List.mem_of_getElem? (i := 65) (by decide +kernel), ⟨by decide +kernel, by decide +kernel⟩, by decide +kernel, by decide +kernel, by decide +kernel⟩
theorem sm_L_leastCrates : Cond.static yL_leastCrates ∈ lw_tbl := List.mem_of_getElem? (i := 1188) (by decide +kernel)
def z_X11_leastCrates : fMi := (yX11_leastCrates, cX11_leastCrates, 2, some .int, [])
theorem k_X11_leastCrates : fMk z_X11_leastCrates 1 := ⟨⟨List.mem_of_getElem? (i := 1193) (by decide +kernel), by decide +kernel⟩, List.mem_of_getElem? (i := 66) (by decide +kernel), ⟨by decide +kernel, by decide +kernel⟩, by decide +kernel, by decide +kernel, by decide +kernel⟩
theorem im_X11_leastCrates : Cond.instanceMethod yX11_leastCrates ∈ lw_tbl := List.mem_of_getElem? (i := 1191) (by decide +kernel)
theorem se_X11_leastCrates : Cond.selects RX11 yX11_leastCrates yX11_leastCrates ∈ lw_tbl := List.mem_of_getElem? (i := 1192) (by decide +kernel)
def z_X11_demandCapacity : fMi := (yX11_demandCapacity, cX11_demandCapacity, 1, none, [])
theorem k_X11_demandCapacity : fMk z_X11_demandCapacity 1 := ⟨⟨List.mem_of_getElem? (i := 1196) (by decide +kernel), by decide +kernel⟩, List.mem_of_getElem? (i := 66) (by decide +kernel), ⟨by decide +kernel, by decide +kernel⟩, by decide +kernel, by decide +kernel, by decide +kernel⟩
theorem sm_X11_demandCapacity : Cond.static yX11_demandCapacity ∈ lw_tbl := List.mem_of_getElem? (i := 1195) (by decide +kernel)
def z_L_leastCratesByTrial : fMi := (yL_leastCratesByTrial, cL_leastCratesByTrial, 4, some .int, [(0, 9, 12, 19)])
theorem k_L_leastCratesByTrial : fMk z_L_leastCratesByTrial 3 := ⟨⟨List.mem_of_getElem? (i := 1200) (by decide +kernel), by decide +kernel⟩, List.mem_of_getElem? (i := 65) (by decide +kernel), ⟨by decide +kernel, by decide +kernel⟩, by decide +kernel, by decide +kernel, by decide +kernel⟩
theorem sm_L_leastCratesByTrial : Cond.static yL_leastCratesByTrial ∈ lw_tbl := List.mem_of_getElem? (i := 1199) (by decide +kernel)
def z_X11_leastCratesByTrial : fMi := (yX11_leastCratesByTrial, cX11_leastCratesByTrial, 2, some .int, [])
theorem k_X11_leastCratesByTrial : fMk z_X11_leastCratesByTrial 1 := ⟨⟨List.mem_of_getElem? (i := 1204) (by decide +kernel), by decide +kernel⟩, List.mem_of_getElem? (i := 66) (by decide +kernel), ⟨by decide +kernel, by decide +kernel⟩, by decide +kernel, by decide +kernel, by decide +kernel⟩
theorem im_X11_leastCratesByTrial : Cond.instanceMethod yX11_leastCratesByTrial ∈ lw_tbl := List.mem_of_getElem? (i := 1202) (by decide +kernel)
theorem se_X11_leastCratesByTrial : Cond.selects RX11 yX11_leastCratesByTrial yX11_leastCratesByTrial ∈ lw_tbl := List.mem_of_getElem? (i := 1203) (by decide +kernel)
def z_L_isTested : fMi := (yL_isTested, cL_isTested, 4, some .int, [(0, 16, 19, 27)])
theorem k_L_isTested : fMk z_L_isTested 3 := ⟨⟨List.mem_of_getElem? (i := 1207) (by decide +kernel), by decide +kernel⟩, List.mem_of_getElem? (i := 65) (by decide +kernel), ⟨by decide +kernel, by decide +kernel⟩, by decide +kernel, by decide +kernel, by decide +kernel⟩
theorem sm_L_isTested : Cond.static yL_isTested ∈ lw_tbl := List.mem_of_getElem? (i := 1206) (by decide +kernel)
def z_X11_isTested : fMi := (yX11_isTested, cX11_isTested, 2, some .boolean, [])
theorem k_X11_isTested : fMk z_X11_isTested 1 := ⟨⟨List.mem_of_getElem? (i := 1211) (by decide +kernel), by decide +kernel⟩, List.mem_of_getElem? (i := 66) (by decide +kernel), ⟨by decide +kernel, by decide +kernel⟩, by decide +kernel, by decide +kernel, by decide +kernel⟩
theorem im_X11_isTested : Cond.instanceMethod yX11_isTested ∈ lw_tbl := List.mem_of_getElem? (i := 1209) (by decide +kernel)
theorem se_X11_isTested : Cond.selects RX11 yX11_isTested yX11_isTested ∈ lw_tbl := List.mem_of_getElem? (i := 1210) (by decide +kernel)
def z_L_meanPressure : fMi := (yL_meanPressure, cL_meanPressure, 3, some .int, [(0, 7, 10, 117)])
theorem k_L_meanPressure : fMk z_L_meanPressure 2 := ⟨⟨List.mem_of_getElem? (i := 1214) (by decide +kernel), by decide +kernel⟩, List.mem_of_getElem? (i := 65) (by decide +kernel), ⟨by decide +kernel, by decide +kernel⟩, by decide +kernel, by decide +kernel, by decide +kernel⟩
theorem sm_L_meanPressure : Cond.static yL_meanPressure ∈ lw_tbl := List.mem_of_getElem? (i := 1213) (by decide +kernel)
def z_X11_meanPressure : fMi := (yX11_meanPressure, cX11_meanPressure, 2, some .double, [])
theorem k_X11_meanPressure : fMk z_X11_meanPressure 0 := ⟨⟨List.mem_of_getElem? (i := 1232) (by decide +kernel), by decide +kernel⟩, List.mem_of_getElem? (i := 66) (by decide +kernel), ⟨by decide +kernel, by decide +kernel⟩, by decide +kernel, by decide +kernel, by decide +kernel⟩
theorem im_X11_meanPressure : Cond.instanceMethod yX11_meanPressure ∈ lw_tbl := List.mem_of_getElem? (i := 1230) (by decide +kernel)
theorem se_X11_meanPressure : Cond.selects RX11 yX11_meanPressure yX11_meanPressure ∈ lw_tbl := List.mem_of_getElem? (i := 1231) (by decide +kernel)
def z_L_shippedShare : fMi := (yL_shippedShare, cL_shippedShare, 3, some .int, [(0, 8, 11, 117)])
theorem k_L_shippedShare : fMk z_L_shippedShare 2 := ⟨⟨List.mem_of_getElem? (i := 1238) (by decide +kernel), by decide +kernel⟩, List.mem_of_getElem? (i := 65) (by decide +kernel), ⟨by decide +kernel, by decide +kernel⟩, by decide +kernel, by decide +kernel, by decide +kernel⟩
theorem sm_L_shippedShare : Cond.static yL_shippedShare ∈ lw_tbl := List.mem_of_getElem? (i := 1237) (by decide +kernel)
def z_X11_shippedShare : fMi := (yX11_shippedShare, cX11_shippedShare, 1, some .float, [])
theorem k_X11_shippedShare : fMk z_X11_shippedShare 0 := ⟨⟨List.mem_of_getElem? (i := 1242) (by decide +kernel), by decide +kernel⟩, List.mem_of_getElem? (i := 66) (by decide +kernel), ⟨by decide +kernel, by decide +kernel⟩, by decide +kernel, by decide +kernel, by decide +kernel⟩
theorem im_X11_shippedShare : Cond.instanceMethod yX11_shippedShare ∈ lw_tbl := List.mem_of_getElem? (i := 1240) (by decide +kernel)
theorem se_X11_shippedShare : Cond.selects RX11 yX11_shippedShare yX11_shippedShare ∈ lw_tbl := List.mem_of_getElem? (i := 1241) (by decide +kernel)
def z_L_writeLot : fMi := (yL_writeLot, cL_writeLot, 4, some .int, [(0, 9, 12, 50)])
theorem k_L_writeLot : fMk z_L_writeLot 3 := ⟨⟨List.mem_of_getElem? (i := 1246) (by decide +kernel), by decide +kernel⟩, List.mem_of_getElem? (i := 65) (by decide +kernel), ⟨by decide +kernel, by decide +kernel⟩, by decide +kernel, by decide +kernel, by decide +kernel⟩
theorem sm_L_writeLot : Cond.static yL_writeLot ∈ lw_tbl := List.mem_of_getElem? (i := 1245) (by decide +kernel)
def z_X11_writeLot : fMi := (yX11_writeLot, cX11_writeLot, 3, some .int, [])
theorem k_X11_writeLot : fMk z_X11_writeLot 1 := ⟨⟨List.mem_of_getElem? (i := 1250) (by decide +kernel), by decide +kernel⟩, List.mem_of_getElem? (i := 66) (by decide +kernel), ⟨by decide +kernel, by decide +kernel⟩, by decide +kernel, by decide +kernel, by decide +kernel⟩
theorem im_X11_writeLot : Cond.instanceMethod yX11_writeLot ∈ lw_tbl := List.mem_of_getElem? (i := 1248) (by decide +kernel)
theorem se_X11_writeLot : Cond.selects RX11 yX11_writeLot yX11_writeLot ∈ lw_tbl := List.mem_of_getElem? (i := 1249) (by decide +kernel)
def z_X10_addNumber : fMi := (yX10_addNumber, cX10_addNumber, 5, none, [])
theorem k_X10_addNumber : fMk z_X10_addNumber 1 := ⟨⟨List.mem_of_getElem? (i := 1254) (by decide +kernel), by decide +kernel⟩, List.mem_of_getElem? (i := 74) (by decide +kernel), ⟨by decide +kernel, by decide +kernel⟩, by decide +kernel, by decide +kernel, by decide +kernel⟩
theorem im_X10_addNumber : Cond.instanceMethod yX10_addNumber ∈ lw_tbl := List.mem_of_getElem? (i := 1252) (by decide +kernel)
theorem se_X10_addNumber : Cond.selects RX10 yX10_addNumber yX10_addNumber ∈ lw_tbl := List.mem_of_getElem? (i := 1253) (by decide +kernel)
def z_L_lineAt : fMi := (yL_lineAt, cL_lineAt, 4, some .int, [(0, 9, 12, 27)])
theorem k_L_lineAt : fMk z_L_lineAt 3 := ⟨⟨List.mem_of_getElem? (i := 1259) (by decide +kernel), by decide +kernel⟩, List.mem_of_getElem? (i := 65) (by decide +kernel), ⟨by decide +kernel, by decide +kernel⟩, by decide +kernel, by decide +kernel, by decide +kernel⟩
theorem sm_L_lineAt : Cond.static yL_lineAt ∈ lw_tbl := List.mem_of_getElem? (i := 1258) (by decide +kernel)
def z_X11_lineAt : fMi := (yX11_lineAt, cX11_lineAt, 2, some .char, [])
theorem k_X11_lineAt : fMk z_X11_lineAt 1 := ⟨⟨List.mem_of_getElem? (i := 1263) (by decide +kernel), by decide +kernel⟩, List.mem_of_getElem? (i := 66) (by decide +kernel), ⟨by decide +kernel, by decide +kernel⟩, by decide +kernel, by decide +kernel, by decide +kernel⟩
theorem im_X11_lineAt : Cond.instanceMethod yX11_lineAt ∈ lw_tbl := List.mem_of_getElem? (i := 1261) (by decide +kernel)
theorem se_X11_lineAt : Cond.selects RX11 yX11_lineAt yX11_lineAt ∈ lw_tbl := List.mem_of_getElem? (i := 1262) (by decide +kernel)
def z_L_type : fMi := (yL_type, cL_type, 4, some .int, [(0, 9, 12, 19), (0, 9, 15, 13)])
theorem k_L_type : fMk z_L_type 3 := ⟨⟨List.mem_of_getElem? (i := 1268) (by decide +kernel), by decide +kernel⟩, List.mem_of_getElem? (i := 65) (by decide +kernel), ⟨by decide +kernel, by decide +kernel⟩, by decide +kernel, by decide +kernel, by decide +kernel⟩
theorem sm_L_type : Cond.static yL_type ∈ lw_tbl := List.mem_of_getElem? (i := 1267) (by decide +kernel)
def z_X11_type : fMi := (yX11_type, cX11_type, 2, some .int, [])
theorem k_X11_type : fMk z_X11_type 1 := ⟨⟨List.mem_of_getElem? (i := 1272) (by decide +kernel), by decide +kernel⟩, List.mem_of_getElem? (i := 66) (by decide +kernel), ⟨by decide +kernel, by decide +kernel⟩, by decide +kernel, by decide +kernel, by decide +kernel⟩
theorem im_X11_type : Cond.instanceMethod yX11_type ∈ lw_tbl := List.mem_of_getElem? (i := 1270) (by decide +kernel)
theorem se_X11_type : Cond.selects RX11 yX11_type yX11_type ∈ lw_tbl := List.mem_of_getElem? (i := 1271) (by decide +kernel)
def z_L_execute : fMi := (yL_execute, cL_execute, 3, some .int, [(0, 8, 11, 19), (0, 8, 14, 13)])
theorem k_L_execute : fMk z_L_execute 2 := ⟨⟨List.mem_of_getElem? (i := 1277) (by decide +kernel), by decide +kernel⟩, List.mem_of_getElem? (i := 65) (by decide +kernel), ⟨by decide +kernel, by decide +kernel⟩, by decide +kernel, by decide +kernel, by decide +kernel⟩
theorem sm_L_execute : Cond.static yL_execute ∈ lw_tbl := List.mem_of_getElem? (i := 1276) (by decide +kernel)
def z_X11_execute : fMi := (yX11_execute, cX11_execute, 3, some .int, [])
theorem k_X11_execute : fMk z_X11_execute 0 := ⟨⟨List.mem_of_getElem? (i := 1281) (by decide +kernel), by decide +kernel⟩, List.mem_of_getElem? (i := 66) (by decide +kernel), ⟨by decide +kernel, by decide +kernel⟩, by decide +kernel, by decide +kernel, by decide +kernel⟩
theorem im_X11_execute : Cond.instanceMethod yX11_execute ∈ lw_tbl := List.mem_of_getElem? (i := 1279) (by decide +kernel)
theorem se_X11_execute : Cond.selects RX11 yX11_execute yX11_execute ∈ lw_tbl := List.mem_of_getElem? (i := 1280) (by decide +kernel)
def z_X1_read : fMi := (yX1_read, cX1_read, 3, some .boolean, [])
theorem k_X1_read : fMk z_X1_read 1 := ⟨⟨List.mem_of_getElem? (i := 1285) (by decide +kernel), by decide +kernel⟩, List.mem_of_getElem? (i := 75) (by decide +kernel), ⟨by decide +kernel, by decide +kernel⟩, by decide +kernel, by decide +kernel, by decide +kernel⟩
theorem im_X1_read : Cond.instanceMethod yX1_read ∈ lw_tbl := List.mem_of_getElem? (i := 1283) (by decide +kernel)
theorem se_X1_read : Cond.selects RX1 yX1_read yX1_read ∈ lw_tbl := List.mem_of_getElem? (i := 1284) (by decide +kernel)
def z_X10_copyFrom : fMi := (yX10_copyFrom, cX10_copyFrom, 2, none, [])
theorem k_X10_copyFrom : fMk z_X10_copyFrom 1 := ⟨⟨List.mem_of_getElem? (i := 1289) (by decide +kernel), by decide +kernel⟩, List.mem_of_getElem? (i := 74) (by decide +kernel), ⟨by decide +kernel, by decide +kernel⟩, by decide +kernel, by decide +kernel, by decide +kernel⟩
theorem im_X10_copyFrom : Cond.instanceMethod yX10_copyFrom ∈ lw_tbl := List.mem_of_getElem? (i := 1287) (by decide +kernel)
theorem se_X10_copyFrom : Cond.selects RX10 yX10_copyFrom yX10_copyFrom ∈ lw_tbl := List.mem_of_getElem? (i := 1288) (by decide +kernel)
def z_X1_readCommand : fMi := (yX1_readCommand, cX1_readCommand, 2, some .boolean, [])
theorem k_X1_readCommand : fMk z_X1_readCommand 0 := ⟨⟨List.mem_of_getElem? (i := 1295) (by decide +kernel), by decide +kernel⟩, List.mem_of_getElem? (i := 75) (by decide +kernel), ⟨by decide +kernel, by decide +kernel⟩, by decide +kernel, by decide +kernel, by decide +kernel⟩
theorem im_X1_readCommand : Cond.instanceMethod yX1_readCommand ∈ lw_tbl := List.mem_of_getElem? (i := 1294) (by decide +kernel)
theorem se_X1_readCommand : Cond.selects RX1 yX1_readCommand yX1_readCommand ∈ lw_tbl := List.mem_of_getElem? (i := 21) (by decide +kernel)
def z_X1_readKind : fMi := (yX1_readKind, cX1_readKind, 5, some .int, [])
theorem k_X1_readKind : fMk z_X1_readKind 0 := ⟨⟨List.mem_of_getElem? (i := 1299) (by decide +kernel), by decide +kernel⟩, List.mem_of_getElem? (i := 75) (by decide +kernel), ⟨by decide +kernel, by decide +kernel⟩, by decide +kernel, by decide +kernel, by decide +kernel⟩
theorem im_X1_readKind : Cond.instanceMethod yX1_readKind ∈ lw_tbl := List.mem_of_getElem? (i := 1298) (by decide +kernel)
theorem se_X1_readKind : Cond.selects RX1 yX1_readKind yX1_readKind ∈ lw_tbl := List.mem_of_getElem? (i := 22) (by decide +kernel)
def z_X1_nameOf : fMi := (yX1_nameOf, cX1_nameOf, 1, some (.object "java/lang/String"), [])
theorem k_X1_nameOf : fMk z_X1_nameOf 1 := ⟨⟨List.mem_of_getElem? (i := 1302) (by decide +kernel), by decide +kernel⟩, List.mem_of_getElem? (i := 75) (by decide +kernel), ⟨by decide +kernel, by decide +kernel⟩, by decide +kernel, by decide +kernel, by decide +kernel⟩
theorem sm_X1_nameOf : Cond.static yX1_nameOf ∈ lw_tbl := List.mem_of_getElem? (i := 1301) (by decide +kernel)
def z_X1_sameLetters : fMi := (yX1_sameLetters, cX1_sameLetters, 3, some .int, [])
theorem k_X1_sameLetters : fMk z_X1_sameLetters 1 := ⟨⟨List.mem_of_getElem? (i := 1312) (by decide +kernel), by decide +kernel⟩, List.mem_of_getElem? (i := 75) (by decide +kernel), ⟨by decide +kernel, by decide +kernel⟩, by decide +kernel, by decide +kernel, by decide +kernel⟩
theorem im_X1_sameLetters : Cond.instanceMethod yX1_sameLetters ∈ lw_tbl := List.mem_of_getElem? (i := 1311) (by decide +kernel)
theorem se_X1_sameLetters : Cond.selects RX1 yX1_sameLetters yX1_sameLetters ∈ lw_tbl := List.mem_of_getElem? (i := 23) (by decide +kernel)
def z_X1_readNumber : fMi := (yX1_readNumber, cX1_readNumber, 2, some .boolean, [])
theorem k_X1_readNumber : fMk z_X1_readNumber 1 := ⟨⟨List.mem_of_getElem? (i := 1367) (by decide +kernel), by decide +kernel⟩, List.mem_of_getElem? (i := 75) (by decide +kernel), ⟨by decide +kernel, by decide +kernel⟩, by decide +kernel, by decide +kernel, by decide +kernel⟩
theorem im_X1_readNumber : Cond.instanceMethod yX1_readNumber ∈ lw_tbl := List.mem_of_getElem? (i := 1366) (by decide +kernel)
theorem se_X1_readNumber : Cond.selects RX1 yX1_readNumber yX1_readNumber ∈ lw_tbl := List.mem_of_getElem? (i := 24) (by decide +kernel)
def z_X1_readDigit : fMi := (yX1_readDigit, cX1_readDigit, 2, some .boolean, [])
theorem k_X1_readDigit : fMk z_X1_readDigit 1 := ⟨⟨List.mem_of_getElem? (i := 1371) (by decide +kernel), by decide +kernel⟩, List.mem_of_getElem? (i := 75) (by decide +kernel), ⟨by decide +kernel, by decide +kernel⟩, by decide +kernel, by decide +kernel, by decide +kernel⟩
theorem im_X1_readDigit : Cond.instanceMethod yX1_readDigit ∈ lw_tbl := List.mem_of_getElem? (i := 1370) (by decide +kernel)
theorem se_X1_readDigit : Cond.selects RX1 yX1_readDigit yX1_readDigit ∈ lw_tbl := List.mem_of_getElem? (i := 25) (by decide +kernel)
def z_X1_isDigit : fMi := (yX1_isDigit, cX1_isDigit, 1, some .boolean, [])
theorem k_X1_isDigit : fMk z_X1_isDigit 1 := ⟨⟨List.mem_of_getElem? (i := 1374) (by decide +kernel), by decide +kernel⟩, List.mem_of_getElem? (i := 75) (by decide +kernel), ⟨by decide +kernel, by decide +kernel⟩, by decide +kernel, by decide +kernel, by decide +kernel⟩
theorem sm_X1_isDigit : Cond.static yX1_isDigit ∈ lw_tbl := List.mem_of_getElem? (i := 1373) (by decide +kernel)
def z_X1_keepArgument : fMi := (yX1_keepArgument, cX1_keepArgument, 3, none, [])
