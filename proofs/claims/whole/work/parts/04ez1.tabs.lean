theorem k_X1_keepArgument : fMk z_X1_keepArgument 2 := ⟨⟨List.mem_of_getElem? (i := 1378) (by decide +kernel), by decide +kernel⟩, List.mem_of_getElem? (i := 75) (by decide +kernel), ⟨by decide +kernel, by decide +kernel⟩, by decide +kernel, by decide +kernel, by decide +kernel⟩
theorem im_X1_keepArgument : Cond.instanceMethod yX1_keepArgument ∈ lw_tbl := List.mem_of_getElem? (i := 1377) (by decide +kernel)
theorem se_X1_keepArgument : Cond.selects RX1 yX1_keepArgument yX1_keepArgument ∈ lw_tbl := List.mem_of_getElem? (i := 26) (by decide +kernel)
def z_X1_argument : fMi := (yX1_argument, cX1_argument, 3, some .int, [])
theorem k_X1_argument : fMk z_X1_argument 2 := ⟨⟨List.mem_of_getElem? (i := 1382) (by decide +kernel), by decide +kernel⟩, List.mem_of_getElem? (i := 75) (by decide +kernel), ⟨by decide +kernel, by decide +kernel⟩, by decide +kernel, by decide +kernel, by decide +kernel⟩
theorem im_X1_argument : Cond.instanceMethod yX1_argument ∈ lw_tbl := List.mem_of_getElem? (i := 1380) (by decide +kernel)
theorem se_X1_argument : Cond.selects RX1 yX1_argument yX1_argument ∈ lw_tbl := List.mem_of_getElem? (i := 1381) (by decide +kernel)
def z_X1_readDays : fMi := (yX1_readDays, cX1_readDays, 1, some .boolean, [])
theorem k_X1_readDays : fMk z_X1_readDays 0 := ⟨⟨List.mem_of_getElem? (i := 1387) (by decide +kernel), by decide +kernel⟩, List.mem_of_getElem? (i := 75) (by decide +kernel), ⟨by decide +kernel, by decide +kernel⟩, by decide +kernel, by decide +kernel, by decide +kernel⟩
theorem im_X1_readDays : Cond.instanceMethod yX1_readDays ∈ lw_tbl := List.mem_of_getElem? (i := 1386) (by decide +kernel)
theorem se_X1_readDays : Cond.selects RX1 yX1_readDays yX1_readDays ∈ lw_tbl := List.mem_of_getElem? (i := 27) (by decide +kernel)
def z_X11_performAll : fMi := (yX11_performAll, cX11_performAll, 2, some .int, [])
theorem k_X11_performAll : fMk z_X11_performAll 0 := ⟨⟨List.mem_of_getElem? (i := 1392) (by decide +kernel), by decide +kernel⟩, List.mem_of_getElem? (i := 66) (by decide +kernel), ⟨by decide +kernel, by decide +kernel⟩, by decide +kernel, by decide +kernel, by decide +kernel⟩
theorem im_X11_performAll : Cond.instanceMethod yX11_performAll ∈ lw_tbl := List.mem_of_getElem? (i := 1391) (by decide +kernel)
theorem se_X11_performAll : Cond.selects RX11 yX11_performAll yX11_performAll ∈ lw_tbl := List.mem_of_getElem? (i := 28) (by decide +kernel)
def z_X11_refusalOf : fMi := (yX11_refusalOf, cX11_refusalOf, 4, some .int, [])
theorem k_X11_refusalOf : fMk z_X11_refusalOf 1 := ⟨⟨List.mem_of_getElem? (i := 1396) (by decide +kernel), by decide +kernel⟩, List.mem_of_getElem? (i := 66) (by decide +kernel), ⟨by decide +kernel, by decide +kernel⟩, by decide +kernel, by decide +kernel, by decide +kernel⟩
theorem im_X11_refusalOf : Cond.instanceMethod yX11_refusalOf ∈ lw_tbl := List.mem_of_getElem? (i := 1395) (by decide +kernel)
theorem se_X11_refusalOf : Cond.selects RX11 yX11_refusalOf yX11_refusalOf ∈ lw_tbl := List.mem_of_getElem? (i := 29) (by decide +kernel)
def z_X11_perform : fMi := (yX11_perform, cX11_perform, 4, none, [])
theorem k_X11_perform : fMk z_X11_perform 1 := ⟨⟨List.mem_of_getElem? (i := 1401) (by decide +kernel), by decide +kernel⟩, List.mem_of_getElem? (i := 66) (by decide +kernel), ⟨by decide +kernel, by decide +kernel⟩, by decide +kernel, by decide +kernel, by decide +kernel⟩
theorem im_X11_perform : Cond.instanceMethod yX11_perform ∈ lw_tbl := List.mem_of_getElem? (i := 1400) (by decide +kernel)
theorem se_X11_perform : Cond.selects RX11 yX11_perform yX11_perform ∈ lw_tbl := List.mem_of_getElem? (i := 30) (by decide +kernel)
def z_L_errorPosition : fMi := (yL_errorPosition, cL_errorPosition, 3, some .int, [(0, 8, 11, 50)])
theorem k_L_errorPosition : fMk z_L_errorPosition 2 := ⟨⟨List.mem_of_getElem? (i := 1405) (by decide +kernel), by decide +kernel⟩, List.mem_of_getElem? (i := 65) (by decide +kernel), ⟨by decide +kernel, by decide +kernel⟩, by decide +kernel, by decide +kernel, by decide +kernel⟩
theorem sm_L_errorPosition : Cond.static yL_errorPosition ∈ lw_tbl := List.mem_of_getElem? (i := 1404) (by decide +kernel)
def z_X11_errorPosition : fMi := (yX11_errorPosition, cX11_errorPosition, 1, some .int, [])
theorem k_X11_errorPosition : fMk z_X11_errorPosition 0 := ⟨⟨List.mem_of_getElem? (i := 1409) (by decide +kernel), by decide +kernel⟩, List.mem_of_getElem? (i := 66) (by decide +kernel), ⟨by decide +kernel, by decide +kernel⟩, by decide +kernel, by decide +kernel, by decide +kernel⟩
theorem im_X11_errorPosition : Cond.instanceMethod yX11_errorPosition ∈ lw_tbl := List.mem_of_getElem? (i := 1407) (by decide +kernel)
theorem se_X11_errorPosition : Cond.selects RX11 yX11_errorPosition yX11_errorPosition ∈ lw_tbl := List.mem_of_getElem? (i := 1408) (by decide +kernel)
def z_L_failedCommand : fMi := (yL_failedCommand, cL_failedCommand, 3, some .int, [(0, 8, 11, 50)])
theorem k_L_failedCommand : fMk z_L_failedCommand 2 := ⟨⟨List.mem_of_getElem? (i := 1413) (by decide +kernel), by decide +kernel⟩, List.mem_of_getElem? (i := 65) (by decide +kernel), ⟨by decide +kernel, by decide +kernel⟩, by decide +kernel, by decide +kernel, by decide +kernel⟩
theorem sm_L_failedCommand : Cond.static yL_failedCommand ∈ lw_tbl := List.mem_of_getElem? (i := 1412) (by decide +kernel)
def z_X11_failedCommand : fMi := (yX11_failedCommand, cX11_failedCommand, 1, some .int, [])
theorem k_X11_failedCommand : fMk z_X11_failedCommand 0 := ⟨⟨List.mem_of_getElem? (i := 1417) (by decide +kernel), by decide +kernel⟩, List.mem_of_getElem? (i := 66) (by decide +kernel), ⟨by decide +kernel, by decide +kernel⟩, by decide +kernel, by decide +kernel, by decide +kernel⟩
theorem im_X11_failedCommand : Cond.instanceMethod yX11_failedCommand ∈ lw_tbl := List.mem_of_getElem? (i := 1415) (by decide +kernel)
theorem se_X11_failedCommand : Cond.selects RX11 yX11_failedCommand yX11_failedCommand ∈ lw_tbl := List.mem_of_getElem? (i := 1416) (by decide +kernel)
def z_L_undo : fMi := (yL_undo, cL_undo, 3, some .int, [(0, 8, 11, 13)])
theorem k_L_undo : fMk z_L_undo 2 := ⟨⟨List.mem_of_getElem? (i := 1421) (by decide +kernel), by decide +kernel⟩, List.mem_of_getElem? (i := 65) (by decide +kernel), ⟨by decide +kernel, by decide +kernel⟩, by decide +kernel, by decide +kernel, by decide +kernel⟩
theorem sm_L_undo : Cond.static yL_undo ∈ lw_tbl := List.mem_of_getElem? (i := 1420) (by decide +kernel)
def z_X11_undo : fMi := (yX11_undo, cX11_undo, 1, some .int, [])
theorem k_X11_undo : fMk z_X11_undo 0 := ⟨⟨List.mem_of_getElem? (i := 1425) (by decide +kernel), by decide +kernel⟩, List.mem_of_getElem? (i := 66) (by decide +kernel), ⟨by decide +kernel, by decide +kernel⟩, by decide +kernel, by decide +kernel, by decide +kernel⟩
theorem im_X11_undo : Cond.instanceMethod yX11_undo ∈ lw_tbl := List.mem_of_getElem? (i := 1423) (by decide +kernel)
theorem se_X11_undo : Cond.selects RX11 yX11_undo yX11_undo ∈ lw_tbl := List.mem_of_getElem? (i := 1424) (by decide +kernel)
def z_X4_takeBack : fMi := (yX4_takeBack, cX4_takeBack, 4, none, [])
theorem k_X4_takeBack : fMk z_X4_takeBack 1 := ⟨⟨List.mem_of_getElem? (i := 1430) (by decide +kernel), by decide +kernel⟩, List.mem_of_getElem? (i := 73) (by decide +kernel), ⟨by decide +kernel, by decide +kernel⟩, by decide +kernel, by decide +kernel, by decide +kernel⟩
theorem im_X4_takeBack : Cond.instanceMethod yX4_takeBack ∈ lw_tbl := List.mem_of_getElem? (i := 1428) (by decide +kernel)
theorem se_X4_takeBack : Cond.selects RX4 yX4_takeBack yX4_takeBack ∈ lw_tbl := List.mem_of_getElem? (i := 1429) (by decide +kernel)
def z_L_restore : fMi := (yL_restore, cL_restore, 3, some .int, [(0, 8, 11, 13)])
theorem k_L_restore : fMk z_L_restore 2 := ⟨⟨List.mem_of_getElem? (i := 1433) (by decide +kernel), by decide +kernel⟩, List.mem_of_getElem? (i := 65) (by decide +kernel), ⟨by decide +kernel, by decide +kernel⟩, by decide +kernel, by decide +kernel, by decide +kernel⟩
theorem sm_L_restore : Cond.static yL_restore ∈ lw_tbl := List.mem_of_getElem? (i := 1432) (by decide +kernel)
def z_X11_restore : fMi := (yX11_restore, cX11_restore, 1, some .int, [])
theorem k_X11_restore : fMk z_X11_restore 0 := ⟨⟨List.mem_of_getElem? (i := 1437) (by decide +kernel), by decide +kernel⟩, List.mem_of_getElem? (i := 66) (by decide +kernel), ⟨by decide +kernel, by decide +kernel⟩, by decide +kernel, by decide +kernel, by decide +kernel⟩
theorem im_X11_restore : Cond.instanceMethod yX11_restore ∈ lw_tbl := List.mem_of_getElem? (i := 1435) (by decide +kernel)
theorem se_X11_restore : Cond.selects RX11 yX11_restore yX11_restore ∈ lw_tbl := List.mem_of_getElem? (i := 1436) (by decide +kernel)
def z_X4_forget : fMi := (yX4_forget, cX4_forget, 1, none, [])
theorem k_X4_forget : fMk z_X4_forget 0 := ⟨⟨List.mem_of_getElem? (i := 1442) (by decide +kernel), by decide +kernel⟩, List.mem_of_getElem? (i := 73) (by decide +kernel), ⟨by decide +kernel, by decide +kernel⟩, by decide +kernel, by decide +kernel, by decide +kernel⟩
theorem im_X4_forget : Cond.instanceMethod yX4_forget ∈ lw_tbl := List.mem_of_getElem? (i := 1440) (by decide +kernel)
theorem se_X4_forget : Cond.selects RX4 yX4_forget yX4_forget ∈ lw_tbl := List.mem_of_getElem? (i := 1441) (by decide +kernel)
def z_X12_init : fMi := (yX12_init, cX12_init, 1, none, [])
theorem k_X12_init : fMk z_X12_init 0 := ⟨⟨List.mem_of_getElem? (i := 1447) (by decide +kernel), by decide +kernel⟩, List.mem_of_getElem? (i := 78) (by decide +kernel), ⟨by decide +kernel, by decide +kernel⟩, by decide +kernel, by decide +kernel, by decide +kernel⟩
theorem im_X12_init : Cond.instanceMethod yX12_init ∈ lw_tbl := List.mem_of_getElem? (i := 1446) (by decide +kernel)
def z_X12_thrown : fMi := (yX12_thrown, cX12_thrown, 1, some .int, [])
theorem k_X12_thrown : fMk z_X12_thrown 0 := ⟨⟨List.mem_of_getElem? (i := 1511) (by decide +kernel), by decide +kernel⟩, List.mem_of_getElem? (i := 78) (by decide +kernel), ⟨by decide +kernel, by decide +kernel⟩, by decide +kernel, by decide +kernel, by decide +kernel⟩
theorem im_X12_thrown : Cond.instanceMethod yX12_thrown ∈ lw_tbl := List.mem_of_getElem? (i := 1509) (by decide +kernel)
theorem se_X12_thrown : Cond.selects RX12 yX12_thrown yX12_thrown ∈ lw_tbl := List.mem_of_getElem? (i := 1510) (by decide +kernel)
def z_X12_addRaw : fMi := (yX12_addRaw, cX12_addRaw, 1, some .int, [])
theorem k_X12_addRaw : fMk z_X12_addRaw 0 := ⟨⟨List.mem_of_getElem? (i := 1515) (by decide +kernel), by decide +kernel⟩, List.mem_of_getElem? (i := 78) (by decide +kernel), ⟨by decide +kernel, by decide +kernel⟩, by decide +kernel, by decide +kernel, by decide +kernel⟩
theorem im_X12_addRaw : Cond.instanceMethod yX12_addRaw ∈ lw_tbl := List.mem_of_getElem? (i := 1513) (by decide +kernel)
theorem se_X12_addRaw : Cond.selects RX12 yX12_addRaw yX12_addRaw ∈ lw_tbl := List.mem_of_getElem? (i := 1514) (by decide +kernel)
def z_X12_fails : fMi := (yX12_fails, cX12_fails, 2, some .boolean, [])
theorem k_X12_fails : fMk z_X12_fails 1 := ⟨⟨List.mem_of_getElem? (i := 1519) (by decide +kernel), by decide +kernel⟩, List.mem_of_getElem? (i := 78) (by decide +kernel), ⟨by decide +kernel, by decide +kernel⟩, by decide +kernel, by decide +kernel, by decide +kernel⟩
theorem im_X12_fails : Cond.instanceMethod yX12_fails ∈ lw_tbl := List.mem_of_getElem? (i := 1518) (by decide +kernel)
theorem se_X12_fails : Cond.selects RX12 yX12_fails yX12_fails ∈ lw_tbl := List.mem_of_getElem? (i := 31) (by decide +kernel)
def z_X12_keeps : fMi := (yX12_keeps, cX12_keeps, 3, none, [])
theorem k_X12_keeps : fMk z_X12_keeps 1 := ⟨⟨List.mem_of_getElem? (i := 1523) (by decide +kernel), by decide +kernel⟩, List.mem_of_getElem? (i := 78) (by decide +kernel), ⟨by decide +kernel, by decide +kernel⟩, by decide +kernel, by decide +kernel, by decide +kernel⟩
theorem im_X12_keeps : Cond.instanceMethod yX12_keeps ∈ lw_tbl := List.mem_of_getElem? (i := 1522) (by decide +kernel)
theorem se_X12_keeps : Cond.selects RX12 yX12_keeps yX12_keeps ∈ lw_tbl := List.mem_of_getElem? (i := 32) (by decide +kernel)
def z_X12_copies : fMi := (yX12_copies, cX12_copies, 5, none, [])
theorem k_X12_copies : fMk z_X12_copies 4 := ⟨⟨List.mem_of_getElem? (i := 1526) (by decide +kernel), by decide +kernel⟩, List.mem_of_getElem? (i := 78) (by decide +kernel), ⟨by decide +kernel, by decide +kernel⟩, by decide +kernel, by decide +kernel, by decide +kernel⟩
theorem sm_X12_copies : Cond.static yX12_copies ∈ lw_tbl := List.mem_of_getElem? (i := 1525) (by decide +kernel)
def z_X12_mix : fMi := (yX12_mix, cX12_mix, 3, some .int, [])
theorem k_X12_mix : fMk z_X12_mix 2 := ⟨⟨List.mem_of_getElem? (i := 1530) (by decide +kernel), by decide +kernel⟩, List.mem_of_getElem? (i := 78) (by decide +kernel), ⟨by decide +kernel, by decide +kernel⟩, by decide +kernel, by decide +kernel, by decide +kernel⟩
theorem im_X12_mix : Cond.instanceMethod yX12_mix ∈ lw_tbl := List.mem_of_getElem? (i := 1528) (by decide +kernel)
theorem se_X12_mix : Cond.selects RX12 yX12_mix yX12_mix ∈ lw_tbl := List.mem_of_getElem? (i := 1529) (by decide +kernel)
def z_X12_in : fMi := (yX12_in, cX12_in, 3, some .boolean, [])
theorem k_X12_in : fMk z_X12_in 3 := ⟨⟨List.mem_of_getElem? (i := 1533) (by decide +kernel), by decide +kernel⟩, List.mem_of_getElem? (i := 78) (by decide +kernel), ⟨by decide +kernel, by decide +kernel⟩, by decide +kernel, by decide +kernel, by decide +kernel⟩
theorem sm_X12_in : Cond.static yX12_in ∈ lw_tbl := List.mem_of_getElem? (i := 1532) (by decide +kernel)
def z_X12_rawCount : fMi := (yX12_rawCount, cX12_rawCount, 1, some .int, [])
theorem k_X12_rawCount : fMk z_X12_rawCount 0 := ⟨⟨List.mem_of_getElem? (i := 1537) (by decide +kernel), by decide +kernel⟩, List.mem_of_getElem? (i := 78) (by decide +kernel), ⟨by decide +kernel, by decide +kernel⟩, by decide +kernel, by decide +kernel, by decide +kernel⟩
theorem im_X12_rawCount : Cond.instanceMethod yX12_rawCount ∈ lw_tbl := List.mem_of_getElem? (i := 1535) (by decide +kernel)
theorem se_X12_rawCount : Cond.selects RX12 yX12_rawCount yX12_rawCount ∈ lw_tbl := List.mem_of_getElem? (i := 1536) (by decide +kernel)
def z_X12_batchCount : fMi := (yX12_batchCount, cX12_batchCount, 1, some .int, [])
theorem k_X12_batchCount : fMk z_X12_batchCount 0 := ⟨⟨List.mem_of_getElem? (i := 1541) (by decide +kernel), by decide +kernel⟩, List.mem_of_getElem? (i := 78) (by decide +kernel), ⟨by decide +kernel, by decide +kernel⟩, by decide +kernel, by decide +kernel, by decide +kernel⟩
theorem im_X12_batchCount : Cond.instanceMethod yX12_batchCount ∈ lw_tbl := List.mem_of_getElem? (i := 1539) (by decide +kernel)
theorem se_X12_batchCount : Cond.selects RX12 yX12_batchCount yX12_batchCount ∈ lw_tbl := List.mem_of_getElem? (i := 1540) (by decide +kernel)
def z_X12_isFaulty : fMi := (yX12_isFaulty, cX12_isFaulty, 2, some .boolean, [])
theorem k_X12_isFaulty : fMk z_X12_isFaulty 1 := ⟨⟨List.mem_of_getElem? (i := 1545) (by decide +kernel), by decide +kernel⟩, List.mem_of_getElem? (i := 78) (by decide +kernel), ⟨by decide +kernel, by decide +kernel⟩, by decide +kernel, by decide +kernel, by decide +kernel⟩
theorem im_X12_isFaulty : Cond.instanceMethod yX12_isFaulty ∈ lw_tbl := List.mem_of_getElem? (i := 1543) (by decide +kernel)
theorem se_X12_isFaulty : Cond.selects RX12 yX12_isFaulty yX12_isFaulty ∈ lw_tbl := List.mem_of_getElem? (i := 1544) (by decide +kernel)
def z_X12_isRaw : fMi := (yX12_isRaw, cX12_isRaw, 2, some .boolean, [])
theorem k_X12_isRaw : fMk z_X12_isRaw 1 := ⟨⟨List.mem_of_getElem? (i := 1549) (by decide +kernel), by decide +kernel⟩, List.mem_of_getElem? (i := 78) (by decide +kernel), ⟨by decide +kernel, by decide +kernel⟩, by decide +kernel, by decide +kernel, by decide +kernel⟩
theorem im_X12_isRaw : Cond.instanceMethod yX12_isRaw ∈ lw_tbl := List.mem_of_getElem? (i := 1548) (by decide +kernel)
theorem se_X12_isRaw : Cond.selects RX12 yX12_isRaw yX12_isRaw ∈ lw_tbl := List.mem_of_getElem? (i := 33) (by decide +kernel)
def z_X12_strengthOf : fMi := (yX12_strengthOf, cX12_strengthOf, 2, some .int, [])
theorem k_X12_strengthOf : fMk z_X12_strengthOf 1 := ⟨⟨List.mem_of_getElem? (i := 1553) (by decide +kernel), by decide +kernel⟩, List.mem_of_getElem? (i := 78) (by decide +kernel), ⟨by decide +kernel, by decide +kernel⟩, by decide +kernel, by decide +kernel, by decide +kernel⟩
theorem im_X12_strengthOf : Cond.instanceMethod yX12_strengthOf ∈ lw_tbl := List.mem_of_getElem? (i := 1551) (by decide +kernel)
theorem se_X12_strengthOf : Cond.selects RX12 yX12_strengthOf yX12_strengthOf ∈ lw_tbl := List.mem_of_getElem? (i := 1552) (by decide +kernel)
def z_X12_isBatch : fMi := (yX12_isBatch, cX12_isBatch, 2, some .boolean, [])
theorem k_X12_isBatch : fMk z_X12_isBatch 1 := ⟨⟨List.mem_of_getElem? (i := 1557) (by decide +kernel), by decide +kernel⟩, List.mem_of_getElem? (i := 78) (by decide +kernel), ⟨by decide +kernel, by decide +kernel⟩, by decide +kernel, by decide +kernel, by decide +kernel⟩
theorem im_X12_isBatch : Cond.instanceMethod yX12_isBatch ∈ lw_tbl := List.mem_of_getElem? (i := 1556) (by decide +kernel)
theorem se_X12_isBatch : Cond.selects RX12 yX12_isBatch yX12_isBatch ∈ lw_tbl := List.mem_of_getElem? (i := 34) (by decide +kernel)
def z_X12_of : fMi := (yX12_of, cX12_of, 3, some .int, [])
theorem k_X12_of : fMk z_X12_of 2 := ⟨⟨List.mem_of_getElem? (i := 1561) (by decide +kernel), by decide +kernel⟩, List.mem_of_getElem? (i := 78) (by decide +kernel), ⟨by decide +kernel, by decide +kernel⟩, by decide +kernel, by decide +kernel, by decide +kernel⟩
theorem im_X12_of : Cond.instanceMethod yX12_of ∈ lw_tbl := List.mem_of_getElem? (i := 1560) (by decide +kernel)
theorem se_X12_of : Cond.selects RX12 yX12_of yX12_of ∈ lw_tbl := List.mem_of_getElem? (i := 35) (by decide +kernel)
def z_X12_batchContains : fMi := (yX12_batchContains, cX12_batchContains, 3, some .boolean, [])
theorem k_X12_batchContains : fMk z_X12_batchContains 2 := ⟨⟨List.mem_of_getElem? (i := 1565) (by decide +kernel), by decide +kernel⟩, List.mem_of_getElem? (i := 78) (by decide +kernel), ⟨by decide +kernel, by decide +kernel⟩, by decide +kernel, by decide +kernel, by decide +kernel⟩
theorem im_X12_batchContains : Cond.instanceMethod yX12_batchContains ∈ lw_tbl := List.mem_of_getElem? (i := 1563) (by decide +kernel)
theorem se_X12_batchContains : Cond.selects RX12 yX12_batchContains yX12_batchContains ∈ lw_tbl := List.mem_of_getElem? (i := 1564) (by decide +kernel)
def z_X12_addLabel : fMi := (yX12_addLabel, cX12_addLabel, 5, some .int, [])
theorem k_X12_addLabel : fMk z_X12_addLabel 0 := ⟨⟨List.mem_of_getElem? (i := 1569) (by decide +kernel), by decide +kernel⟩, List.mem_of_getElem? (i := 78) (by decide +kernel), ⟨by decide +kernel, by decide +kernel⟩, by decide +kernel, by decide +kernel, by decide +kernel⟩
theorem im_X12_addLabel : Cond.instanceMethod yX12_addLabel ∈ lw_tbl := List.mem_of_getElem? (i := 1567) (by decide +kernel)
theorem se_X12_addLabel : Cond.selects RX12 yX12_addLabel yX12_addLabel ∈ lw_tbl := List.mem_of_getElem? (i := 1568) (by decide +kernel)
def z_X12_isWritten : fMi := (yX12_isWritten, cX12_isWritten, 3, some .boolean, [])
theorem k_X12_isWritten : fMk z_X12_isWritten 1 := ⟨⟨List.mem_of_getElem? (i := 1573) (by decide +kernel), by decide +kernel⟩, List.mem_of_getElem? (i := 78) (by decide +kernel), ⟨by decide +kernel, by decide +kernel⟩, by decide +kernel, by decide +kernel, by decide +kernel⟩
theorem im_X12_isWritten : Cond.instanceMethod yX12_isWritten ∈ lw_tbl := List.mem_of_getElem? (i := 1572) (by decide +kernel)
theorem se_X12_isWritten : Cond.selects RX12 yX12_isWritten yX12_isWritten ∈ lw_tbl := List.mem_of_getElem? (i := 36) (by decide +kernel)
def z_X12_isThere : fMi := (yX12_isThere, cX12_isThere, 4, some .boolean, [])
theorem k_X12_isThere : fMk z_X12_isThere 0 := ⟨⟨List.mem_of_getElem? (i := 1577) (by decide +kernel), by decide +kernel⟩, List.mem_of_getElem? (i := 78) (by decide +kernel), ⟨by decide +kernel, by decide +kernel⟩, by decide +kernel, by decide +kernel, by decide +kernel⟩
theorem im_X12_isThere : Cond.instanceMethod yX12_isThere ∈ lw_tbl := List.mem_of_getElem? (i := 1576) (by decide +kernel)
theorem se_X12_isThere : Cond.selects RX12 yX12_isThere yX12_isThere ∈ lw_tbl := List.mem_of_getElem? (i := 37) (by decide +kernel)
def z_X12_sign : fMi := (yX12_sign, cX12_sign, 3, some .int, [])
theorem k_X12_sign : fMk z_X12_sign 2 := ⟨⟨List.mem_of_getElem? (i := 1581) (by decide +kernel), by decide +kernel⟩, List.mem_of_getElem? (i := 78) (by decide +kernel), ⟨by decide +kernel, by decide +kernel⟩, by decide +kernel, by decide +kernel, by decide +kernel⟩
theorem im_X12_sign : Cond.instanceMethod yX12_sign ∈ lw_tbl := List.mem_of_getElem? (i := 1580) (by decide +kernel)
theorem se_X12_sign : Cond.selects RX12 yX12_sign yX12_sign ∈ lw_tbl := List.mem_of_getElem? (i := 38) (by decide +kernel)
def z_X12_labelCount : fMi := (yX12_labelCount, cX12_labelCount, 1, some .int, [])
theorem k_X12_labelCount : fMk z_X12_labelCount 0 := ⟨⟨List.mem_of_getElem? (i := 1585) (by decide +kernel), by decide +kernel⟩, List.mem_of_getElem? (i := 78) (by decide +kernel), ⟨by decide +kernel, by decide +kernel⟩, by decide +kernel, by decide +kernel, by decide +kernel⟩
theorem im_X12_labelCount : Cond.instanceMethod yX12_labelCount ∈ lw_tbl := List.mem_of_getElem? (i := 1583) (by decide +kernel)
theorem se_X12_labelCount : Cond.selects RX12 yX12_labelCount yX12_labelCount ∈ lw_tbl := List.mem_of_getElem? (i := 1584) (by decide +kernel)
def z_X12_labelLength : fMi := (yX12_labelLength, cX12_labelLength, 2, some .int, [])
theorem k_X12_labelLength : fMk z_X12_labelLength 1 := ⟨⟨List.mem_of_getElem? (i := 1589) (by decide +kernel), by decide +kernel⟩, List.mem_of_getElem? (i := 78) (by decide +kernel), ⟨by decide +kernel, by decide +kernel⟩, by decide +kernel, by decide +kernel, by decide +kernel⟩
theorem im_X12_labelLength : Cond.instanceMethod yX12_labelLength ∈ lw_tbl := List.mem_of_getElem? (i := 1587) (by decide +kernel)
theorem se_X12_labelLength : Cond.selects RX12 yX12_labelLength yX12_labelLength ∈ lw_tbl := List.mem_of_getElem? (i := 1588) (by decide +kernel)
def z_X12_isLabel : fMi := (yX12_isLabel, cX12_isLabel, 2, some .boolean, [])
theorem k_X12_isLabel : fMk z_X12_isLabel 1 := ⟨⟨List.mem_of_getElem? (i := 1593) (by decide +kernel), by decide +kernel⟩, List.mem_of_getElem? (i := 78) (by decide +kernel), ⟨by decide +kernel, by decide +kernel⟩, by decide +kernel, by decide +kernel, by decide +kernel⟩
theorem im_X12_isLabel : Cond.instanceMethod yX12_isLabel ∈ lw_tbl := List.mem_of_getElem? (i := 1592) (by decide +kernel)
theorem se_X12_isLabel : Cond.selects RX12 yX12_isLabel yX12_isLabel ∈ lw_tbl := List.mem_of_getElem? (i := 39) (by decide +kernel)
def z_X12_labelLetter : fMi := (yX12_labelLetter, cX12_labelLetter, 3, some .char, [])
theorem k_X12_labelLetter : fMk z_X12_labelLetter 2 := ⟨⟨List.mem_of_getElem? (i := 1597) (by decide +kernel), by decide +kernel⟩, List.mem_of_getElem? (i := 78) (by decide +kernel), ⟨by decide +kernel, by decide +kernel⟩, by decide +kernel, by decide +kernel, by decide +kernel⟩
theorem im_X12_labelLetter : Cond.instanceMethod yX12_labelLetter ∈ lw_tbl := List.mem_of_getElem? (i := 1595) (by decide +kernel)
theorem se_X12_labelLetter : Cond.selects RX12 yX12_labelLetter yX12_labelLetter ∈ lw_tbl := List.mem_of_getElem? (i := 1596) (by decide +kernel)
def z_X12_scan : fMi := (yX12_scan, cX12_scan, 3, some .int, [])
theorem k_X12_scan : fMk z_X12_scan 0 := ⟨⟨List.mem_of_getElem? (i := 1601) (by decide +kernel), by decide +kernel⟩, List.mem_of_getElem? (i := 78) (by decide +kernel), ⟨by decide +kernel, by decide +kernel⟩, by decide +kernel, by decide +kernel, by decide +kernel⟩
theorem im_X12_scan : Cond.instanceMethod yX12_scan ∈ lw_tbl := List.mem_of_getElem? (i := 1599) (by decide +kernel)
theorem se_X12_scan : Cond.selects RX12 yX12_scan yX12_scan ∈ lw_tbl := List.mem_of_getElem? (i := 1600) (by decide +kernel)
def z_X12_apart : fMi := (yX12_apart, cX12_apart, 7, some .int, [])
theorem k_X12_apart : fMk z_X12_apart 1 := ⟨⟨List.mem_of_getElem? (i := 1605) (by decide +kernel), by decide +kernel⟩, List.mem_of_getElem? (i := 78) (by decide +kernel), ⟨by decide +kernel, by decide +kernel⟩, by decide +kernel, by decide +kernel, by decide +kernel⟩
theorem im_X12_apart : Cond.instanceMethod yX12_apart ∈ lw_tbl := List.mem_of_getElem? (i := 1604) (by decide +kernel)
theorem se_X12_apart : Cond.selects RX12 yX12_apart yX12_apart ∈ lw_tbl := List.mem_of_getElem? (i := 40) (by decide +kernel)
def z_X12_least : fMi := (yX12_least, cX12_least, 2, some .int, [])
theorem k_X12_least : fMk z_X12_least 2 := ⟨⟨List.mem_of_getElem? (i := 1608) (by decide +kernel), by decide +kernel⟩, List.mem_of_getElem? (i := 78) (by decide +kernel), ⟨by decide +kernel, by decide +kernel⟩, by decide +kernel, by decide +kernel, by decide +kernel⟩
theorem sm_X12_least : Cond.static yX12_least ∈ lw_tbl := List.mem_of_getElem? (i := 1607) (by decide +kernel)
def z_X12_distanceTo : fMi := (yX12_distanceTo, cX12_distanceTo, 2, some .int, [])
theorem k_X12_distanceTo : fMk z_X12_distanceTo 1 := ⟨⟨List.mem_of_getElem? (i := 1612) (by decide +kernel), by decide +kernel⟩, List.mem_of_getElem? (i := 78) (by decide +kernel), ⟨by decide +kernel, by decide +kernel⟩, by decide +kernel, by decide +kernel, by decide +kernel⟩
theorem im_X12_distanceTo : Cond.instanceMethod yX12_distanceTo ∈ lw_tbl := List.mem_of_getElem? (i := 1610) (by decide +kernel)
theorem se_X12_distanceTo : Cond.selects RX12 yX12_distanceTo yX12_distanceTo ∈ lw_tbl := List.mem_of_getElem? (i := 1611) (by decide +kernel)
def z_X12_distance : fMi := (yX12_distance, cX12_distance, 2, some .int, [])
theorem k_X12_distance : fMk z_X12_distance 1 := ⟨⟨List.mem_of_getElem? (i := 1616) (by decide +kernel), by decide +kernel⟩, List.mem_of_getElem? (i := 78) (by decide +kernel), ⟨by decide +kernel, by decide +kernel⟩, by decide +kernel, by decide +kernel, by decide +kernel⟩
theorem im_X12_distance : Cond.instanceMethod yX12_distance ∈ lw_tbl := List.mem_of_getElem? (i := 1615) (by decide +kernel)
theorem se_X12_distance : Cond.selects RX12 yX12_distance yX12_distance ∈ lw_tbl := List.mem_of_getElem? (i := 41) (by decide +kernel)
def z_X12_distanceByLetters : fMi := (yX12_distanceByLetters, cX12_distanceByLetters, 2, some .int, [])
theorem k_X12_distanceByLetters : fMk z_X12_distanceByLetters 1 := ⟨⟨List.mem_of_getElem? (i := 1620) (by decide +kernel), by decide +kernel⟩, List.mem_of_getElem? (i := 78) (by decide +kernel), ⟨by decide +kernel, by decide +kernel⟩, by decide +kernel, by decide +kernel, by decide +kernel⟩
theorem im_X12_distanceByLetters : Cond.instanceMethod yX12_distanceByLetters ∈ lw_tbl := List.mem_of_getElem? (i := 1618) (by decide +kernel)
theorem se_X12_distanceByLetters : Cond.selects RX12 yX12_distanceByLetters yX12_distanceByLetters ∈ lw_tbl := List.mem_of_getElem? (i := 1619) (by decide +kernel)
def z_X12_fill : fMi := (yX12_fill, cX12_fill, 6, some .int, [])
theorem k_X12_fill : fMk z_X12_fill 4 := ⟨⟨List.mem_of_getElem? (i := 1624) (by decide +kernel), by decide +kernel⟩, List.mem_of_getElem? (i := 78) (by decide +kernel), ⟨by decide +kernel, by decide +kernel⟩, by decide +kernel, by decide +kernel, by decide +kernel⟩
theorem im_X12_fill : Cond.instanceMethod yX12_fill ∈ lw_tbl := List.mem_of_getElem? (i := 1622) (by decide +kernel)
theorem se_X12_fill : Cond.selects RX12 yX12_fill yX12_fill ∈ lw_tbl := List.mem_of_getElem? (i := 1623) (by decide +kernel)
def z_X12_ship : fMi := (yX12_ship, cX12_ship, 4, some .int, [])
theorem k_X12_ship : fMk z_X12_ship 1 := ⟨⟨List.mem_of_getElem? (i := 1628) (by decide +kernel), by decide +kernel⟩, List.mem_of_getElem? (i := 78) (by decide +kernel), ⟨by decide +kernel, by decide +kernel⟩, by decide +kernel, by decide +kernel, by decide +kernel⟩
theorem im_X12_ship : Cond.instanceMethod yX12_ship ∈ lw_tbl := List.mem_of_getElem? (i := 1626) (by decide +kernel)
theorem se_X12_ship : Cond.selects RX12 yX12_ship yX12_ship ∈ lw_tbl := List.mem_of_getElem? (i := 1627) (by decide +kernel)
def z_X12_placeOf : fMi := (yX12_placeOf, cX12_placeOf, 3, some .int, [])
theorem k_X12_placeOf : fMk z_X12_placeOf 1 := ⟨⟨List.mem_of_getElem? (i := 1632) (by decide +kernel), by decide +kernel⟩, List.mem_of_getElem? (i := 78) (by decide +kernel), ⟨by decide +kernel, by decide +kernel⟩, by decide +kernel, by decide +kernel, by decide +kernel⟩
theorem im_X12_placeOf : Cond.instanceMethod yX12_placeOf ∈ lw_tbl := List.mem_of_getElem? (i := 1631) (by decide +kernel)
theorem se_X12_placeOf : Cond.selects RX12 yX12_placeOf yX12_placeOf ∈ lw_tbl := List.mem_of_getElem? (i := 42) (by decide +kernel)
def z_X12_by : fMi := (yX12_by, cX12_by, 3, some .int, [])
theorem k_X12_by : fMk z_X12_by 2 := ⟨⟨List.mem_of_getElem? (i := 1636) (by decide +kernel), by decide +kernel⟩, List.mem_of_getElem? (i := 78) (by decide +kernel), ⟨by decide +kernel, by decide +kernel⟩, by decide +kernel, by decide +kernel, by decide +kernel⟩
theorem im_X12_by : Cond.instanceMethod yX12_by ∈ lw_tbl := List.mem_of_getElem? (i := 1635) (by decide +kernel)
theorem se_X12_by : Cond.selects RX12 yX12_by yX12_by ∈ lw_tbl := List.mem_of_getElem? (i := 43) (by decide +kernel)
def z_X12_goes : fMi := (yX12_goes, cX12_goes, 4, some .int, [])
theorem k_X12_goes : fMk z_X12_goes 1 := ⟨⟨List.mem_of_getElem? (i := 1640) (by decide +kernel), by decide +kernel⟩, List.mem_of_getElem? (i := 78) (by decide +kernel), ⟨by decide +kernel, by decide +kernel⟩, by decide +kernel, by decide +kernel, by decide +kernel⟩
theorem im_X12_goes : Cond.instanceMethod yX12_goes ∈ lw_tbl := List.mem_of_getElem? (i := 1639) (by decide +kernel)
theorem se_X12_goes : Cond.selects RX12 yX12_goes yX12_goes ∈ lw_tbl := List.mem_of_getElem? (i := 44) (by decide +kernel)
def z_X12_pass : fMi := (yX12_pass, cX12_pass, 4, some .int, [])
theorem k_X12_pass : fMk z_X12_pass 1 := ⟨⟨List.mem_of_getElem? (i := 1644) (by decide +kernel), by decide +kernel⟩, List.mem_of_getElem? (i := 78) (by decide +kernel), ⟨by decide +kernel, by decide +kernel⟩, by decide +kernel, by decide +kernel, by decide +kernel⟩
theorem im_X12_pass : Cond.instanceMethod yX12_pass ∈ lw_tbl := List.mem_of_getElem? (i := 1642) (by decide +kernel)
theorem se_X12_pass : Cond.selects RX12 yX12_pass yX12_pass ∈ lw_tbl := List.mem_of_getElem? (i := 1643) (by decide +kernel)
def z_X12_dawns : fMi := (yX12_dawns, cX12_dawns, 4, some .int, [])
theorem k_X12_dawns : fMk z_X12_dawns 0 := ⟨⟨List.mem_of_getElem? (i := 1648) (by decide +kernel), by decide +kernel⟩, List.mem_of_getElem? (i := 78) (by decide +kernel), ⟨by decide +kernel, by decide +kernel⟩, by decide +kernel, by decide +kernel, by decide +kernel⟩
theorem im_X12_dawns : Cond.instanceMethod yX12_dawns ∈ lw_tbl := List.mem_of_getElem? (i := 1647) (by decide +kernel)
theorem se_X12_dawns : Cond.selects RX12 yX12_dawns yX12_dawns ∈ lw_tbl := List.mem_of_getElem? (i := 45) (by decide +kernel)
def z_X12_grows : fMi := (yX12_grows, cX12_grows, 2, some .int, [])
theorem k_X12_grows : fMk z_X12_grows 1 := ⟨⟨List.mem_of_getElem? (i := 1652) (by decide +kernel), by decide +kernel⟩, List.mem_of_getElem? (i := 78) (by decide +kernel), ⟨by decide +kernel, by decide +kernel⟩, by decide +kernel, by decide +kernel, by decide +kernel⟩
theorem im_X12_grows : Cond.instanceMethod yX12_grows ∈ lw_tbl := List.mem_of_getElem? (i := 1651) (by decide +kernel)
theorem se_X12_grows : Cond.selects RX12 yX12_grows yX12_grows ∈ lw_tbl := List.mem_of_getElem? (i := 46) (by decide +kernel)
def z_X12_strong : fMi := (yX12_strong, cX12_strong, 2, some .int, [])
theorem k_X12_strong : fMk z_X12_strong 1 := ⟨⟨List.mem_of_getElem? (i := 1656) (by decide +kernel), by decide +kernel⟩, List.mem_of_getElem? (i := 78) (by decide +kernel), ⟨by decide +kernel, by decide +kernel⟩, by decide +kernel, by decide +kernel, by decide +kernel⟩
theorem im_X12_strong : Cond.instanceMethod yX12_strong ∈ lw_tbl := List.mem_of_getElem? (i := 1655) (by decide +kernel)
theorem se_X12_strong : Cond.selects RX12 yX12_strong yX12_strong ∈ lw_tbl := List.mem_of_getElem? (i := 47) (by decide +kernel)
def z_X12_recall : fMi := (yX12_recall, cX12_recall, 4, some .int, [])
theorem k_X12_recall : fMk z_X12_recall 1 := ⟨⟨List.mem_of_getElem? (i := 1660) (by decide +kernel), by decide +kernel⟩, List.mem_of_getElem? (i := 78) (by decide +kernel), ⟨by decide +kernel, by decide +kernel⟩, by decide +kernel, by decide +kernel, by decide +kernel⟩
theorem im_X12_recall : Cond.instanceMethod yX12_recall ∈ lw_tbl := List.mem_of_getElem? (i := 1658) (by decide +kernel)
theorem se_X12_recall : Cond.selects RX12 yX12_recall yX12_recall ∈ lw_tbl := List.mem_of_getElem? (i := 1659) (by decide +kernel)
def z_X12_inside : fMi := (yX12_inside, cX12_inside, 2, some .int, [])
theorem k_X12_inside : fMk z_X12_inside 1 := ⟨⟨List.mem_of_getElem? (i := 1664) (by decide +kernel), by decide +kernel⟩, List.mem_of_getElem? (i := 78) (by decide +kernel), ⟨by decide +kernel, by decide +kernel⟩, by decide +kernel, by decide +kernel, by decide +kernel⟩
theorem im_X12_inside : Cond.instanceMethod yX12_inside ∈ lw_tbl := List.mem_of_getElem? (i := 1663) (by decide +kernel)
theorem se_X12_inside : Cond.selects RX12 yX12_inside yX12_inside ∈ lw_tbl := List.mem_of_getElem? (i := 48) (by decide +kernel)
def z_X12_lotCount : fMi := (yX12_lotCount, cX12_lotCount, 1, some .int, [])
theorem k_X12_lotCount : fMk z_X12_lotCount 0 := ⟨⟨List.mem_of_getElem? (i := 1668) (by decide +kernel), by decide +kernel⟩, List.mem_of_getElem? (i := 78) (by decide +kernel), ⟨by decide +kernel, by decide +kernel⟩, by decide +kernel, by decide +kernel, by decide +kernel⟩
theorem im_X12_lotCount : Cond.instanceMethod yX12_lotCount ∈ lw_tbl := List.mem_of_getElem? (i := 1666) (by decide +kernel)
theorem se_X12_lotCount : Cond.selects RX12 yX12_lotCount yX12_lotCount ∈ lw_tbl := List.mem_of_getElem? (i := 1667) (by decide +kernel)
def z_X12_lotAt : fMi := (yX12_lotAt, cX12_lotAt, 2, some .int, [])
theorem k_X12_lotAt : fMk z_X12_lotAt 1 := ⟨⟨List.mem_of_getElem? (i := 1672) (by decide +kernel), by decide +kernel⟩, List.mem_of_getElem? (i := 78) (by decide +kernel), ⟨by decide +kernel, by decide +kernel⟩, by decide +kernel, by decide +kernel, by decide +kernel⟩
theorem im_X12_lotAt : Cond.instanceMethod yX12_lotAt ∈ lw_tbl := List.mem_of_getElem? (i := 1670) (by decide +kernel)
theorem se_X12_lotAt : Cond.selects RX12 yX12_lotAt yX12_lotAt ∈ lw_tbl := List.mem_of_getElem? (i := 1671) (by decide +kernel)
def z_X12_jarsOf : fMi := (yX12_jarsOf, cX12_jarsOf, 2, some .int, [])
theorem k_X12_jarsOf : fMk z_X12_jarsOf 1 := ⟨⟨List.mem_of_getElem? (i := 1676) (by decide +kernel), by decide +kernel⟩, List.mem_of_getElem? (i := 78) (by decide +kernel), ⟨by decide +kernel, by decide +kernel⟩, by decide +kernel, by decide +kernel, by decide +kernel⟩
theorem im_X12_jarsOf : Cond.instanceMethod yX12_jarsOf ∈ lw_tbl := List.mem_of_getElem? (i := 1674) (by decide +kernel)
theorem se_X12_jarsOf : Cond.selects RX12 yX12_jarsOf yX12_jarsOf ∈ lw_tbl := List.mem_of_getElem? (i := 1675) (by decide +kernel)
def z_X12_isLost : fMi := (yX12_isLost, cX12_isLost, 2, some .boolean, [])
theorem k_X12_isLost : fMk z_X12_isLost 1 := ⟨⟨List.mem_of_getElem? (i := 1680) (by decide +kernel), by decide +kernel⟩, List.mem_of_getElem? (i := 78) (by decide +kernel), ⟨by decide +kernel, by decide +kernel⟩, by decide +kernel, by decide +kernel, by decide +kernel⟩
theorem im_X12_isLost : Cond.instanceMethod yX12_isLost ∈ lw_tbl := List.mem_of_getElem? (i := 1679) (by decide +kernel)
theorem se_X12_isLost : Cond.selects RX12 yX12_isLost yX12_isLost ∈ lw_tbl := List.mem_of_getElem? (i := 49) (by decide +kernel)
def z_X12_labelOf : fMi := (yX12_labelOf, cX12_labelOf, 2, some .int, [])
theorem k_X12_labelOf : fMk z_X12_labelOf 1 := ⟨⟨List.mem_of_getElem? (i := 1684) (by decide +kernel), by decide +kernel⟩, List.mem_of_getElem? (i := 78) (by decide +kernel), ⟨by decide +kernel, by decide +kernel⟩, by decide +kernel, by decide +kernel, by decide +kernel⟩
theorem im_X12_labelOf : Cond.instanceMethod yX12_labelOf ∈ lw_tbl := List.mem_of_getElem? (i := 1682) (by decide +kernel)
theorem se_X12_labelOf : Cond.selects RX12 yX12_labelOf yX12_labelOf ∈ lw_tbl := List.mem_of_getElem? (i := 1683) (by decide +kernel)
def z_X12_strengthOfLot : fMi := (yX12_strengthOfLot, cX12_strengthOfLot, 2, some .int, [])
theorem k_X12_strengthOfLot : fMk z_X12_strengthOfLot 1 := ⟨⟨List.mem_of_getElem? (i := 1688) (by decide +kernel), by decide +kernel⟩, List.mem_of_getElem? (i := 78) (by decide +kernel), ⟨by decide +kernel, by decide +kernel⟩, by decide +kernel, by decide +kernel, by decide +kernel⟩
theorem im_X12_strengthOfLot : Cond.instanceMethod yX12_strengthOfLot ∈ lw_tbl := List.mem_of_getElem? (i := 1686) (by decide +kernel)
theorem se_X12_strengthOfLot : Cond.selects RX12 yX12_strengthOfLot yX12_strengthOfLot ∈ lw_tbl := List.mem_of_getElem? (i := 1687) (by decide +kernel)
def z_X12_pressureOf : fMi := (yX12_pressureOf, cX12_pressureOf, 2, some .int, [])
theorem k_X12_pressureOf : fMk z_X12_pressureOf 1 := ⟨⟨List.mem_of_getElem? (i := 1692) (by decide +kernel), by decide +kernel⟩, List.mem_of_getElem? (i := 78) (by decide +kernel), ⟨by decide +kernel, by decide +kernel⟩, by decide +kernel, by decide +kernel, by decide +kernel⟩
theorem im_X12_pressureOf : Cond.instanceMethod yX12_pressureOf ∈ lw_tbl := List.mem_of_getElem? (i := 1690) (by decide +kernel)
theorem se_X12_pressureOf : Cond.selects RX12 yX12_pressureOf yX12_pressureOf ∈ lw_tbl := List.mem_of_getElem? (i := 1691) (by decide +kernel)
def z_X12_lotContains : fMi := (yX12_lotContains, cX12_lotContains, 3, some .boolean, [])
theorem k_X12_lotContains : fMk z_X12_lotContains 2 := ⟨⟨List.mem_of_getElem? (i := 1696) (by decide +kernel), by decide +kernel⟩, List.mem_of_getElem? (i := 78) (by decide +kernel), ⟨by decide +kernel, by decide +kernel⟩, by decide +kernel, by decide +kernel, by decide +kernel⟩
theorem im_X12_lotContains : Cond.instanceMethod yX12_lotContains ∈ lw_tbl := List.mem_of_getElem? (i := 1694) (by decide +kernel)
theorem se_X12_lotContains : Cond.selects RX12 yX12_lotContains yX12_lotContains ∈ lw_tbl := List.mem_of_getElem? (i := 1695) (by decide +kernel)
def z_X12_daysUntilPop : fMi := (yX12_daysUntilPop, cX12_daysUntilPop, 2, some .int, [])
theorem k_X12_daysUntilPop : fMk z_X12_daysUntilPop 1 := ⟨⟨List.mem_of_getElem? (i := 1700) (by decide +kernel), by decide +kernel⟩, List.mem_of_getElem? (i := 78) (by decide +kernel), ⟨by decide +kernel, by decide +kernel⟩, by decide +kernel, by decide +kernel, by decide +kernel⟩
theorem im_X12_daysUntilPop : Cond.instanceMethod yX12_daysUntilPop ∈ lw_tbl := List.mem_of_getElem? (i := 1698) (by decide +kernel)
theorem se_X12_daysUntilPop : Cond.selects RX12 yX12_daysUntilPop yX12_daysUntilPop ∈ lw_tbl := List.mem_of_getElem? (i := 1699) (by decide +kernel)
def z_X12_toPop : fMi := (yX12_toPop, cX12_toPop, 5, some .int, [])
theorem k_X12_toPop : fMk z_X12_toPop 1 := ⟨⟨List.mem_of_getElem? (i := 1704) (by decide +kernel), by decide +kernel⟩, List.mem_of_getElem? (i := 78) (by decide +kernel), ⟨by decide +kernel, by decide +kernel⟩, by decide +kernel, by decide +kernel, by decide +kernel⟩
theorem im_X12_toPop : Cond.instanceMethod yX12_toPop ∈ lw_tbl := List.mem_of_getElem? (i := 1703) (by decide +kernel)
theorem se_X12_toPop : Cond.selects RX12 yX12_toPop yX12_toPop ∈ lw_tbl := List.mem_of_getElem? (i := 50) (by decide +kernel)
def z_X12_daysByDivision : fMi := (yX12_daysByDivision, cX12_daysByDivision, 2, some .int, [])
theorem k_X12_daysByDivision : fMk z_X12_daysByDivision 1 := ⟨⟨List.mem_of_getElem? (i := 1708) (by decide +kernel), by decide +kernel⟩, List.mem_of_getElem? (i := 78) (by decide +kernel), ⟨by decide +kernel, by decide +kernel⟩, by decide +kernel, by decide +kernel, by decide +kernel⟩
theorem im_X12_daysByDivision : Cond.instanceMethod yX12_daysByDivision ∈ lw_tbl := List.mem_of_getElem? (i := 1706) (by decide +kernel)
theorem se_X12_daysByDivision : Cond.selects RX12 yX12_daysByDivision yX12_daysByDivision ∈ lw_tbl := List.mem_of_getElem? (i := 1707) (by decide +kernel)
def z_X12_lotByPressure : fMi := (yX12_lotByPressure, cX12_lotByPressure, 5, some .int, [])
theorem k_X12_lotByPressure : fMk z_X12_lotByPressure 1 := ⟨⟨List.mem_of_getElem? (i := 1712) (by decide +kernel), by decide +kernel⟩, List.mem_of_getElem? (i := 78) (by decide +kernel), ⟨by decide +kernel, by decide +kernel⟩, by decide +kernel, by decide +kernel, by decide +kernel⟩
theorem im_X12_lotByPressure : Cond.instanceMethod yX12_lotByPressure ∈ lw_tbl := List.mem_of_getElem? (i := 1710) (by decide +kernel)
theorem se_X12_lotByPressure : Cond.selects RX12 yX12_lotByPressure yX12_lotByPressure ∈ lw_tbl := List.mem_of_getElem? (i := 1711) (by decide +kernel)
def z_X12_affectedLots : fMi := (yX12_affectedLots, cX12_affectedLots, 2, some .int, [])
theorem k_X12_affectedLots : fMk z_X12_affectedLots 1 := ⟨⟨List.mem_of_getElem? (i := 1716) (by decide +kernel), by decide +kernel⟩, List.mem_of_getElem? (i := 78) (by decide +kernel), ⟨by decide +kernel, by decide +kernel⟩, by decide +kernel, by decide +kernel, by decide +kernel⟩
theorem im_X12_affectedLots : Cond.instanceMethod yX12_affectedLots ∈ lw_tbl := List.mem_of_getElem? (i := 1714) (by decide +kernel)
theorem se_X12_affectedLots : Cond.selects RX12 yX12_affectedLots yX12_affectedLots ∈ lw_tbl := List.mem_of_getElem? (i := 1715) (by decide +kernel)
def z_X12_affected : fMi := (yX12_affected, cX12_affected, 4, some .int, [])
theorem k_X12_affected : fMk z_X12_affected 1 := ⟨⟨List.mem_of_getElem? (i := 1720) (by decide +kernel), by decide +kernel⟩, List.mem_of_getElem? (i := 78) (by decide +kernel), ⟨by decide +kernel, by decide +kernel⟩, by decide +kernel, by decide +kernel, by decide +kernel⟩
theorem im_X12_affected : Cond.instanceMethod yX12_affected ∈ lw_tbl := List.mem_of_getElem? (i := 1719) (by decide +kernel)
theorem se_X12_affected : Cond.selects RX12 yX12_affected yX12_affected ∈ lw_tbl := List.mem_of_getElem? (i := 51) (by decide +kernel)
def z_X12_affectedBySets : fMi := (yX12_affectedBySets, cX12_affectedBySets, 2, some .int, [])
theorem k_X12_affectedBySets : fMk z_X12_affectedBySets 1 := ⟨⟨List.mem_of_getElem? (i := 1724) (by decide +kernel), by decide +kernel⟩, List.mem_of_getElem? (i := 78) (by decide +kernel), ⟨by decide +kernel, by decide +kernel⟩, by decide +kernel, by decide +kernel, by decide +kernel⟩
theorem im_X12_affectedBySets : Cond.instanceMethod yX12_affectedBySets ∈ lw_tbl := List.mem_of_getElem? (i := 1722) (by decide +kernel)
theorem se_X12_affectedBySets : Cond.selects RX12 yX12_affectedBySets yX12_affectedBySets ∈ lw_tbl := List.mem_of_getElem? (i := 1723) (by decide +kernel)
def z_X12_leastCrates : fMi := (yX12_leastCrates, cX12_leastCrates, 2, some .int, [])
theorem k_X12_leastCrates : fMk z_X12_leastCrates 1 := ⟨⟨List.mem_of_getElem? (i := 1728) (by decide +kernel), by decide +kernel⟩, List.mem_of_getElem? (i := 78) (by decide +kernel), ⟨by decide +kernel, by decide +kernel⟩, by decide +kernel, by decide +kernel, by decide +kernel⟩
theorem im_X12_leastCrates : Cond.instanceMethod yX12_leastCrates ∈ lw_tbl := List.mem_of_getElem? (i := 1726) (by decide +kernel)
theorem se_X12_leastCrates : Cond.selects RX12 yX12_leastCrates yX12_leastCrates ∈ lw_tbl := List.mem_of_getElem? (i := 1727) (by decide +kernel)
def z_X12_crates : fMi := (yX12_crates, cX12_crates, 7, some .int, [])
theorem k_X12_crates : fMk z_X12_crates 1 := ⟨⟨List.mem_of_getElem? (i := 1732) (by decide +kernel), by decide +kernel⟩, List.mem_of_getElem? (i := 78) (by decide +kernel), ⟨by decide +kernel, by decide +kernel⟩, by decide +kernel, by decide +kernel, by decide +kernel⟩
theorem im_X12_crates : Cond.instanceMethod yX12_crates ∈ lw_tbl := List.mem_of_getElem? (i := 1731) (by decide +kernel)
theorem se_X12_crates : Cond.selects RX12 yX12_crates yX12_crates ∈ lw_tbl := List.mem_of_getElem? (i := 52) (by decide +kernel)
def z_X12_leastCratesByTrial : fMi := (yX12_leastCratesByTrial, cX12_leastCratesByTrial, 2, some .int, [])
theorem k_X12_leastCratesByTrial : fMk z_X12_leastCratesByTrial 1 := ⟨⟨List.mem_of_getElem? (i := 1737) (by decide +kernel), by decide +kernel⟩, List.mem_of_getElem? (i := 78) (by decide +kernel), ⟨by decide +kernel, by decide +kernel⟩, by decide +kernel, by decide +kernel, by decide +kernel⟩
theorem im_X12_leastCratesByTrial : Cond.instanceMethod yX12_leastCratesByTrial ∈ lw_tbl := List.mem_of_getElem? (i := 1735) (by decide +kernel)
theorem se_X12_leastCratesByTrial : Cond.selects RX12 yX12_leastCratesByTrial yX12_leastCratesByTrial ∈ lw_tbl := List.mem_of_getElem? (i := 1736) (by decide +kernel)
def z_X12_fewestTests : fMi := (yX12_fewestTests, cX12_fewestTests, 1, some .int, [])
theorem k_X12_fewestTests : fMk z_X12_fewestTests 0 := ⟨⟨List.mem_of_getElem? (i := 1741) (by decide +kernel), by decide +kernel⟩, List.mem_of_getElem? (i := 78) (by decide +kernel), ⟨by decide +kernel, by decide +kernel⟩, by decide +kernel, by decide +kernel, by decide +kernel⟩
theorem im_X12_fewestTests : Cond.instanceMethod yX12_fewestTests ∈ lw_tbl := List.mem_of_getElem? (i := 1739) (by decide +kernel)
theorem se_X12_fewestTests : Cond.selects RX12 yX12_fewestTests yX12_fewestTests ∈ lw_tbl := List.mem_of_getElem? (i := 1740) (by decide +kernel)
def z_X12_best : fMi := (yX12_best, cX12_best, 3, some .int, [])
theorem k_X12_best : fMk z_X12_best 0 := ⟨⟨List.mem_of_getElem? (i := 1745) (by decide +kernel), by decide +kernel⟩, List.mem_of_getElem? (i := 78) (by decide +kernel), ⟨by decide +kernel, by decide +kernel⟩, by decide +kernel, by decide +kernel, by decide +kernel⟩
theorem im_X12_best : Cond.instanceMethod yX12_best ∈ lw_tbl := List.mem_of_getElem? (i := 1744) (by decide +kernel)
theorem se_X12_best : Cond.selects RX12 yX12_best yX12_best ∈ lw_tbl := List.mem_of_getElem? (i := 53) (by decide +kernel)
def z_X12_isTest : fMi := (yX12_isTest, cX12_isTest, 3, some .boolean, [])
theorem k_X12_isTest : fMk z_X12_isTest 1 := ⟨⟨List.mem_of_getElem? (i := 1749) (by decide +kernel), by decide +kernel⟩, List.mem_of_getElem? (i := 78) (by decide +kernel), ⟨by decide +kernel, by decide +kernel⟩, by decide +kernel, by decide +kernel, by decide +kernel⟩
theorem im_X12_isTest : Cond.instanceMethod yX12_isTest ∈ lw_tbl := List.mem_of_getElem? (i := 1748) (by decide +kernel)
theorem se_X12_isTest : Cond.selects RX12 yX12_isTest yX12_isTest ∈ lw_tbl := List.mem_of_getElem? (i := 54) (by decide +kernel)
def z_X12_bits : fMi := (yX12_bits, cX12_bits, 3, some .int, [])
theorem k_X12_bits : fMk z_X12_bits 1 := ⟨⟨List.mem_of_getElem? (i := 1752) (by decide +kernel), by decide +kernel⟩, List.mem_of_getElem? (i := 78) (by decide +kernel), ⟨by decide +kernel, by decide +kernel⟩, by decide +kernel, by decide +kernel, by decide +kernel⟩
theorem sm_X12_bits : Cond.static yX12_bits ∈ lw_tbl := List.mem_of_getElem? (i := 1751) (by decide +kernel)
def z_X12_fewestTestsByBranching : fMi := (yX12_fewestTestsByBranching, cX12_fewestTestsByBranching, 1, some .int, [])
theorem k_X12_fewestTestsByBranching : fMk z_X12_fewestTestsByBranching 0 := ⟨⟨List.mem_of_getElem? (i := 1756) (by decide +kernel), by decide +kernel⟩, List.mem_of_getElem? (i := 78) (by decide +kernel), ⟨by decide +kernel, by decide +kernel⟩, by decide +kernel, by decide +kernel, by decide +kernel⟩
theorem im_X12_fewestTestsByBranching : Cond.instanceMethod yX12_fewestTestsByBranching ∈ lw_tbl := List.mem_of_getElem? (i := 1754) (by decide +kernel)
theorem se_X12_fewestTestsByBranching : Cond.selects RX12 yX12_fewestTestsByBranching yX12_fewestTestsByBranching ∈ lw_tbl := List.mem_of_getElem? (i := 1755) (by decide +kernel)
def z_X12_isTested : fMi := (yX12_isTested, cX12_isTested, 2, some .boolean, [])
theorem k_X12_isTested : fMk z_X12_isTested 1 := ⟨⟨List.mem_of_getElem? (i := 1760) (by decide +kernel), by decide +kernel⟩, List.mem_of_getElem? (i := 78) (by decide +kernel), ⟨by decide +kernel, by decide +kernel⟩, by decide +kernel, by decide +kernel, by decide +kernel⟩
theorem im_X12_isTested : Cond.instanceMethod yX12_isTested ∈ lw_tbl := List.mem_of_getElem? (i := 1758) (by decide +kernel)
theorem se_X12_isTested : Cond.selects RX12 yX12_isTested yX12_isTested ∈ lw_tbl := List.mem_of_getElem? (i := 1759) (by decide +kernel)
def z_X12_dayCount : fMi := (yX12_dayCount, cX12_dayCount, 1, some .int, [])
theorem k_X12_dayCount : fMk z_X12_dayCount 0 := ⟨⟨List.mem_of_getElem? (i := 1764) (by decide +kernel), by decide +kernel⟩, List.mem_of_getElem? (i := 78) (by decide +kernel), ⟨by decide +kernel, by decide +kernel⟩, by decide +kernel, by decide +kernel, by decide +kernel⟩
theorem im_X12_dayCount : Cond.instanceMethod yX12_dayCount ∈ lw_tbl := List.mem_of_getElem? (i := 1762) (by decide +kernel)
theorem se_X12_dayCount : Cond.selects RX12 yX12_dayCount yX12_dayCount ∈ lw_tbl := List.mem_of_getElem? (i := 1763) (by decide +kernel)
def z_X12_filled : fMi := (yX12_filled, cX12_filled, 1, some .int, [])
theorem k_X12_filled : fMk z_X12_filled 0 := ⟨⟨List.mem_of_getElem? (i := 1768) (by decide +kernel), by decide +kernel⟩, List.mem_of_getElem? (i := 78) (by decide +kernel), ⟨by decide +kernel, by decide +kernel⟩, by decide +kernel, by decide +kernel, by decide +kernel⟩
theorem im_X12_filled : Cond.instanceMethod yX12_filled ∈ lw_tbl := List.mem_of_getElem? (i := 1766) (by decide +kernel)
theorem se_X12_filled : Cond.selects RX12 yX12_filled yX12_filled ∈ lw_tbl := List.mem_of_getElem? (i := 1767) (by decide +kernel)
def z_X12_stored : fMi := (yX12_stored, cX12_stored, 1, some .int, [])
theorem k_X12_stored : fMk z_X12_stored 0 := ⟨⟨List.mem_of_getElem? (i := 1772) (by decide +kernel), by decide +kernel⟩, List.mem_of_getElem? (i := 78) (by decide +kernel), ⟨by decide +kernel, by decide +kernel⟩, by decide +kernel, by decide +kernel, by decide +kernel⟩
theorem im_X12_stored : Cond.instanceMethod yX12_stored ∈ lw_tbl := List.mem_of_getElem? (i := 1770) (by decide +kernel)
theorem se_X12_stored : Cond.selects RX12 yX12_stored yX12_stored ∈ lw_tbl := List.mem_of_getElem? (i := 1771) (by decide +kernel)
def z_X12_keptJars : fMi := (yX12_keptJars, cX12_keptJars, 3, some .int, [])
theorem k_X12_keptJars : fMk z_X12_keptJars 0 := ⟨⟨List.mem_of_getElem? (i := 1776) (by decide +kernel), by decide +kernel⟩, List.mem_of_getElem? (i := 78) (by decide +kernel), ⟨by decide +kernel, by decide +kernel⟩, by decide +kernel, by decide +kernel, by decide +kernel⟩
theorem im_X12_keptJars : Cond.instanceMethod yX12_keptJars ∈ lw_tbl := List.mem_of_getElem? (i := 1775) (by decide +kernel)
theorem se_X12_keptJars : Cond.selects RX12 yX12_keptJars yX12_keptJars ∈ lw_tbl := List.mem_of_getElem? (i := 55) (by decide +kernel)
def z_X12_shipped : fMi := (yX12_shipped, cX12_shipped, 1, some .int, [])
theorem k_X12_shipped : fMk z_X12_shipped 0 := ⟨⟨List.mem_of_getElem? (i := 1780) (by decide +kernel), by decide +kernel⟩, List.mem_of_getElem? (i := 78) (by decide +kernel), ⟨by decide +kernel, by decide +kernel⟩, by decide +kernel, by decide +kernel, by decide +kernel⟩
theorem im_X12_shipped : Cond.instanceMethod yX12_shipped ∈ lw_tbl := List.mem_of_getElem? (i := 1778) (by decide +kernel)
theorem se_X12_shipped : Cond.selects RX12 yX12_shipped yX12_shipped ∈ lw_tbl := List.mem_of_getElem? (i := 1779) (by decide +kernel)
def z_X12_recalled : fMi := (yX12_recalled, cX12_recalled, 1, some .int, [])
theorem k_X12_recalled : fMk z_X12_recalled 0 := ⟨⟨List.mem_of_getElem? (i := 1784) (by decide +kernel), by decide +kernel⟩, List.mem_of_getElem? (i := 78) (by decide +kernel), ⟨by decide +kernel, by decide +kernel⟩, by decide +kernel, by decide +kernel, by decide +kernel⟩
theorem im_X12_recalled : Cond.instanceMethod yX12_recalled ∈ lw_tbl := List.mem_of_getElem? (i := 1782) (by decide +kernel)
theorem se_X12_recalled : Cond.selects RX12 yX12_recalled yX12_recalled ∈ lw_tbl := List.mem_of_getElem? (i := 1783) (by decide +kernel)
def z_X12_spoiled : fMi := (yX12_spoiled, cX12_spoiled, 1, some .int, [])
theorem k_X12_spoiled : fMk z_X12_spoiled 0 := ⟨⟨List.mem_of_getElem? (i := 1788) (by decide +kernel), by decide +kernel⟩, List.mem_of_getElem? (i := 78) (by decide +kernel), ⟨by decide +kernel, by decide +kernel⟩, by decide +kernel, by decide +kernel, by decide +kernel⟩
theorem im_X12_spoiled : Cond.instanceMethod yX12_spoiled ∈ lw_tbl := List.mem_of_getElem? (i := 1786) (by decide +kernel)
theorem se_X12_spoiled : Cond.selects RX12 yX12_spoiled yX12_spoiled ∈ lw_tbl := List.mem_of_getElem? (i := 1787) (by decide +kernel)
def z_X12_meanPressure : fMi := (yX12_meanPressure, cX12_meanPressure, 3, some .double, [])
theorem k_X12_meanPressure : fMk z_X12_meanPressure 0 := ⟨⟨List.mem_of_getElem? (i := 1792) (by decide +kernel), by decide +kernel⟩, List.mem_of_getElem? (i := 78) (by decide +kernel), ⟨by decide +kernel, by decide +kernel⟩, by decide +kernel, by decide +kernel, by decide +kernel⟩
theorem im_X12_meanPressure : Cond.instanceMethod yX12_meanPressure ∈ lw_tbl := List.mem_of_getElem? (i := 1790) (by decide +kernel)
theorem se_X12_meanPressure : Cond.selects RX12 yX12_meanPressure yX12_meanPressure ∈ lw_tbl := List.mem_of_getElem? (i := 1791) (by decide +kernel)
def z_X12_shippedShare : fMi := (yX12_shippedShare, cX12_shippedShare, 1, some .float, [])
theorem k_X12_shippedShare : fMk z_X12_shippedShare 0 := ⟨⟨List.mem_of_getElem? (i := 1796) (by decide +kernel), by decide +kernel⟩, List.mem_of_getElem? (i := 78) (by decide +kernel), ⟨by decide +kernel, by decide +kernel⟩, by decide +kernel, by decide +kernel, by decide +kernel⟩
theorem im_X12_shippedShare : Cond.instanceMethod yX12_shippedShare ∈ lw_tbl := List.mem_of_getElem? (i := 1794) (by decide +kernel)
theorem se_X12_shippedShare : Cond.selects RX12 yX12_shippedShare yX12_shippedShare ∈ lw_tbl := List.mem_of_getElem? (i := 1795) (by decide +kernel)
def z_X12_writeLot : fMi := (yX12_writeLot, cX12_writeLot, 5, some .int, [])
theorem k_X12_writeLot : fMk z_X12_writeLot 1 := ⟨⟨List.mem_of_getElem? (i := 1800) (by decide +kernel), by decide +kernel⟩, List.mem_of_getElem? (i := 78) (by decide +kernel), ⟨by decide +kernel, by decide +kernel⟩, by decide +kernel, by decide +kernel, by decide +kernel⟩
theorem im_X12_writeLot : Cond.instanceMethod yX12_writeLot ∈ lw_tbl := List.mem_of_getElem? (i := 1798) (by decide +kernel)
theorem se_X12_writeLot : Cond.selects RX12 yX12_writeLot yX12_writeLot ∈ lw_tbl := List.mem_of_getElem? (i := 1799) (by decide +kernel)
def z_X12_writesNumber : fMi := (yX12_writesNumber, cX12_writesNumber, 2, none, [])
theorem k_X12_writesNumber : fMk z_X12_writesNumber 1 := ⟨⟨List.mem_of_getElem? (i := 1804) (by decide +kernel), by decide +kernel⟩, List.mem_of_getElem? (i := 78) (by decide +kernel), ⟨by decide +kernel, by decide +kernel⟩, by decide +kernel, by decide +kernel, by decide +kernel⟩
theorem im_X12_writesNumber : Cond.instanceMethod yX12_writesNumber ∈ lw_tbl := List.mem_of_getElem? (i := 1803) (by decide +kernel)
theorem se_X12_writesNumber : Cond.selects RX12 yX12_writesNumber yX12_writesNumber ∈ lw_tbl := List.mem_of_getElem? (i := 56) (by decide +kernel)
def z_X12_writes : fMi := (yX12_writes, cX12_writes, 2, none, [])
theorem k_X12_writes : fMk z_X12_writes 1 := ⟨⟨List.mem_of_getElem? (i := 1808) (by decide +kernel), by decide +kernel⟩, List.mem_of_getElem? (i := 78) (by decide +kernel), ⟨by decide +kernel, by decide +kernel⟩, by decide +kernel, by decide +kernel, by decide +kernel⟩
theorem im_X12_writes : Cond.instanceMethod yX12_writes ∈ lw_tbl := List.mem_of_getElem? (i := 1807) (by decide +kernel)
theorem se_X12_writes : Cond.selects RX12 yX12_writes yX12_writes ∈ lw_tbl := List.mem_of_getElem? (i := 57) (by decide +kernel)
def z_X12_writeRaws : fMi := (yX12_writeRaws, cX12_writeRaws, 3, some .int, [])
theorem k_X12_writeRaws : fMk z_X12_writeRaws 0 := ⟨⟨List.mem_of_getElem? (i := 1812) (by decide +kernel), by decide +kernel⟩, List.mem_of_getElem? (i := 78) (by decide +kernel), ⟨by decide +kernel, by decide +kernel⟩, by decide +kernel, by decide +kernel, by decide +kernel⟩
theorem im_X12_writeRaws : Cond.instanceMethod yX12_writeRaws ∈ lw_tbl := List.mem_of_getElem? (i := 1810) (by decide +kernel)
theorem se_X12_writeRaws : Cond.selects RX12 yX12_writeRaws yX12_writeRaws ∈ lw_tbl := List.mem_of_getElem? (i := 1811) (by decide +kernel)
def z_X12_lineAt : fMi := (yX12_lineAt, cX12_lineAt, 2, some .char, [])
theorem k_X12_lineAt : fMk z_X12_lineAt 1 := ⟨⟨List.mem_of_getElem? (i := 1816) (by decide +kernel), by decide +kernel⟩, List.mem_of_getElem? (i := 78) (by decide +kernel), ⟨by decide +kernel, by decide +kernel⟩, by decide +kernel, by decide +kernel, by decide +kernel⟩
theorem im_X12_lineAt : Cond.instanceMethod yX12_lineAt ∈ lw_tbl := List.mem_of_getElem? (i := 1814) (by decide +kernel)
theorem se_X12_lineAt : Cond.selects RX12 yX12_lineAt yX12_lineAt ∈ lw_tbl := List.mem_of_getElem? (i := 1815) (by decide +kernel)
def z_X12_isConsistent : fMi := (yX12_isConsistent, cX12_isConsistent, 1, some .boolean, [])
theorem k_X12_isConsistent : fMk z_X12_isConsistent 0 := ⟨⟨List.mem_of_getElem? (i := 1820) (by decide +kernel), by decide +kernel⟩, List.mem_of_getElem? (i := 78) (by decide +kernel), ⟨by decide +kernel, by decide +kernel⟩, by decide +kernel, by decide +kernel, by decide +kernel⟩
theorem im_X12_isConsistent : Cond.instanceMethod yX12_isConsistent ∈ lw_tbl := List.mem_of_getElem? (i := 1818) (by decide +kernel)
theorem se_X12_isConsistent : Cond.selects RX12 yX12_isConsistent yX12_isConsistent ∈ lw_tbl := List.mem_of_getElem? (i := 1819) (by decide +kernel)
def z_X12_type : fMi := (yX12_type, cX12_type, 2, some .int, [])
theorem k_X12_type : fMk z_X12_type 1 := ⟨⟨List.mem_of_getElem? (i := 1824) (by decide +kernel), by decide +kernel⟩, List.mem_of_getElem? (i := 78) (by decide +kernel), ⟨by decide +kernel, by decide +kernel⟩, by decide +kernel, by decide +kernel, by decide +kernel⟩
theorem im_X12_type : Cond.instanceMethod yX12_type ∈ lw_tbl := List.mem_of_getElem? (i := 1822) (by decide +kernel)
theorem se_X12_type : Cond.selects RX12 yX12_type yX12_type ∈ lw_tbl := List.mem_of_getElem? (i := 1823) (by decide +kernel)
def z_X12_clearText : fMi := (yX12_clearText, cX12_clearText, 2, some .int, [])
theorem k_X12_clearText : fMk z_X12_clearText 0 := ⟨⟨List.mem_of_getElem? (i := 1828) (by decide +kernel), by decide +kernel⟩, List.mem_of_getElem? (i := 78) (by decide +kernel), ⟨by decide +kernel, by decide +kernel⟩, by decide +kernel, by decide +kernel, by decide +kernel⟩
theorem im_X12_clearText : Cond.instanceMethod yX12_clearText ∈ lw_tbl := List.mem_of_getElem? (i := 1826) (by decide +kernel)
theorem se_X12_clearText : Cond.selects RX12 yX12_clearText yX12_clearText ∈ lw_tbl := List.mem_of_getElem? (i := 1827) (by decide +kernel)
def z_X12_execute : fMi := (yX12_execute, cX12_execute, 4, some .int, [])
theorem k_X12_execute : fMk z_X12_execute 0 := ⟨⟨List.mem_of_getElem? (i := 1832) (by decide +kernel), by decide +kernel⟩, List.mem_of_getElem? (i := 78) (by decide +kernel), ⟨by decide +kernel, by decide +kernel⟩, by decide +kernel, by decide +kernel, by decide +kernel⟩
theorem im_X12_execute : Cond.instanceMethod yX12_execute ∈ lw_tbl := List.mem_of_getElem? (i := 1830) (by decide +kernel)
theorem se_X12_execute : Cond.selects RX12 yX12_execute yX12_execute ∈ lw_tbl := List.mem_of_getElem? (i := 1831) (by decide +kernel)
def z_X12_isText : fMi := (yX12_isText, cX12_isText, 1, some .boolean, [])
theorem k_X12_isText : fMk z_X12_isText 0 := ⟨⟨List.mem_of_getElem? (i := 1836) (by decide +kernel), by decide +kernel⟩, List.mem_of_getElem? (i := 78) (by decide +kernel), ⟨by decide +kernel, by decide +kernel⟩, by decide +kernel, by decide +kernel, by decide +kernel⟩
theorem im_X12_isText : Cond.instanceMethod yX12_isText ∈ lw_tbl := List.mem_of_getElem? (i := 1835) (by decide +kernel)
theorem se_X12_isText : Cond.selects RX12 yX12_isText yX12_isText ∈ lw_tbl := List.mem_of_getElem? (i := 58) (by decide +kernel)
def z_X12_commandHere : fMi := (yX12_commandHere, cX12_commandHere, 2, some .boolean, [])
theorem k_X12_commandHere : fMk z_X12_commandHere 0 := ⟨⟨List.mem_of_getElem? (i := 1840) (by decide +kernel), by decide +kernel⟩, List.mem_of_getElem? (i := 78) (by decide +kernel), ⟨by decide +kernel, by decide +kernel⟩, by decide +kernel, by decide +kernel, by decide +kernel⟩
theorem im_X12_commandHere : Cond.instanceMethod yX12_commandHere ∈ lw_tbl := List.mem_of_getElem? (i := 1839) (by decide +kernel)
theorem se_X12_commandHere : Cond.selects RX12 yX12_commandHere yX12_commandHere ∈ lw_tbl := List.mem_of_getElem? (i := 59) (by decide +kernel)
def z_X12_skips : fMi := (yX12_skips, cX12_skips, 2, some .boolean, [])
theorem k_X12_skips : fMk z_X12_skips 1 := ⟨⟨List.mem_of_getElem? (i := 1844) (by decide +kernel), by decide +kernel⟩, List.mem_of_getElem? (i := 78) (by decide +kernel), ⟨by decide +kernel, by decide +kernel⟩, by decide +kernel, by decide +kernel, by decide +kernel⟩
theorem im_X12_skips : Cond.instanceMethod yX12_skips ∈ lw_tbl := List.mem_of_getElem? (i := 1843) (by decide +kernel)
theorem se_X12_skips : Cond.selects RX12 yX12_skips yX12_skips ∈ lw_tbl := List.mem_of_getElem? (i := 60) (by decide +kernel)
def z_X12_here : fMi := (yX12_here, cX12_here, 1, some .int, [])
theorem k_X12_here : fMk z_X12_here 0 := ⟨⟨List.mem_of_getElem? (i := 1848) (by decide +kernel), by decide +kernel⟩, List.mem_of_getElem? (i := 78) (by decide +kernel), ⟨by decide +kernel, by decide +kernel⟩, by decide +kernel, by decide +kernel, by decide +kernel⟩
theorem im_X12_here : Cond.instanceMethod yX12_here ∈ lw_tbl := List.mem_of_getElem? (i := 1847) (by decide +kernel)
theorem se_X12_here : Cond.selects RX12 yX12_here yX12_here ∈ lw_tbl := List.mem_of_getElem? (i := 61) (by decide +kernel)
def z_X12_isWord : fMi := (yX12_isWord, cX12_isWord, 4, some .boolean, [])
theorem k_X12_isWord : fMk z_X12_isWord 2 := ⟨⟨List.mem_of_getElem? (i := 1853) (by decide +kernel), by decide +kernel⟩, List.mem_of_getElem? (i := 78) (by decide +kernel), ⟨by decide +kernel, by decide +kernel⟩, by decide +kernel, by decide +kernel, by decide +kernel⟩
theorem im_X12_isWord : Cond.instanceMethod yX12_isWord ∈ lw_tbl := List.mem_of_getElem? (i := 1852) (by decide +kernel)
theorem se_X12_isWord : Cond.selects RX12 yX12_isWord yX12_isWord ∈ lw_tbl := List.mem_of_getElem? (i := 62) (by decide +kernel)
def z_X12_figures : fMi := (yX12_figures, cX12_figures, 4, some .boolean, [])
theorem k_X12_figures : fMk z_X12_figures 2 := ⟨⟨List.mem_of_getElem? (i := 1859) (by decide +kernel), by decide +kernel⟩, List.mem_of_getElem? (i := 78) (by decide +kernel), ⟨by decide +kernel, by decide +kernel⟩, by decide +kernel, by decide +kernel, by decide +kernel⟩
theorem im_X12_figures : Cond.instanceMethod yX12_figures ∈ lw_tbl := List.mem_of_getElem? (i := 1858) (by decide +kernel)
theorem se_X12_figures : Cond.selects RX12 yX12_figures yX12_figures ∈ lw_tbl := List.mem_of_getElem? (i := 63) (by decide +kernel)
def z_X12_carries : fMi := (yX12_carries, cX12_carries, 4, some .int, [])
theorem k_X12_carries : fMk z_X12_carries 1 := ⟨⟨List.mem_of_getElem? (i := 1868) (by decide +kernel), by decide +kernel⟩, List.mem_of_getElem? (i := 78) (by decide +kernel), ⟨by decide +kernel, by decide +kernel⟩, by decide +kernel, by decide +kernel, by decide +kernel⟩
theorem im_X12_carries : Cond.instanceMethod yX12_carries ∈ lw_tbl := List.mem_of_getElem? (i := 1867) (by decide +kernel)
theorem se_X12_carries : Cond.selects RX12 yX12_carries yX12_carries ∈ lw_tbl := List.mem_of_getElem? (i := 64) (by decide +kernel)
def z_X12_errorPosition : fMi := (yX12_errorPosition, cX12_errorPosition, 1, some .int, [])
theorem k_X12_errorPosition : fMk z_X12_errorPosition 0 := ⟨⟨List.mem_of_getElem? (i := 1878) (by decide +kernel), by decide +kernel⟩, List.mem_of_getElem? (i := 78) (by decide +kernel), ⟨by decide +kernel, by decide +kernel⟩, by decide +kernel, by decide +kernel, by decide +kernel⟩
theorem im_X12_errorPosition : Cond.instanceMethod yX12_errorPosition ∈ lw_tbl := List.mem_of_getElem? (i := 1876) (by decide +kernel)
theorem se_X12_errorPosition : Cond.selects RX12 yX12_errorPosition yX12_errorPosition ∈ lw_tbl := List.mem_of_getElem? (i := 1877) (by decide +kernel)
def z_X12_failedCommand : fMi := (yX12_failedCommand, cX12_failedCommand, 1, some .int, [])
theorem k_X12_failedCommand : fMk z_X12_failedCommand 0 := ⟨⟨List.mem_of_getElem? (i := 1882) (by decide +kernel), by decide +kernel⟩, List.mem_of_getElem? (i := 78) (by decide +kernel), ⟨by decide +kernel, by decide +kernel⟩, by decide +kernel, by decide +kernel, by decide +kernel⟩
theorem im_X12_failedCommand : Cond.instanceMethod yX12_failedCommand ∈ lw_tbl := List.mem_of_getElem? (i := 1880) (by decide +kernel)
theorem se_X12_failedCommand : Cond.selects RX12 yX12_failedCommand yX12_failedCommand ∈ lw_tbl := List.mem_of_getElem? (i := 1881) (by decide +kernel)
def z_X12_undo : fMi := (yX12_undo, cX12_undo, 1, some .int, [])
theorem k_X12_undo : fMk z_X12_undo 0 := ⟨⟨List.mem_of_getElem? (i := 1886) (by decide +kernel), by decide +kernel⟩, List.mem_of_getElem? (i := 78) (by decide +kernel), ⟨by decide +kernel, by decide +kernel⟩, by decide +kernel, by decide +kernel, by decide +kernel⟩
theorem im_X12_undo : Cond.instanceMethod yX12_undo ∈ lw_tbl := List.mem_of_getElem? (i := 1884) (by decide +kernel)
theorem se_X12_undo : Cond.selects RX12 yX12_undo yX12_undo ∈ lw_tbl := List.mem_of_getElem? (i := 1885) (by decide +kernel)
def z_X12_save : fMi := (yX12_save, cX12_save, 1, some .int, [])
theorem k_X12_save : fMk z_X12_save 0 := ⟨⟨List.mem_of_getElem? (i := 1890) (by decide +kernel), by decide +kernel⟩, List.mem_of_getElem? (i := 78) (by decide +kernel), ⟨by decide +kernel, by decide +kernel⟩, by decide +kernel, by decide +kernel, by decide +kernel⟩
theorem im_X12_save : Cond.instanceMethod yX12_save ∈ lw_tbl := List.mem_of_getElem? (i := 1888) (by decide +kernel)
theorem se_X12_save : Cond.selects RX12 yX12_save yX12_save ∈ lw_tbl := List.mem_of_getElem? (i := 1889) (by decide +kernel)
def z_X12_restore : fMi := (yX12_restore, cX12_restore, 1, some .int, [])
theorem k_X12_restore : fMk z_X12_restore 0 := ⟨⟨List.mem_of_getElem? (i := 1894) (by decide +kernel), by decide +kernel⟩, List.mem_of_getElem? (i := 78) (by decide +kernel), ⟨by decide +kernel, by decide +kernel⟩, by decide +kernel, by decide +kernel, by decide +kernel⟩
theorem im_X12_restore : Cond.instanceMethod yX12_restore ∈ lw_tbl := List.mem_of_getElem? (i := 1892) (by decide +kernel)
theorem se_X12_restore : Cond.selects RX12 yX12_restore yX12_restore ∈ lw_tbl := List.mem_of_getElem? (i := 1893) (by decide +kernel)
theorem ml_L_149 : Cond.methodLink RL 149 yX11_init ∈ lw_tbl := List.mem_of_getElem? (i := 98) (by decide +kernel)
theorem ml_X11_9 : Cond.methodLinkNest RX11 9 yX8_init "JarCannery" ∈ lw_tbl := List.mem_of_getElem? (i := 106) (by decide +kernel)
theorem ml_X8_11 : Cond.methodLinkNest RX8 11 yX0_init "JarCannery" ∈ lw_tbl := List.mem_of_getElem? (i := 112) (by decide +kernel)
theorem ml_X0_11 : Cond.methodLink RX0 11 yX7_init ∈ lw_tbl := List.mem_of_getElem? (i := 118) (by decide +kernel)
theorem fl_X7_13 : fFd RX7 13 7 0 (.array .int) true false := ⟨RX7, TX7, 1, rfl, by decide, rfl, by decide +kernel, rfl, List.mem_of_getElem? (i := 125) (by decide +kernel)⟩
theorem fl_X0_14 : fFd RX0 14 0 0 (.object "JarCannery$Row") true false := ⟨RX0, TX0, 5, rfl, by decide, rfl, by decide +kernel, rfl, List.mem_of_getElem? (i := 130) (by decide +kernel)⟩
theorem fl_X11_129 : fFd RX11 129 0 0 (.object "JarCannery$Row") true true := ⟨RX0, TX0, 5, rfl, by decide, rfl, by decide +kernel, rfl, List.mem_of_getElem? (i := 131) (by decide +kernel)⟩
theorem fl_X8_140 : fFd RX8 140 0 0 (.object "JarCannery$Row") true true := ⟨RX0, TX0, 5, rfl, by decide, rfl, by decide +kernel, rfl, List.mem_of_getElem? (i := 132) (by decide +kernel)⟩
theorem fl_X0_20 : fFd RX0 20 0 1 (.object "JarCannery$Row") true false := ⟨RX0, TX0, 5, rfl, by decide, rfl, by decide +kernel, rfl, List.mem_of_getElem? (i := 133) (by decide +kernel)⟩
theorem fl_X11_119 : fFd RX11 119 0 1 (.object "JarCannery$Row") true true := ⟨RX0, TX0, 5, rfl, by decide, rfl, by decide +kernel, rfl, List.mem_of_getElem? (i := 134) (by decide +kernel)⟩
theorem fl_X8_131 : fFd RX8 131 0 1 (.object "JarCannery$Row") true true := ⟨RX0, TX0, 5, rfl, by decide, rfl, by decide +kernel, rfl, List.mem_of_getElem? (i := 135) (by decide +kernel)⟩
theorem fl_X0_23 : fFd RX0 23 0 2 .int false false := ⟨RX0, TX0, 5, rfl, by decide, rfl, by decide +kernel, rfl, List.mem_of_getElem? (i := 136) (by decide +kernel)⟩
theorem fl_X8_48 : fFd RX8 48 0 2 .int false true := ⟨RX0, TX0, 5, rfl, by decide, rfl, by decide +kernel, rfl, List.mem_of_getElem? (i := 137) (by decide +kernel)⟩
theorem fl_X9_15 : fFd RX9 15 0 2 .int false true := ⟨RX0, TX0, 5, rfl, by decide, rfl, by decide +kernel, rfl, List.mem_of_getElem? (i := 138) (by decide +kernel)⟩
theorem fl_X11_103 : fFd RX11 103 0 2 .int false true := ⟨RX0, TX0, 5, rfl, by decide, rfl, by decide +kernel, rfl, List.mem_of_getElem? (i := 139) (by decide +kernel)⟩
theorem fl_X0_27 : fFd RX0 27 0 3 .int false false := ⟨RX0, TX0, 5, rfl, by decide, rfl, by decide +kernel, rfl, List.mem_of_getElem? (i := 140) (by decide +kernel)⟩
theorem fl_X8_58 : fFd RX8 58 0 3 .int false true := ⟨RX0, TX0, 5, rfl, by decide, rfl, by decide +kernel, rfl, List.mem_of_getElem? (i := 141) (by decide +kernel)⟩
theorem fl_X0_30 : fFd RX0 30 0 4 .int false false := ⟨RX0, TX0, 5, rfl, by decide, rfl, by decide +kernel, rfl, List.mem_of_getElem? (i := 142) (by decide +kernel)⟩
theorem fl_X8_55 : fFd RX8 55 0 4 .int false true := ⟨RX0, TX0, 5, rfl, by decide, rfl, by decide +kernel, rfl, List.mem_of_getElem? (i := 143) (by decide +kernel)⟩
theorem fl_X11_106 : fFd RX11 106 0 4 .int false true := ⟨RX0, TX0, 5, rfl, by decide, rfl, by decide +kernel, rfl, List.mem_of_getElem? (i := 144) (by decide +kernel)⟩
theorem ml_X8_20 : Cond.methodLinkNest RX8 20 yX6_init "JarCannery" ∈ lw_tbl := List.mem_of_getElem? (i := 158) (by decide +kernel)
theorem ml_X6_11 : Cond.methodLink RX6 11 yX7_init ∈ lw_tbl := List.mem_of_getElem? (i := 163) (by decide +kernel)
theorem fl_X6_14 : fFd RX6 14 6 0 (.object "JarCannery$Row") true false := ⟨RX6, TX6, 3, rfl, by decide, rfl, by decide +kernel, rfl, List.mem_of_getElem? (i := 164) (by decide +kernel)⟩
theorem fl_X11_159 : fFd RX11 159 6 0 (.object "JarCannery$Row") true true := ⟨RX6, TX6, 3, rfl, by decide, rfl, by decide +kernel, rfl, List.mem_of_getElem? (i := 165) (by decide +kernel)⟩
theorem fl_X6_20 : fFd RX6 20 6 1 (.object "JarCannery$Row") true false := ⟨RX6, TX6, 3, rfl, by decide, rfl, by decide +kernel, rfl, List.mem_of_getElem? (i := 166) (by decide +kernel)⟩
theorem fl_X6_23 : fFd RX6 23 6 2 .int false false := ⟨RX6, TX6, 3, rfl, by decide, rfl, by decide +kernel, rfl, List.mem_of_getElem? (i := 167) (by decide +kernel)⟩
theorem fl_X8_66 : fFd RX8 66 6 2 .int false true := ⟨RX6, TX6, 3, rfl, by decide, rfl, by decide +kernel, rfl, List.mem_of_getElem? (i := 168) (by decide +kernel)⟩
theorem fl_X11_153 : fFd RX11 153 6 2 .int false true := ⟨RX6, TX6, 3, rfl, by decide, rfl, by decide +kernel, rfl, List.mem_of_getElem? (i := 169) (by decide +kernel)⟩
theorem ml_X8_27 : Cond.methodLinkNest RX8 27 yX5_init "JarCannery" ∈ lw_tbl := List.mem_of_getElem? (i := 179) (by decide +kernel)
theorem ml_X5_11 : Cond.methodLink RX5 11 yX7_init ∈ lw_tbl := List.mem_of_getElem? (i := 184) (by decide +kernel)
theorem fl_X5_14 : fFd RX5 14 5 0 (.object "JarCannery$Row") true false := ⟨RX5, TX5, 8, rfl, by decide, rfl, by decide +kernel, rfl, List.mem_of_getElem? (i := 185) (by decide +kernel)⟩
theorem fl_X11_225 : fFd RX11 225 5 0 (.object "JarCannery$Row") true true := ⟨RX5, TX5, 8, rfl, by decide, rfl, by decide +kernel, rfl, List.mem_of_getElem? (i := 186) (by decide +kernel)⟩
theorem fl_X5_20 : fFd RX5 20 5 1 (.object "JarCannery$Row") true false := ⟨RX5, TX5, 8, rfl, by decide, rfl, by decide +kernel, rfl, List.mem_of_getElem? (i := 187) (by decide +kernel)⟩
theorem fl_X8_134 : fFd RX8 134 5 1 (.object "JarCannery$Row") true true := ⟨RX5, TX5, 8, rfl, by decide, rfl, by decide +kernel, rfl, List.mem_of_getElem? (i := 188) (by decide +kernel)⟩
theorem fl_X5_23 : fFd RX5 23 5 2 (.object "JarCannery$Row") true false := ⟨RX5, TX5, 8, rfl, by decide, rfl, by decide +kernel, rfl, List.mem_of_getElem? (i := 189) (by decide +kernel)⟩
theorem fl_X8_137 : fFd RX8 137 5 2 (.object "JarCannery$Row") true true := ⟨RX5, TX5, 8, rfl, by decide, rfl, by decide +kernel, rfl, List.mem_of_getElem? (i := 190) (by decide +kernel)⟩
theorem fl_X5_26 : fFd RX5 26 5 3 (.object "JarCannery$Row") true false := ⟨RX5, TX5, 8, rfl, by decide, rfl, by decide +kernel, rfl, List.mem_of_getElem? (i := 191) (by decide +kernel)⟩
theorem fl_X11_234 : fFd RX11 234 5 3 (.object "JarCannery$Row") true true := ⟨RX5, TX5, 8, rfl, by decide, rfl, by decide +kernel, rfl, List.mem_of_getElem? (i := 192) (by decide +kernel)⟩
theorem fl_X5_29 : fFd RX5 29 5 4 (.object "JarCannery$Row") true false := ⟨RX5, TX5, 8, rfl, by decide, rfl, by decide +kernel, rfl, List.mem_of_getElem? (i := 193) (by decide +kernel)⟩
theorem fl_X2_48 : fFd RX2 48 5 4 (.object "JarCannery$Row") true true := ⟨RX5, TX5, 8, rfl, by decide, rfl, by decide +kernel, rfl, List.mem_of_getElem? (i := 194) (by decide +kernel)⟩
theorem fl_X11_228 : fFd RX11 228 5 4 (.object "JarCannery$Row") true true := ⟨RX5, TX5, 8, rfl, by decide, rfl, by decide +kernel, rfl, List.mem_of_getElem? (i := 195) (by decide +kernel)⟩
theorem fl_X5_32 : fFd RX5 32 5 5 (.object "JarCannery$Row") true false := ⟨RX5, TX5, 8, rfl, by decide, rfl, by decide +kernel, rfl, List.mem_of_getElem? (i := 196) (by decide +kernel)⟩
theorem fl_X8_98 : fFd RX8 98 5 5 (.object "JarCannery$Row") true true := ⟨RX5, TX5, 8, rfl, by decide, rfl, by decide +kernel, rfl, List.mem_of_getElem? (i := 197) (by decide +kernel)⟩
theorem fl_X11_239 : fFd RX11 239 5 5 (.object "JarCannery$Row") true true := ⟨RX5, TX5, 8, rfl, by decide, rfl, by decide +kernel, rfl, List.mem_of_getElem? (i := 198) (by decide +kernel)⟩
theorem fl_X5_35 : fFd RX5 35 5 6 .int false false := ⟨RX5, TX5, 8, rfl, by decide, rfl, by decide +kernel, rfl, List.mem_of_getElem? (i := 199) (by decide +kernel)⟩
theorem fl_X2_26 : fFd RX2 26 5 6 .int false true := ⟨RX5, TX5, 8, rfl, by decide, rfl, by decide +kernel, rfl, List.mem_of_getElem? (i := 200) (by decide +kernel)⟩
theorem fl_X9_37 : fFd RX9 37 5 6 .int false true := ⟨RX5, TX5, 8, rfl, by decide, rfl, by decide +kernel, rfl, List.mem_of_getElem? (i := 201) (by decide +kernel)⟩
theorem fl_X8_79 : fFd RX8 79 5 6 .int false true := ⟨RX5, TX5, 8, rfl, by decide, rfl, by decide +kernel, rfl, List.mem_of_getElem? (i := 202) (by decide +kernel)⟩
theorem fl_X11_220 : fFd RX11 220 5 6 .int false true := ⟨RX5, TX5, 8, rfl, by decide, rfl, by decide +kernel, rfl, List.mem_of_getElem? (i := 203) (by decide +kernel)⟩
theorem fl_X5_39 : fFd RX5 39 5 7 .int false false := ⟨RX5, TX5, 8, rfl, by decide, rfl, by decide +kernel, rfl, List.mem_of_getElem? (i := 204) (by decide +kernel)⟩
theorem fl_X8_12 : fFd RX8 12 8 0 (.object "JarCannery$Brine") true false := ⟨RX8, TX8, 8, rfl, by decide, rfl, by decide +kernel, rfl, List.mem_of_getElem? (i := 222) (by decide +kernel)⟩
theorem fl_X9_9 : fFd RX9 9 8 0 (.object "JarCannery$Brine") true true := ⟨RX8, TX8, 8, rfl, by decide, rfl, by decide +kernel, rfl, List.mem_of_getElem? (i := 223) (by decide +kernel)⟩
theorem fl_X11_87 : fFd RX11 87 8 0 (.object "JarCannery$Brine") true true := ⟨RX8, TX8, 8, rfl, by decide, rfl, by decide +kernel, rfl, List.mem_of_getElem? (i := 224) (by decide +kernel)⟩
theorem fl_X8_21 : fFd RX8 21 8 1 (.object "JarCannery$Labels") true false := ⟨RX8, TX8, 8, rfl, by decide, rfl, by decide +kernel, rfl, List.mem_of_getElem? (i := 225) (by decide +kernel)⟩
theorem fl_X11_140 : fFd RX11 140 8 1 (.object "JarCannery$Labels") true true := ⟨RX8, TX8, 8, rfl, by decide, rfl, by decide +kernel, rfl, List.mem_of_getElem? (i := 226) (by decide +kernel)⟩
theorem fl_X8_28 : fFd RX8 28 8 2 (.object "JarCannery$JarLots") true false := ⟨RX8, TX8, 8, rfl, by decide, rfl, by decide +kernel, rfl, List.mem_of_getElem? (i := 227) (by decide +kernel)⟩
theorem fl_X9_33 : fFd RX9 33 8 2 (.object "JarCannery$JarLots") true true := ⟨RX8, TX8, 8, rfl, by decide, rfl, by decide +kernel, rfl, List.mem_of_getElem? (i := 228) (by decide +kernel)⟩
theorem fl_X11_216 : fFd RX11 216 8 2 (.object "JarCannery$JarLots") true true := ⟨RX8, TX8, 8, rfl, by decide, rfl, by decide +kernel, rfl, List.mem_of_getElem? (i := 229) (by decide +kernel)⟩
theorem fl_X8_32 : fFd RX8 32 8 3 .int false false := ⟨RX8, TX8, 8, rfl, by decide, rfl, by decide +kernel, rfl, List.mem_of_getElem? (i := 230) (by decide +kernel)⟩
theorem fl_X11_286 : fFd RX11 286 8 3 .int false true := ⟨RX8, TX8, 8, rfl, by decide, rfl, by decide +kernel, rfl, List.mem_of_getElem? (i := 231) (by decide +kernel)⟩
theorem fl_X8_36 : fFd RX8 36 8 4 .int false false := ⟨RX8, TX8, 8, rfl, by decide, rfl, by decide +kernel, rfl, List.mem_of_getElem? (i := 232) (by decide +kernel)⟩
theorem fl_X11_289 : fFd RX11 289 8 4 .int false true := ⟨RX8, TX8, 8, rfl, by decide, rfl, by decide +kernel, rfl, List.mem_of_getElem? (i := 233) (by decide +kernel)⟩
theorem fl_X8_39 : fFd RX8 39 8 5 .int false false := ⟨RX8, TX8, 8, rfl, by decide, rfl, by decide +kernel, rfl, List.mem_of_getElem? (i := 234) (by decide +kernel)⟩
theorem fl_X11_296 : fFd RX11 296 8 5 .int false true := ⟨RX8, TX8, 8, rfl, by decide, rfl, by decide +kernel, rfl, List.mem_of_getElem? (i := 235) (by decide +kernel)⟩
theorem fl_X8_42 : fFd RX8 42 8 6 .int false false := ⟨RX8, TX8, 8, rfl, by decide, rfl, by decide +kernel, rfl, List.mem_of_getElem? (i := 236) (by decide +kernel)⟩
theorem fl_X11_299 : fFd RX11 299 8 6 .int false true := ⟨RX8, TX8, 8, rfl, by decide, rfl, by decide +kernel, rfl, List.mem_of_getElem? (i := 237) (by decide +kernel)⟩
theorem fl_X8_45 : fFd RX8 45 8 7 .int false false := ⟨RX8, TX8, 8, rfl, by decide, rfl, by decide +kernel, rfl, List.mem_of_getElem? (i := 238) (by decide +kernel)⟩
theorem fl_X11_302 : fFd RX11 302 8 7 .int false true := ⟨RX8, TX8, 8, rfl, by decide, rfl, by decide +kernel, rfl, List.mem_of_getElem? (i := 239) (by decide +kernel)⟩
theorem ml_X11_24 : Cond.methodLink RX11 24 yX4_init ∈ lw_tbl := List.mem_of_getElem? (i := 259) (by decide +kernel)
theorem ml_X4_24 : Cond.methodLinkNest RX4 24 yX8_init "JarCannery" ∈ lw_tbl := List.mem_of_getElem? (i := 265) (by decide +kernel)
theorem fl_X4_11 : fFd RX4 11 4 0 (.array (.object "JarCannery$State")) true false := ⟨RX4, TX4, 3, rfl, by decide, rfl, by decide +kernel, rfl, List.mem_of_getElem? (i := 266) (by decide +kernel)⟩
theorem fl_X4_17 : fFd RX4 17 4 1 .int false false := ⟨RX4, TX4, 3, rfl, by decide, rfl, by decide +kernel, rfl, List.mem_of_getElem? (i := 267) (by decide +kernel)⟩
theorem fl_X4_21 : fFd RX4 21 4 2 .int false false := ⟨RX4, TX4, 3, rfl, by decide, rfl, by decide +kernel, rfl, List.mem_of_getElem? (i := 268) (by decide +kernel)⟩
theorem fl_X11_377 : fFd RX11 377 4 2 .int false true := ⟨RX4, TX4, 3, rfl, by decide, rfl, by decide +kernel, rfl, List.mem_of_getElem? (i := 269) (by decide +kernel)⟩
theorem ml_X11_31 : Cond.methodLink RX11 31 yX10_init ∈ lw_tbl := List.mem_of_getElem? (i := 279) (by decide +kernel)
theorem ml_X10_18 : Cond.methodLink RX10 18 yX7_init ∈ lw_tbl := List.mem_of_getElem? (i := 284) (by decide +kernel)
theorem fl_X10_13 : fFd RX10 13 9 0 .int true false := ⟨RX10, TX10, 3, rfl, by decide, rfl, by decide +kernel, rfl, List.mem_of_getElem? (i := 285) (by decide +kernel)⟩
theorem fl_X10_21 : fFd RX10 21 9 1 (.object "JarCannery$Row") true false := ⟨RX10, TX10, 3, rfl, by decide, rfl, by decide +kernel, rfl, List.mem_of_getElem? (i := 286) (by decide +kernel)⟩
theorem fl_X10_7 : fFd RX10 7 9 2 .int false false := ⟨RX10, TX10, 3, rfl, by decide, rfl, by decide +kernel, rfl, List.mem_of_getElem? (i := 287) (by decide +kernel)⟩
theorem fl_X3_23 : fFd RX3 23 9 2 .int false true := ⟨RX10, TX10, 3, rfl, by decide, rfl, by decide +kernel, rfl, List.mem_of_getElem? (i := 288) (by decide +kernel)⟩
theorem fl_X1_56 : fFd RX1 56 9 2 .int false true := ⟨RX10, TX10, 3, rfl, by decide, rfl, by decide +kernel, rfl, List.mem_of_getElem? (i := 289) (by decide +kernel)⟩
theorem fl_X6_45 : fFd RX6 45 9 2 .int false true := ⟨RX10, TX10, 3, rfl, by decide, rfl, by decide +kernel, rfl, List.mem_of_getElem? (i := 290) (by decide +kernel)⟩
theorem fl_X11_323 : fFd RX11 323 9 2 .int false true := ⟨RX10, TX10, 3, rfl, by decide, rfl, by decide +kernel, rfl, List.mem_of_getElem? (i := 291) (by decide +kernel)⟩
theorem ml_X11_46 : Cond.methodLinkNest RX11 46 yX1_init "JarCannery" ∈ lw_tbl := List.mem_of_getElem? (i := 301) (by decide +kernel)
theorem ml_X1_13 : Cond.methodLink RX1 13 yX10_init ∈ lw_tbl := List.mem_of_getElem? (i := 306) (by decide +kernel)
theorem ml_X1_22 : Cond.methodLink RX1 22 yX7_init ∈ lw_tbl := List.mem_of_getElem? (i := 308) (by decide +kernel)
theorem fl_X1_16 : fFd RX1 16 1 0 (.object "JarCannery$Text") true false := ⟨RX1, TX1, 6, rfl, by decide, rfl, by decide +kernel, rfl, List.mem_of_getElem? (i := 309) (by decide +kernel)⟩
theorem fl_X1_23 : fFd RX1 23 1 1 (.object "JarCannery$Row") true false := ⟨RX1, TX1, 6, rfl, by decide, rfl, by decide +kernel, rfl, List.mem_of_getElem? (i := 310) (by decide +kernel)⟩
theorem fl_X11_441 : fFd RX11 441 1 1 (.object "JarCannery$Row") true true := ⟨RX1, TX1, 6, rfl, by decide, rfl, by decide +kernel, rfl, List.mem_of_getElem? (i := 311) (by decide +kernel)⟩
theorem fl_X1_27 : fFd RX1 27 1 2 (.object "JarCannery$Row") true false := ⟨RX1, TX1, 6, rfl, by decide, rfl, by decide +kernel, rfl, List.mem_of_getElem? (i := 312) (by decide +kernel)⟩
theorem fl_X1_30 : fFd RX1 30 1 3 .int false false := ⟨RX1, TX1, 6, rfl, by decide, rfl, by decide +kernel, rfl, List.mem_of_getElem? (i := 313) (by decide +kernel)⟩
theorem fl_X11_372 : fFd RX11 372 1 3 .int false true := ⟨RX1, TX1, 6, rfl, by decide, rfl, by decide +kernel, rfl, List.mem_of_getElem? (i := 314) (by decide +kernel)⟩
theorem fl_X1_34 : fFd RX1 34 1 4 .int false false := ⟨RX1, TX1, 6, rfl, by decide, rfl, by decide +kernel, rfl, List.mem_of_getElem? (i := 315) (by decide +kernel)⟩
theorem fl_X1_37 : fFd RX1 37 1 5 .int false false := ⟨RX1, TX1, 6, rfl, by decide, rfl, by decide +kernel, rfl, List.mem_of_getElem? (i := 316) (by decide +kernel)⟩
theorem fl_X11_362 : fFd RX11 362 1 5 .int false true := ⟨RX1, TX1, 6, rfl, by decide, rfl, by decide +kernel, rfl, List.mem_of_getElem? (i := 317) (by decide +kernel)⟩
theorem ml_X11_53 : Cond.methodLinkNest RX11 53 yX3_init "JarCannery" ∈ lw_tbl := List.mem_of_getElem? (i := 333) (by decide +kernel)
theorem ml_X3_13 : Cond.methodLink RX3 13 yX7_init ∈ lw_tbl := List.mem_of_getElem? (i := 338) (by decide +kernel)
theorem fl_X3_16 : fFd RX3 16 3 0 (.object "JarCannery$Row") true false := ⟨RX3, TX3, 2, rfl, by decide, rfl, by decide +kernel, rfl, List.mem_of_getElem? (i := 339) (by decide +kernel)⟩
theorem fl_X3_20 : fFd RX3 20 3 1 (.object "JarCannery$Row") true false := ⟨RX3, TX3, 2, rfl, by decide, rfl, by decide +kernel, rfl, List.mem_of_getElem? (i := 340) (by decide +kernel)⟩
theorem ml_X11_60 : Cond.methodLinkNest RX11 60 yX2_init "JarCannery" ∈ lw_tbl := List.mem_of_getElem? (i := 348) (by decide +kernel)
theorem ml_X2_11 : Cond.methodLink RX2 11 yX7_init ∈ lw_tbl := List.mem_of_getElem? (i := 353) (by decide +kernel)
theorem fl_X2_14 : fFd RX2 14 2 0 (.object "JarCannery$Row") true false := ⟨RX2, TX2, 3, rfl, by decide, rfl, by decide +kernel, rfl, List.mem_of_getElem? (i := 354) (by decide +kernel)⟩
theorem fl_X2_20 : fFd RX2 20 2 1 (.object "JarCannery$Row") true false := ⟨RX2, TX2, 3, rfl, by decide, rfl, by decide +kernel, rfl, List.mem_of_getElem? (i := 355) (by decide +kernel)⟩
theorem fl_X2_23 : fFd RX2 23 2 2 (.object "JarCannery$Row") true false := ⟨RX2, TX2, 3, rfl, by decide, rfl, by decide +kernel, rfl, List.mem_of_getElem? (i := 356) (by decide +kernel)⟩
theorem fl_X11_10 : fFd RX11 10 10 0 (.object "JarCannery$State") true false := ⟨RX11, TX11, 13, rfl, by decide, rfl, by decide +kernel, rfl, List.mem_of_getElem? (i := 364) (by decide +kernel)⟩
theorem fl_X11_16 : fFd RX11 16 10 1 (.object "JarCannery$State") true false := ⟨RX11, TX11, 13, rfl, by decide, rfl, by decide +kernel, rfl, List.mem_of_getElem? (i := 365) (by decide +kernel)⟩
theorem fl_X11_19 : fFd RX11 19 10 2 (.object "JarCannery$State") true false := ⟨RX11, TX11, 13, rfl, by decide, rfl, by decide +kernel, rfl, List.mem_of_getElem? (i := 366) (by decide +kernel)⟩
theorem fl_X11_25 : fFd RX11 25 10 3 (.object "JarCannery$History") true false := ⟨RX11, TX11, 13, rfl, by decide, rfl, by decide +kernel, rfl, List.mem_of_getElem? (i := 367) (by decide +kernel)⟩
theorem fl_X11_34 : fFd RX11 34 10 4 (.object "JarCannery$Text") true false := ⟨RX11, TX11, 13, rfl, by decide, rfl, by decide +kernel, rfl, List.mem_of_getElem? (i := 368) (by decide +kernel)⟩
theorem fl_X11_38 : fFd RX11 38 10 5 (.object "JarCannery$Text") true false := ⟨RX11, TX11, 13, rfl, by decide, rfl, by decide +kernel, rfl, List.mem_of_getElem? (i := 369) (by decide +kernel)⟩
theorem fl_X11_41 : fFd RX11 41 10 6 (.object "JarCannery$Text") true false := ⟨RX11, TX11, 13, rfl, by decide, rfl, by decide +kernel, rfl, List.mem_of_getElem? (i := 370) (by decide +kernel)⟩
theorem fl_X11_47 : fFd RX11 47 10 7 (.object "JarCannery$CommandText") true false := ⟨RX11, TX11, 13, rfl, by decide, rfl, by decide +kernel, rfl, List.mem_of_getElem? (i := 371) (by decide +kernel)⟩
theorem fl_X11_54 : fFd RX11 54 10 8 (.object "JarCannery$Distances") true false := ⟨RX11, TX11, 13, rfl, by decide, rfl, by decide +kernel, rfl, List.mem_of_getElem? (i := 372) (by decide +kernel)⟩
theorem fl_X11_61 : fFd RX11 61 10 9 (.object "JarCannery$Crates") true false := ⟨RX11, TX11, 13, rfl, by decide, rfl, by decide +kernel, rfl, List.mem_of_getElem? (i := 373) (by decide +kernel)⟩
theorem fl_X11_65 : fFd RX11 65 10 10 .boolean false false := ⟨RX11, TX11, 13, rfl, by decide, rfl, by decide +kernel, rfl, List.mem_of_getElem? (i := 374) (by decide +kernel)⟩
theorem fl_X11_69 : fFd RX11 69 10 11 .int false false := ⟨RX11, TX11, 13, rfl, by decide, rfl, by decide +kernel, rfl, List.mem_of_getElem? (i := 375) (by decide +kernel)⟩
theorem fl_X11_73 : fFd RX11 73 10 12 .int false false := ⟨RX11, TX11, 13, rfl, by decide, rfl, by decide +kernel, rfl, List.mem_of_getElem? (i := 376) (by decide +kernel)⟩
theorem ml_L_166 : Cond.methodLink RL 166 yX11_rawCount ∈ lw_tbl := List.mem_of_getElem? (i := 404) (by decide +kernel)
theorem ml_L_170 : Cond.methodLink RL 170 yX11_batchCount ∈ lw_tbl := List.mem_of_getElem? (i := 408) (by decide +kernel)
theorem ml_L_187 : Cond.methodLink RL 187 yX11_labelCount ∈ lw_tbl := List.mem_of_getElem? (i := 412) (by decide +kernel)
theorem ml_L_219 : Cond.methodLink RL 219 yX11_lotCount ∈ lw_tbl := List.mem_of_getElem? (i := 416) (by decide +kernel)
theorem ml_L_262 : Cond.methodLink RL 262 yX11_fewestTests ∈ lw_tbl := List.mem_of_getElem? (i := 420) (by decide +kernel)
theorem ml_X11_272 : Cond.methodLink RX11 272 yX9_best ∈ lw_tbl := List.mem_of_getElem? (i := 424) (by decide +kernel)
theorem ml_X9_27 : Cond.methodLink RX9 27 yX9_firstUntested ∈ lw_tbl := List.mem_of_getElem? (i := 433) (by decide +kernel)
theorem ml_X9_42 : Cond.methodLink RX9 42 yX8_rawsAt ∈ lw_tbl := List.mem_of_getElem? (i := 436) (by decide +kernel)
theorem ml_X8_102 : Cond.methodLink RX8 102 yX7_get ∈ lw_tbl := List.mem_of_getElem? (i := 440) (by decide +kernel)
theorem ml_L_266 : Cond.methodLink RL 266 yX11_fewestTestsByBranching ∈ lw_tbl := List.mem_of_getElem? (i := 445) (by decide +kernel)
theorem ml_X11_283 : Cond.methodLink RX11 283 yX9_fewestByBranching ∈ lw_tbl := List.mem_of_getElem? (i := 449) (by decide +kernel)
theorem ml_X9_45 : Cond.methodLink RX9 45 yX9_branch ∈ lw_tbl := List.mem_of_getElem? (i := 452) (by decide +kernel)
theorem ml_X9_49 : Cond.methodLinkNest RX9 49 yX11_setHas "JarCannery" ∈ lw_tbl := List.mem_of_getElem? (i := 455) (by decide +kernel)
theorem ml_L_273 : Cond.methodLink RL 273 yX11_dayCount ∈ lw_tbl := List.mem_of_getElem? (i := 461) (by decide +kernel)
theorem ml_L_277 : Cond.methodLink RL 277 yX11_filled ∈ lw_tbl := List.mem_of_getElem? (i := 465) (by decide +kernel)
theorem ml_L_281 : Cond.methodLink RL 281 yX11_stored ∈ lw_tbl := List.mem_of_getElem? (i := 469) (by decide +kernel)
theorem ml_X11_292 : Cond.methodLink RX11 292 yX5_sumOf ∈ lw_tbl := List.mem_of_getElem? (i := 473) (by decide +kernel)
theorem ml_X5_42 : Cond.methodLink RX5 42 yX7_get ∈ lw_tbl := List.mem_of_getElem? (i := 477) (by decide +kernel)
theorem ml_L_285 : Cond.methodLink RL 285 yX11_shipped ∈ lw_tbl := List.mem_of_getElem? (i := 478) (by decide +kernel)
theorem ml_L_289 : Cond.methodLink RL 289 yX11_recalled ∈ lw_tbl := List.mem_of_getElem? (i := 482) (by decide +kernel)
theorem ml_L_293 : Cond.methodLink RL 293 yX11_spoiled ∈ lw_tbl := List.mem_of_getElem? (i := 486) (by decide +kernel)
theorem ml_L_307 : Cond.methodLink RL 307 yX11_writeRaws ∈ lw_tbl := List.mem_of_getElem? (i := 490) (by decide +kernel)
theorem ml_X11_150 : Cond.methodLink RX11 150 yX10_clear ∈ lw_tbl := List.mem_of_getElem? (i := 494) (by decide +kernel)
theorem ml_X11_326 : Cond.methodLink RX11 326 yX11_signOfRaw ∈ lw_tbl := List.mem_of_getElem? (i := 498) (by decide +kernel)
theorem ml_X11_112 : Cond.methodLink RX11 112 yX0_isRawFaulty ∈ lw_tbl := List.mem_of_getElem? (i := 502) (by decide +kernel)
theorem ml_X0_33 : Cond.methodLinkNest RX0 33 yX11_setHas "JarCannery" ∈ lw_tbl := List.mem_of_getElem? (i := 506) (by decide +kernel)
theorem ml_X11_132 : Cond.methodLink RX11 132 yX11_setHas ∈ lw_tbl := List.mem_of_getElem? (i := 507) (by decide +kernel)
theorem ml_X11_315 : Cond.methodLink RX11 315 yX10_add ∈ lw_tbl := List.mem_of_getElem? (i := 508) (by decide +kernel)
theorem ml_X10_29 : Cond.methodLink RX10 29 yX7_set ∈ lw_tbl := List.mem_of_getElem? (i := 512) (by decide +kernel)
theorem ml_L_314 : Cond.methodLink RL 314 yX11_isConsistent ∈ lw_tbl := List.mem_of_getElem? (i := 516) (by decide +kernel)
theorem ml_X11_335 : Cond.methodLink RX11 335 yX11_recallsAgree ∈ lw_tbl := List.mem_of_getElem? (i := 520) (by decide +kernel)
theorem ml_X11_256 : Cond.methodLink RX11 256 yX8_countThroughBatches ∈ lw_tbl := List.mem_of_getElem? (i := 524) (by decide +kernel)
theorem ml_X8_127 : Cond.methodLinkNest RX8 127 yX11_setHas "JarCannery" ∈ lw_tbl := List.mem_of_getElem? (i := 528) (by decide +kernel)
theorem ml_X8_146 : Cond.methodLink RX8 146 yX8_lotsOfBatch ∈ lw_tbl := List.mem_of_getElem? (i := 529) (by decide +kernel)
theorem ml_X11_259 : Cond.methodLink RX11 259 yX8_countFromSets ∈ lw_tbl := List.mem_of_getElem? (i := 534) (by decide +kernel)
theorem ml_X8_124 : Cond.methodLink RX8 124 yX8_rawsAt ∈ lw_tbl := List.mem_of_getElem? (i := 538) (by decide +kernel)
theorem ml_X11_339 : Cond.methodLink RX11 339 yX11_popsAgree ∈ lw_tbl := List.mem_of_getElem? (i := 539) (by decide +kernel)
theorem ml_X11_245 : Cond.methodLink RX11 245 yX8_daysDayByDay ∈ lw_tbl := List.mem_of_getElem? (i := 543) (by decide +kernel)
theorem ml_X8_107 : Cond.methodLink RX8 107 yX8_riseAt ∈ lw_tbl := List.mem_of_getElem? (i := 547) (by decide +kernel)
theorem ml_X8_143 : Cond.methodLink RX8 143 yX8_strengthAt ∈ lw_tbl := List.mem_of_getElem? (i := 551) (by decide +kernel)
theorem ml_X11_248 : Cond.methodLink RX11 248 yX8_daysDivided ∈ lw_tbl := List.mem_of_getElem? (i := 555) (by decide +kernel)
theorem ml_X11_342 : Cond.methodLink RX11 342 yX11_cratesAgree ∈ lw_tbl := List.mem_of_getElem? (i := 559) (by decide +kernel)
theorem ml_X11_265 : Cond.methodLink RX11 265 yX2_leastBySets ∈ lw_tbl := List.mem_of_getElem? (i := 563) (by decide +kernel)
theorem ml_X2_32 : Cond.methodLink RX2 32 yX7_set ∈ lw_tbl := List.mem_of_getElem? (i := 567) (by decide +kernel)
theorem ml_X2_36 : Cond.methodLink RX2 36 yX2_findFor ∈ lw_tbl := List.mem_of_getElem? (i := 568) (by decide +kernel)
theorem ml_X2_44 : Cond.methodLinkNest RX2 44 yX11_setHas "JarCannery" ∈ lw_tbl := List.mem_of_getElem? (i := 572) (by decide +kernel)
theorem ml_X2_40 : Cond.methodLink RX2 40 yX7_get ∈ lw_tbl := List.mem_of_getElem? (i := 573) (by decide +kernel)
theorem ml_X11_269 : Cond.methodLink RX11 269 yX2_leastByTrial ∈ lw_tbl := List.mem_of_getElem? (i := 574) (by decide +kernel)
theorem ml_X2_51 : Cond.methodLink RX2 51 yX2_put ∈ lw_tbl := List.mem_of_getElem? (i := 578) (by decide +kernel)
theorem ml_X11_345 : Cond.methodLink RX11 345 yX11_accountsAgree ∈ lw_tbl := List.mem_of_getElem? (i := 582) (by decide +kernel)
theorem ml_L_323 : Cond.methodLink RL 323 yX11_clearText ∈ lw_tbl := List.mem_of_getElem? (i := 586) (by decide +kernel)
theorem ml_L_339 : Cond.methodLink RL 339 yX11_save ∈ lw_tbl := List.mem_of_getElem? (i := 590) (by decide +kernel)
theorem ml_X11_383 : Cond.methodLink RX11 383 yX8_copyFrom ∈ lw_tbl := List.mem_of_getElem? (i := 594) (by decide +kernel)
theorem ml_X8_154 : Cond.methodLink RX8 154 yX0_copyFrom ∈ lw_tbl := List.mem_of_getElem? (i := 598) (by decide +kernel)
theorem ml_X0_45 : Cond.methodLink RX0 45 yX7_copyFrom ∈ lw_tbl := List.mem_of_getElem? (i := 602) (by decide +kernel)
theorem ml_X8_158 : Cond.methodLink RX8 158 yX6_copyFrom ∈ lw_tbl := List.mem_of_getElem? (i := 610) (by decide +kernel)
theorem ml_X6_56 : Cond.methodLink RX6 56 yX7_copyFrom ∈ lw_tbl := List.mem_of_getElem? (i := 614) (by decide +kernel)
theorem ml_X8_161 : Cond.methodLink RX8 161 yX5_copyFrom ∈ lw_tbl := List.mem_of_getElem? (i := 615) (by decide +kernel)
theorem ml_X5_56 : Cond.methodLink RX5 56 yX7_copyFrom ∈ lw_tbl := List.mem_of_getElem? (i := 619) (by decide +kernel)
theorem ml_L_153 : Cond.methodLink RL 153 yL_addRaw ∈ lw_tbl := List.mem_of_getElem? (i := 620) (by decide +kernel)
theorem ml_L_7 : Cond.methodLink RL 7 yX11_addRaw ∈ lw_tbl := List.mem_of_getElem? (i := 624) (by decide +kernel)
theorem ml_X11_76 : Cond.methodLink RX11 76 yX8_rawRefusal ∈ lw_tbl := List.mem_of_getElem? (i := 628) (by decide +kernel)
theorem ml_X11_80 : Cond.methodLink RX11 80 yX11_demandAllowed ∈ lw_tbl := List.mem_of_getElem? (i := 632) (by decide +kernel)
theorem ml_X11_83 : Cond.methodLink RX11 83 yX4_keep ∈ lw_tbl := List.mem_of_getElem? (i := 771) (by decide +kernel)
theorem ml_X4_25 : Cond.methodLink RX4 25 yX4_at ∈ lw_tbl := List.mem_of_getElem? (i := 775) (by decide +kernel)
theorem ml_X4_29 : Cond.methodLink RX4 29 yX8_copyFrom ∈ lw_tbl := List.mem_of_getElem? (i := 779) (by decide +kernel)
theorem ml_X11_91 : Cond.methodLink RX11 91 yX0_addOneRaw ∈ lw_tbl := List.mem_of_getElem? (i := 781) (by decide +kernel)
theorem ml_L_162 : Cond.methodLink RL 162 yL_mix ∈ lw_tbl := List.mem_of_getElem? (i := 785) (by decide +kernel)
theorem ml_L_15 : Cond.methodLink RL 15 yX11_mix ∈ lw_tbl := List.mem_of_getElem? (i := 790) (by decide +kernel)
theorem ml_X11_96 : Cond.methodLink RX11 96 yX8_mixRefusal ∈ lw_tbl := List.mem_of_getElem? (i := 794) (by decide +kernel)
theorem ml_X8_51 : Cond.methodLink RX8 51 yX0_hasSet ∈ lw_tbl := List.mem_of_getElem? (i := 798) (by decide +kernel)
theorem ml_X11_100 : Cond.methodLink RX11 100 yX0_addBatch ∈ lw_tbl := List.mem_of_getElem? (i := 802) (by decide +kernel)
theorem ml_X0_41 : Cond.methodLink RX0 41 yX7_set ∈ lw_tbl := List.mem_of_getElem? (i := 806) (by decide +kernel)
theorem ml_L_174 : Cond.methodLink RL 174 yL_isFaulty ∈ lw_tbl := List.mem_of_getElem? (i := 807) (by decide +kernel)
theorem ml_L_23 : Cond.methodLink RL 23 yX11_isFaulty ∈ lw_tbl := List.mem_of_getElem? (i := 831) (by decide +kernel)
theorem ml_X11_109 : Cond.methodLink RX11 109 yX11_demandRaw ∈ lw_tbl := List.mem_of_getElem? (i := 835) (by decide +kernel)
theorem ml_X11_404 : Cond.methodLink RX11 404 yX0_hasRaw ∈ lw_tbl := List.mem_of_getElem? (i := 839) (by decide +kernel)
theorem ml_L_178 : Cond.methodLink RL 178 yL_strengthOf ∈ lw_tbl := List.mem_of_getElem? (i := 844) (by decide +kernel)
theorem ml_L_29 : Cond.methodLink RL 29 yX11_strengthOf ∈ lw_tbl := List.mem_of_getElem? (i := 847) (by decide +kernel)
theorem ml_X11_116 : Cond.methodLink RX11 116 yX11_demandBatch ∈ lw_tbl := List.mem_of_getElem? (i := 851) (by decide +kernel)
theorem ml_X11_409 : Cond.methodLink RX11 409 yX0_hasBatch ∈ lw_tbl := List.mem_of_getElem? (i := 855) (by decide +kernel)
theorem ml_X11_123 : Cond.methodLink RX11 123 yX7_get ∈ lw_tbl := List.mem_of_getElem? (i := 860) (by decide +kernel)
theorem ml_L_181 : Cond.methodLink RL 181 yL_batchContains ∈ lw_tbl := List.mem_of_getElem? (i := 861) (by decide +kernel)
theorem ml_L_33 : Cond.methodLink RL 33 yX11_batchContains ∈ lw_tbl := List.mem_of_getElem? (i := 864) (by decide +kernel)
theorem ml_L_184 : Cond.methodLink RL 184 yL_addLabel ∈ lw_tbl := List.mem_of_getElem? (i := 868) (by decide +kernel)
theorem ml_L_37 : Cond.methodLink RL 37 yX11_addLabel ∈ lw_tbl := List.mem_of_getElem? (i := 871) (by decide +kernel)
theorem ml_X11_136 : Cond.methodLink RX11 136 yX8_labelRefusal ∈ lw_tbl := List.mem_of_getElem? (i := 875) (by decide +kernel)
theorem ml_X8_61 : Cond.methodLink RX8 61 yX10_isLetters ∈ lw_tbl := List.mem_of_getElem? (i := 879) (by decide +kernel)
theorem ml_X10_48 : Cond.methodLink RX10 48 yX10_at ∈ lw_tbl := List.mem_of_getElem? (i := 883) (by decide +kernel)
theorem ml_X10_25 : Cond.methodLink RX10 25 yX7_get ∈ lw_tbl := List.mem_of_getElem? (i := 887) (by decide +kernel)
theorem ml_X8_69 : Cond.methodLink RX8 69 yX6_holds ∈ lw_tbl := List.mem_of_getElem? (i := 888) (by decide +kernel)
theorem ml_X6_31 : Cond.methodLink RX6 31 yX6_isSame ∈ lw_tbl := List.mem_of_getElem? (i := 892) (by decide +kernel)
theorem ml_X6_27 : Cond.methodLink RX6 27 yX7_get ∈ lw_tbl := List.mem_of_getElem? (i := 896) (by decide +kernel)
theorem ml_X6_35 : Cond.methodLink RX6 35 yX6_letter ∈ lw_tbl := List.mem_of_getElem? (i := 897) (by decide +kernel)
theorem ml_X6_39 : Cond.methodLink RX6 39 yX10_at ∈ lw_tbl := List.mem_of_getElem? (i := 901) (by decide +kernel)
theorem ml_X11_144 : Cond.methodLink RX11 144 yX6_addFrom ∈ lw_tbl := List.mem_of_getElem? (i := 902) (by decide +kernel)
theorem ml_X6_48 : Cond.methodLink RX6 48 yX7_set ∈ lw_tbl := List.mem_of_getElem? (i := 906) (by decide +kernel)
theorem ml_L_191 : Cond.methodLink RL 191 yL_labelLength ∈ lw_tbl := List.mem_of_getElem? (i := 907) (by decide +kernel)
theorem ml_L_40 : Cond.methodLink RL 40 yX11_labelLength ∈ lw_tbl := List.mem_of_getElem? (i := 910) (by decide +kernel)
theorem ml_X11_156 : Cond.methodLink RX11 156 yX11_demandLabel ∈ lw_tbl := List.mem_of_getElem? (i := 914) (by decide +kernel)
theorem ml_X11_414 : Cond.methodLink RX11 414 yX6_has ∈ lw_tbl := List.mem_of_getElem? (i := 918) (by decide +kernel)
theorem ml_L_194 : Cond.methodLink RL 194 yL_labelLetter ∈ lw_tbl := List.mem_of_getElem? (i := 923) (by decide +kernel)
theorem ml_L_43 : Cond.methodLink RL 43 yX11_labelLetter ∈ lw_tbl := List.mem_of_getElem? (i := 926) (by decide +kernel)
theorem ml_X11_169 : Cond.methodLink RX11 169 yX6_letter ∈ lw_tbl := List.mem_of_getElem? (i := 931) (by decide +kernel)
theorem ml_L_197 : Cond.methodLink RL 197 yL_scan ∈ lw_tbl := List.mem_of_getElem? (i := 932) (by decide +kernel)
theorem ml_L_47 : Cond.methodLink RL 47 yX11_scan ∈ lw_tbl := List.mem_of_getElem? (i := 936) (by decide +kernel)
theorem ml_X11_173 : Cond.methodLink RX11 173 yX11_demandScannedText ∈ lw_tbl := List.mem_of_getElem? (i := 940) (by decide +kernel)
theorem ml_X11_422 : Cond.methodLink RX11 422 yX10_isLetters ∈ lw_tbl := List.mem_of_getElem? (i := 944) (by decide +kernel)
theorem ml_X11_181 : Cond.methodLink RX11 181 yX11_tableDistance ∈ lw_tbl := List.mem_of_getElem? (i := 947) (by decide +kernel)
theorem ml_X11_184 : Cond.methodLink RX11 184 yX11_takeWord ∈ lw_tbl := List.mem_of_getElem? (i := 951) (by decide +kernel)
theorem ml_X11_319 : Cond.methodLink RX11 319 yX6_appendTo ∈ lw_tbl := List.mem_of_getElem? (i := 955) (by decide +kernel)
theorem ml_X6_52 : Cond.methodLink RX6 52 yX10_add ∈ lw_tbl := List.mem_of_getElem? (i := 959) (by decide +kernel)
theorem ml_X11_429 : Cond.methodLink RX11 429 yX3_byTable ∈ lw_tbl := List.mem_of_getElem? (i := 960) (by decide +kernel)
theorem ml_X3_29 : Cond.methodLink RX3 29 yX3_cell ∈ lw_tbl := List.mem_of_getElem? (i := 964) (by decide +kernel)
theorem ml_X3_37 : Cond.methodLink RX3 37 yX7_get ∈ lw_tbl := List.mem_of_getElem? (i := 968) (by decide +kernel)
theorem ml_X3_41 : Cond.methodLink RX3 41 yX10_at ∈ lw_tbl := List.mem_of_getElem? (i := 969) (by decide +kernel)
theorem ml_X3_33 : Cond.methodLink RX3 33 yX7_set ∈ lw_tbl := List.mem_of_getElem? (i := 971) (by decide +kernel)
theorem ml_L_200 : Cond.methodLink RL 200 yL_distanceTo ∈ lw_tbl := List.mem_of_getElem? (i := 972) (by decide +kernel)
theorem ml_L_52 : Cond.methodLink RL 52 yX11_distanceTo ∈ lw_tbl := List.mem_of_getElem? (i := 975) (by decide +kernel)
theorem ml_L_203 : Cond.methodLink RL 203 yL_distanceByLetters ∈ lw_tbl := List.mem_of_getElem? (i := 979) (by decide +kernel)
theorem ml_L_55 : Cond.methodLink RL 55 yX11_distanceByLetters ∈ lw_tbl := List.mem_of_getElem? (i := 982) (by decide +kernel)
theorem ml_X11_187 : Cond.methodLink RX11 187 yX3_byLetters ∈ lw_tbl := List.mem_of_getElem? (i := 986) (by decide +kernel)
theorem ml_X3_51 : Cond.methodLink RX3 51 yX7_setAll ∈ lw_tbl := List.mem_of_getElem? (i := 990) (by decide +kernel)
theorem ml_X3_54 : Cond.methodLink RX3 54 yX3_goOn ∈ lw_tbl := List.mem_of_getElem? (i := 994) (by decide +kernel)
theorem ml_L_206 : Cond.methodLink RL 206 yL_fill ∈ lw_tbl := List.mem_of_getElem? (i := 998) (by decide +kernel)
theorem ml_L_58 : Cond.methodLink RL 58 yX11_fill ∈ lw_tbl := List.mem_of_getElem? (i := 1001) (by decide +kernel)
theorem ml_X11_191 : Cond.methodLink RX11 191 yX8_fillRefusal ∈ lw_tbl := List.mem_of_getElem? (i := 1005) (by decide +kernel)
theorem ml_X8_73 : Cond.methodLink RX8 73 yX0_hasBatch ∈ lw_tbl := List.mem_of_getElem? (i := 1009) (by decide +kernel)
theorem ml_X8_76 : Cond.methodLink RX8 76 yX6_has ∈ lw_tbl := List.mem_of_getElem? (i := 1010) (by decide +kernel)
theorem ml_X8_80 : Cond.methodLink RX8 80 yX0_isSpoilt ∈ lw_tbl := List.mem_of_getElem? (i := 1011) (by decide +kernel)
theorem ml_X0_37 : Cond.methodLink RX0 37 yX7_get ∈ lw_tbl := List.mem_of_getElem? (i := 1015) (by decide +kernel)
theorem ml_X11_195 : Cond.methodLink RX11 195 yX8_fillLot ∈ lw_tbl := List.mem_of_getElem? (i := 1016) (by decide +kernel)
theorem ml_X8_83 : Cond.methodLink RX8 83 yX5_add ∈ lw_tbl := List.mem_of_getElem? (i := 1020) (by decide +kernel)
theorem ml_X5_49 : Cond.methodLink RX5 49 yX7_set ∈ lw_tbl := List.mem_of_getElem? (i := 1024) (by decide +kernel)
theorem ml_L_210 : Cond.methodLink RL 210 yL_ship ∈ lw_tbl := List.mem_of_getElem? (i := 1025) (by decide +kernel)
theorem ml_L_62 : Cond.methodLink RL 62 yX11_ship ∈ lw_tbl := List.mem_of_getElem? (i := 1028) (by decide +kernel)
theorem ml_X11_198 : Cond.methodLink RX11 198 yX8_shipRefusal ∈ lw_tbl := List.mem_of_getElem? (i := 1032) (by decide +kernel)
theorem ml_X8_87 : Cond.methodLink RX8 87 yX5_positionOf ∈ lw_tbl := List.mem_of_getElem? (i := 1036) (by decide +kernel)
theorem ml_X11_201 : Cond.methodLink RX11 201 yX8_shipLot ∈ lw_tbl := List.mem_of_getElem? (i := 1040) (by decide +kernel)
theorem ml_X8_91 : Cond.methodLink RX8 91 yX5_remove ∈ lw_tbl := List.mem_of_getElem? (i := 1044) (by decide +kernel)
theorem ml_X5_53 : Cond.methodLink RX5 53 yX7_closeGap ∈ lw_tbl := List.mem_of_getElem? (i := 1048) (by decide +kernel)
theorem ml_L_213 : Cond.methodLink RL 213 yL_pass ∈ lw_tbl := List.mem_of_getElem? (i := 1052) (by decide +kernel)
theorem ml_L_65 : Cond.methodLink RL 65 yX11_pass ∈ lw_tbl := List.mem_of_getElem? (i := 1055) (by decide +kernel)
theorem ml_X11_204 : Cond.methodLink RX11 204 yX8_passRefusal ∈ lw_tbl := List.mem_of_getElem? (i := 1059) (by decide +kernel)
theorem ml_X11_207 : Cond.methodLink RX11 207 yX8_passDays ∈ lw_tbl := List.mem_of_getElem? (i := 1063) (by decide +kernel)
theorem ml_X8_94 : Cond.methodLink RX8 94 yX8_passOneDay ∈ lw_tbl := List.mem_of_getElem? (i := 1067) (by decide +kernel)
theorem ml_X8_110 : Cond.methodLink RX8 110 yX7_set ∈ lw_tbl := List.mem_of_getElem? (i := 1071) (by decide +kernel)
theorem ml_L_216 : Cond.methodLink RL 216 yL_recall ∈ lw_tbl := List.mem_of_getElem? (i := 1072) (by decide +kernel)
theorem ml_L_68 : Cond.methodLink RL 68 yX11_recall ∈ lw_tbl := List.mem_of_getElem? (i := 1075) (by decide +kernel)
