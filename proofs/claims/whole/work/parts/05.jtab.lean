/-! ===== the JDK's members that are called ===== -/
theorem mj_X11_1 : Cond.methodLink RX11 1 Lib.objectInit ∈ lw_tbl := List.mem_of_getElem? (i := 101) (by decide +kernel)
theorem mj_X8_3 : Cond.methodLink RX8 3 Lib.objectInit ∈ lw_tbl := List.mem_of_getElem? (i := 109) (by decide +kernel)
theorem mj_X0_3 : Cond.methodLink RX0 3 Lib.objectInit ∈ lw_tbl := List.mem_of_getElem? (i := 115) (by decide +kernel)
theorem mj_X7_1 : Cond.methodLink RX7 1 Lib.objectInit ∈ lw_tbl := List.mem_of_getElem? (i := 121) (by decide +kernel)
theorem mj_X7_7 : Cond.methodLink RX7 7 Lib.Math.max.name ∈ lw_tbl := List.mem_of_getElem? (i := 122) (by decide +kernel)
theorem mj_X6_3 : Cond.methodLink RX6 3 Lib.objectInit ∈ lw_tbl := List.mem_of_getElem? (i := 161) (by decide +kernel)
theorem mj_X5_3 : Cond.methodLink RX5 3 Lib.objectInit ∈ lw_tbl := List.mem_of_getElem? (i := 182) (by decide +kernel)
theorem mj_X4_3 : Cond.methodLink RX4 3 Lib.objectInit ∈ lw_tbl := List.mem_of_getElem? (i := 262) (by decide +kernel)
theorem mj_X10_1 : Cond.methodLink RX10 1 Lib.objectInit ∈ lw_tbl := List.mem_of_getElem? (i := 282) (by decide +kernel)
theorem mj_X1_5 : Cond.methodLink RX1 5 Lib.objectInit ∈ lw_tbl := List.mem_of_getElem? (i := 304) (by decide +kernel)
theorem mj_X3_3 : Cond.methodLink RX3 3 Lib.objectInit ∈ lw_tbl := List.mem_of_getElem? (i := 336) (by decide +kernel)
theorem mj_X2_3 : Cond.methodLink RX2 3 Lib.objectInit ∈ lw_tbl := List.mem_of_getElem? (i := 351) (by decide +kernel)
theorem mj_X9_53 : Cond.methodLink RX9 53 Lib.Math.min.name ∈ lw_tbl := List.mem_of_getElem? (i := 458) (by decide +kernel)
theorem mj_X2_55 : Cond.methodLink RX2 55 Lib.Math.max.name ∈ lw_tbl := List.mem_of_getElem? (i := 581) (by decide +kernel)
theorem mj_X7_19 : Cond.methodLink RX7 19 Lib.Math.min.name ∈ lw_tbl := List.mem_of_getElem? (i := 606) (by decide +kernel)
theorem mj_X7_22 : Cond.methodLink RX7 22 arraycopyName ∈ lw_tbl := List.mem_of_getElem? (i := 607) (by decide +kernel)
theorem mj_X4_33 : Cond.methodLink RX4 33 Lib.Math.min.name ∈ lw_tbl := List.mem_of_getElem? (i := 780) (by decide +kernel)
theorem mj_X3_45 : Cond.methodLink RX3 45 Lib.Math.min.name ∈ lw_tbl := List.mem_of_getElem? (i := 970) (by decide +kernel)
theorem mj_X3_58 : Cond.methodLink RX3 58 Lib.Math.max.name ∈ lw_tbl := List.mem_of_getElem? (i := 997) (by decide +kernel)
theorem mj_X10_42 : Cond.methodLink RX10 42 Lib.Math.min.name ∈ lw_tbl := List.mem_of_getElem? (i := 1291) (by decide +kernel)
theorem mj_X1_85 : Cond.methodLink RX1 85 Lib.Math.max.name ∈ lw_tbl := List.mem_of_getElem? (i := 1362) (by decide +kernel)
theorem mj_X12_1 : Cond.methodLink RX12 1 Lib.objectInit ∈ lw_tbl := List.mem_of_getElem? (i := 1448) (by decide +kernel)
theorem mj_max : Cond.static Lib.Math.max.name ∈ lw_tbl ∧ Cond.initialized "java/lang/Math" ∈ lw_tbl ∧ Cond.code Lib.Math.max.name Lib.Math.max.code 2 (some .int) ∈ lw_tbl := ⟨List.mem_of_getElem? (i := 123) (by decide +kernel), List.mem_of_getElem? (i := 70) (by decide +kernel), List.mem_of_getElem? (i := 124) (by decide +kernel)⟩
theorem mj_min : Cond.static Lib.Math.min.name ∈ lw_tbl ∧ Cond.initialized "java/lang/Math" ∈ lw_tbl ∧ Cond.code Lib.Math.min.name Lib.Math.min.code 2 (some .int) ∈ lw_tbl := ⟨List.mem_of_getElem? (i := 459) (by decide +kernel), List.mem_of_getElem? (i := 70) (by decide +kernel), List.mem_of_getElem? (i := 460) (by decide +kernel)⟩
theorem mj_copy : Cond.native arraycopyName ∈ lw_tbl ∧ Cond.static arraycopyName ∈ lw_tbl ∧ Cond.initialized "java/lang/System" ∈ lw_tbl := ⟨List.mem_of_getElem? (i := 609) (by decide +kernel), List.mem_of_getElem? (i := 608) (by decide +kernel), List.mem_of_getElem? (i := 87) (by decide +kernel)⟩
theorem mj_obj : Cond.instanceMethod Lib.objectInit ∈ lw_tbl ∧ Cond.code Lib.objectInit ⟨#[0xb1]⟩ 1 none ∈ lw_tbl := ⟨List.mem_of_getElem? (i := 102) (by decide +kernel), List.mem_of_getElem? (i := 103) (by decide +kernel)⟩
theorem cw_J6_265 : Jvm.Cond.constant RJ6 265 1431655765 ∈ lw_tbl ∧ goodWord (Jvm.Cond.constant RJ6 265 1431655765) = true := ⟨List.mem_of_getElem? (i := 430) (by decide +kernel), by decide +kernel⟩
theorem cw_J6_266 : Jvm.Cond.constant RJ6 266 858993459 ∈ lw_tbl ∧ goodWord (Jvm.Cond.constant RJ6 266 858993459) = true := ⟨List.mem_of_getElem? (i := 431) (by decide +kernel), by decide +kernel⟩
theorem cw_J6_267 : Jvm.Cond.constant RJ6 267 252645135 ∈ lw_tbl ∧ goodWord (Jvm.Cond.constant RJ6 267 252645135) = true := ⟨List.mem_of_getElem? (i := 432) (by decide +kernel), by decide +kernel⟩
theorem cw_X10_33 : Jvm.Cond.constant RX10 33 1000000000 ∈ lw_tbl ∧ goodWord (Jvm.Cond.constant RX10 33 1000000000) = true := ⟨List.mem_of_getElem? (i := 1255) (by decide +kernel), by decide +kernel⟩
theorem cw_X12_138 : Jvm.Cond.constant RX12 138 100000 ∈ lw_tbl ∧ goodWord (Jvm.Cond.constant RX12 138 100000) = true := ⟨List.mem_of_getElem? (i := 1733) (by decide +kernel), by decide +kernel⟩
def z_J6_bitCount_0f7a4 : fMi := (yJ6_bitCount_0f7a4, cJ6_bitCount_0f7a4, 1, some .int, [])
theorem k_J6_bitCount_0f7a4 : fMk z_J6_bitCount_0f7a4 1 := ⟨⟨List.mem_of_getElem? (i := 429) (by decide +kernel), by decide +kernel⟩, List.mem_of_getElem? (i := 90) (by decide +kernel), ⟨by decide +kernel, by decide +kernel⟩, by decide +kernel, by decide +kernel, by decide +kernel⟩
theorem sm_J6_bitCount_0f7a4 : Cond.static yJ6_bitCount_0f7a4 ∈ lw_tbl := List.mem_of_getElem? (i := 428) (by decide +kernel)
def z_Jx00060_init_a7421 : fMi := (yJx00060_init_a7421, cJx00060_init_a7421, 2, none, [])
theorem k_Jx00060_init_a7421 : fMk z_Jx00060_init_a7421 1 := ⟨⟨List.mem_of_getElem? (i := 813) (by decide +kernel), by decide +kernel⟩, List.mem_of_getElem? (i := 88) (by decide +kernel), ⟨by decide +kernel, by decide +kernel⟩, by decide +kernel, by decide +kernel, by decide +kernel⟩
theorem im_Jx00060_init_a7421 : Cond.instanceMethod yJx00060_init_a7421 ∈ lw_tbl := List.mem_of_getElem? (i := 812) (by decide +kernel)
def z_J0_length_8abf5 : fMi := (yJ0_length_8abf5, cJ0_length_8abf5, 1, some .int, [])
theorem k_J0_length_8abf5 : fMk z_J0_length_8abf5 0 := ⟨⟨List.mem_of_getElem? (i := 1316) (by decide +kernel), by decide +kernel⟩, List.mem_of_getElem? (i := 89) (by decide +kernel), ⟨by decide +kernel, by decide +kernel⟩, by decide +kernel, by decide +kernel, by decide +kernel⟩
theorem im_J0_length_8abf5 : Cond.instanceMethod yJ0_length_8abf5 ∈ lw_tbl := List.mem_of_getElem? (i := 1314) (by decide +kernel)
theorem se_J0_length_8abf5 : Cond.selects RJ0 yJ0_length_8abf5 yJ0_length_8abf5 ∈ lw_tbl := List.mem_of_getElem? (i := 1315) (by decide +kernel)
def z_J0_coder_7d493 : fMi := (yJ0_coder_7d493, cJ0_coder_7d493, 1, some .byte, [])
theorem k_J0_coder_7d493 : fMk z_J0_coder_7d493 0 := ⟨⟨List.mem_of_getElem? (i := 1320) (by decide +kernel), by decide +kernel⟩, List.mem_of_getElem? (i := 89) (by decide +kernel), ⟨by decide +kernel, by decide +kernel⟩, by decide +kernel, by decide +kernel, by decide +kernel⟩
theorem im_J0_coder_7d493 : Cond.instanceMethod yJ0_coder_7d493 ∈ lw_tbl := List.mem_of_getElem? (i := 1318) (by decide +kernel)
theorem se_J0_coder_7d493 : Cond.selects RJ0 yJ0_coder_7d493 yJ0_coder_7d493 ∈ lw_tbl := List.mem_of_getElem? (i := 1319) (by decide +kernel)
def z_J0_charAt_5068e : fMi := (yJ0_charAt_5068e, cJ0_charAt_5068e, 2, some .char, [])
theorem k_J0_charAt_5068e : fMk z_J0_charAt_5068e 1 := ⟨⟨List.mem_of_getElem? (i := 1327) (by decide +kernel), by decide +kernel⟩, List.mem_of_getElem? (i := 89) (by decide +kernel), ⟨by decide +kernel, by decide +kernel⟩, by decide +kernel, by decide +kernel, by decide +kernel⟩
theorem im_J0_charAt_5068e : Cond.instanceMethod yJ0_charAt_5068e ∈ lw_tbl := List.mem_of_getElem? (i := 1325) (by decide +kernel)
theorem se_J0_charAt_5068e : Cond.selects RJ0 yJ0_charAt_5068e yJ0_charAt_5068e ∈ lw_tbl := List.mem_of_getElem? (i := 1326) (by decide +kernel)
def z_J0_isLatin1_aae02 : fMi := (yJ0_isLatin1_aae02, cJ0_isLatin1_aae02, 1, some .boolean, [])
theorem k_J0_isLatin1_aae02 : fMk z_J0_isLatin1_aae02 0 := ⟨⟨List.mem_of_getElem? (i := 1331) (by decide +kernel), by decide +kernel⟩, List.mem_of_getElem? (i := 89) (by decide +kernel), ⟨by decide +kernel, by decide +kernel⟩, by decide +kernel, by decide +kernel, by decide +kernel⟩
theorem im_J0_isLatin1_aae02 : Cond.instanceMethod yJ0_isLatin1_aae02 ∈ lw_tbl := List.mem_of_getElem? (i := 1329) (by decide +kernel)
theorem se_J0_isLatin1_aae02 : Cond.selects RJ0 yJ0_isLatin1_aae02 yJ0_isLatin1_aae02 ∈ lw_tbl := List.mem_of_getElem? (i := 1330) (by decide +kernel)
def z_J1_charAt_3b067 : fMi := (yJ1_charAt_3b067, cJ1_charAt_3b067, 2, some .char, [])
theorem k_J1_charAt_3b067 : fMk z_J1_charAt_3b067 2 := ⟨⟨List.mem_of_getElem? (i := 1334) (by decide +kernel), by decide +kernel⟩, List.mem_of_getElem? (i := 93) (by decide +kernel), ⟨by decide +kernel, by decide +kernel⟩, by decide +kernel, by decide +kernel, by decide +kernel⟩
theorem sm_J1_charAt_3b067 : Cond.static yJ1_charAt_3b067 ∈ lw_tbl := List.mem_of_getElem? (i := 1333) (by decide +kernel)
def z_J0_checkIndex_df160 : fMi := (yJ0_checkIndex_df160, cJ0_checkIndex_df160, 2, none, [])
theorem k_J0_checkIndex_df160 : fMk z_J0_checkIndex_df160 2 := ⟨⟨List.mem_of_getElem? (i := 1337) (by decide +kernel), by decide +kernel⟩, List.mem_of_getElem? (i := 89) (by decide +kernel), ⟨by decide +kernel, by decide +kernel⟩, by decide +kernel, by decide +kernel, by decide +kernel⟩
theorem sm_J0_checkIndex_df160 : Cond.static yJ0_checkIndex_df160 ∈ lw_tbl := List.mem_of_getElem? (i := 1336) (by decide +kernel)
def z_J3_checkIndex_8e157 : fMi := (yJ3_checkIndex_8e157, cJ3_checkIndex_8e157, 3, some .int, [])
theorem k_J3_checkIndex_8e157 : fMk z_J3_checkIndex_8e157 3 := ⟨⟨List.mem_of_getElem? (i := 1342) (by decide +kernel), by decide +kernel⟩, List.mem_of_getElem? (i := 94) (by decide +kernel), ⟨by decide +kernel, by decide +kernel⟩, by decide +kernel, by decide +kernel, by decide +kernel⟩
theorem sm_J3_checkIndex_8e157 : Cond.static yJ3_checkIndex_8e157 ∈ lw_tbl := List.mem_of_getElem? (i := 1341) (by decide +kernel)
def z_J2_charAt_3b067 : fMi := (yJ2_charAt_3b067, cJ2_charAt_3b067, 2, some .char, [])
theorem k_J2_charAt_3b067 : fMk z_J2_charAt_3b067 2 := ⟨⟨List.mem_of_getElem? (i := 1345) (by decide +kernel), by decide +kernel⟩, List.mem_of_getElem? (i := 95) (by decide +kernel), ⟨by decide +kernel, by decide +kernel⟩, by decide +kernel, by decide +kernel, by decide +kernel⟩
theorem sm_J2_charAt_3b067 : Cond.static yJ2_charAt_3b067 ∈ lw_tbl := List.mem_of_getElem? (i := 1344) (by decide +kernel)
def z_J2_checkIndex_2214a : fMi := (yJ2_checkIndex_2214a, cJ2_checkIndex_2214a, 2, none, [])
theorem k_J2_checkIndex_2214a : fMk z_J2_checkIndex_2214a 2 := ⟨⟨List.mem_of_getElem? (i := 1348) (by decide +kernel), by decide +kernel⟩, List.mem_of_getElem? (i := 95) (by decide +kernel), ⟨by decide +kernel, by decide +kernel⟩, by decide +kernel, by decide +kernel, by decide +kernel⟩
theorem sm_J2_checkIndex_2214a : Cond.static yJ2_checkIndex_2214a ∈ lw_tbl := List.mem_of_getElem? (i := 1347) (by decide +kernel)
def z_J2_length_9d52b : fMi := (yJ2_length_9d52b, cJ2_length_9d52b, 1, some .int, [])
theorem k_J2_length_9d52b : fMk z_J2_length_9d52b 1 := ⟨⟨List.mem_of_getElem? (i := 1351) (by decide +kernel), by decide +kernel⟩, List.mem_of_getElem? (i := 95) (by decide +kernel), ⟨by decide +kernel, by decide +kernel⟩, by decide +kernel, by decide +kernel, by decide +kernel⟩
theorem sm_J2_length_9d52b : Cond.static yJ2_length_9d52b ∈ lw_tbl := List.mem_of_getElem? (i := 1350) (by decide +kernel)
def z_J2_getChar_3b067 : fMi := (yJ2_getChar_3b067, cJ2_getChar_3b067, 2, some .char, [])
theorem k_J2_getChar_3b067 : fMk z_J2_getChar_3b067 2 := ⟨⟨List.mem_of_getElem? (i := 1355) (by decide +kernel), by decide +kernel⟩, List.mem_of_getElem? (i := 95) (by decide +kernel), ⟨by decide +kernel, by decide +kernel⟩, by decide +kernel, by decide +kernel, by decide +kernel⟩
theorem sm_J2_getChar_3b067 : Cond.static yJ2_getChar_3b067 ∈ lw_tbl := List.mem_of_getElem? (i := 1354) (by decide +kernel)
theorem ml_X9_21 : Cond.methodLink RX9 21 yJ6_bitCount_0f7a4 ∈ lw_tbl := List.mem_of_getElem? (i := 427) (by decide +kernel)
theorem ml_X11_278 : Cond.methodLink RX11 278 yJ6_bitCount_0f7a4 ∈ lw_tbl := List.mem_of_getElem? (i := 444) (by decide +kernel)
theorem ml_X8_149 : Cond.methodLink RX8 149 yJ6_bitCount_0f7a4 ∈ lw_tbl := List.mem_of_getElem? (i := 533) (by decide +kernel)
theorem ml_X1_91 : Cond.methodLink RX1 91 yJ0_length_8abf5 ∈ lw_tbl := List.mem_of_getElem? (i := 1313) (by decide +kernel)
theorem ml_J0_335 : Cond.methodLink RJ0 335 yJ0_coder_7d493 ∈ lw_tbl := List.mem_of_getElem? (i := 1317) (by decide +kernel)
theorem ml_X1_107 : Cond.methodLink RX1 107 yJ0_charAt_5068e ∈ lw_tbl := List.mem_of_getElem? (i := 1324) (by decide +kernel)
theorem ml_J0_492 : Cond.methodLink RJ0 492 yJ0_isLatin1_aae02 ∈ lw_tbl := List.mem_of_getElem? (i := 1328) (by decide +kernel)
theorem ml_J0_495 : Cond.methodLink RJ0 495 yJ1_charAt_3b067 ∈ lw_tbl := List.mem_of_getElem? (i := 1332) (by decide +kernel)
theorem ml_J1_9 : Cond.methodLink RJ1 9 yJ0_checkIndex_df160 ∈ lw_tbl := List.mem_of_getElem? (i := 1335) (by decide +kernel)
theorem ml_J0_1059 : Cond.methodLink RJ0 1059 yJ3_checkIndex_8e157 ∈ lw_tbl := List.mem_of_getElem? (i := 1340) (by decide +kernel)
theorem ml_J0_498 : Cond.methodLink RJ0 498 yJ2_charAt_3b067 ∈ lw_tbl := List.mem_of_getElem? (i := 1343) (by decide +kernel)
theorem ml_J2_67 : Cond.methodLink RJ2 67 yJ2_checkIndex_2214a ∈ lw_tbl := List.mem_of_getElem? (i := 1346) (by decide +kernel)
theorem ml_J2_48 : Cond.methodLink RJ2 48 yJ2_length_9d52b ∈ lw_tbl := List.mem_of_getElem? (i := 1349) (by decide +kernel)
theorem ml_J2_414 : Cond.methodLink RJ2 414 yJ0_checkIndex_df160 ∈ lw_tbl := List.mem_of_getElem? (i := 1352) (by decide +kernel)
theorem ml_J2_71 : Cond.methodLink RJ2 71 yJ2_getChar_3b067 ∈ lw_tbl := List.mem_of_getElem? (i := 1353) (by decide +kernel)
theorem ml_X12_173 : Cond.methodLink RX12 173 yJ0_length_8abf5 ∈ lw_tbl := List.mem_of_getElem? (i := 1854) (by decide +kernel)
theorem ml_X12_177 : Cond.methodLink RX12 177 yJ0_charAt_5068e ∈ lw_tbl := List.mem_of_getElem? (i := 1855) (by decide +kernel)
