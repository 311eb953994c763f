/-! the methods: name, code, locals, answer -/
def am_ml : List (MethodName × ByteArray × Nat × Option FieldType) := [
  (yX0_init, prog_2_method_1_code, 5, none),
  (yX0_sort, prog_2_method_2_code, 1, (Option.some FieldType.int)),
  (yX0_work, prog_2_method_3_code, 1, (Option.some FieldType.int)),
  (yX0_argument, prog_2_method_4_code, 1, (Option.some FieldType.int)),
  (yX0_touched, prog_2_method_5_code, 1, (Option.some FieldType.int)),
  (yX0_allow, prog_2_method_6_code, 5, none),
  (yX0_act, prog_2_method_7_code, 7, (Option.some FieldType.boolean)),
  (yX1_init, prog_3_method_1_code, 4, none),
  (yX1_sort, prog_3_method_2_code, 1, (Option.some FieldType.int)),
  (yX1_work, prog_3_method_3_code, 1, (Option.some FieldType.int)),
  (yX1_allow, prog_3_method_4_code, 2, none),
  (yX1_act, prog_3_method_5_code, 3, (Option.some FieldType.boolean)),
  (yX2_init, prog_4_method_1_code, 4, none),
  (yX2_sort, prog_4_method_2_code, 1, (Option.some FieldType.int)),
  (yX2_work, prog_4_method_3_code, 1, (Option.some FieldType.int)),
  (yX2_argument, prog_4_method_4_code, 1, (Option.some FieldType.int)),
  (yX2_object, prog_4_method_5_code, 1, (Option.some FieldType.int)),
  (yX2_touched, prog_4_method_6_code, 1, (Option.some FieldType.int)),
  (yX2_allow, prog_4_method_7_code, 2, none),
  (yX2_act, prog_4_method_8_code, 2, (Option.some FieldType.boolean)),
  (yX3_init, prog_5_method_1_code, 1, none),
  (yX3_isTold, prog_5_method_2_code, 2, (Option.some FieldType.boolean)),
  (yX3_isFull, prog_5_method_3_code, 1, (Option.some FieldType.boolean)),
  (yX3_tell, prog_5_method_4_code, 2, (Option.some FieldType.int)),
  (yX3_setOwn, prog_5_method_5_code, 6, (Option.some FieldType.int)),
  (yX3_aimOf, prog_5_method_6_code, 6, (Option.some FieldType.int)),
  (yX3_isUnder, prog_5_method_7_code, 5, (Option.some FieldType.boolean)),
  (yX3_setRole, prog_5_method_8_code, 5, none),
  (yX3_nameOf, prog_5_method_9_code, 5, (Option.some FieldType.int)),
  (yX3_hasRoomForObject, prog_5_method_10_code, 1, (Option.some FieldType.boolean)),
  (yX3_makeObject, prog_5_method_11_code, 2, (Option.some FieldType.int)),
  (yX3_isObject, prog_5_method_12_code, 2, (Option.some FieldType.boolean)),
  (yX3_kindOfObject, prog_5_method_13_code, 2, (Option.some FieldType.int)),
  (yX3_kindsOf, prog_5_method_14_code, 4, (Option.some FieldType.int)),
  (yX4_init, prog_6_method_1_code, 2, none),
  (yX4_begin, prog_6_method_2_code, 1, none),
  (yX4_objectAt, prog_6_method_3_code, 2, (Option.some FieldType.int)),
  (yX4_hadAt, prog_6_method_4_code, 2, (Option.some FieldType.int)),
  (yX4_put, prog_6_method_5_code, 3, none),
  (yX4_isObjectUnder, prog_6_method_6_code, 3, (Option.some FieldType.boolean)),
  (yX5_init, prog_7_method_1_code, 4, none),
  (yX5_sort, prog_7_method_2_code, 1, (Option.some FieldType.int)),
  (yX5_object, prog_7_method_3_code, 1, (Option.some FieldType.int)),
  (yX5_allow, prog_7_method_4_code, 2, none),
  (yX5_act, prog_7_method_5_code, 2, (Option.some FieldType.boolean)),
  (yX6_init, prog_8_method_1_code, 4, none),
  (yX6_sort, prog_8_method_2_code, 1, (Option.some FieldType.int)),
  (yX6_work, prog_8_method_3_code, 1, (Option.some FieldType.int)),
  (yX6_touched, prog_8_method_4_code, 1, (Option.some FieldType.int)),
  (yX6_allow, prog_8_method_5_code, 4, none),
  (yX6_act, prog_8_method_6_code, 3, (Option.some FieldType.boolean)),
  (yX7_init, prog_9_method_1_code, 4, none),
  (yX7_filled, prog_9_method_2_code, 1, (Option.some (FieldType.object "PointHouse$Sets"))),
  (yX7_fill, prog_9_method_3_code, 6, none),
  (yX7_settle, prog_9_method_4_code, 5, (Option.some FieldType.boolean)),
  (yX7_noteRound, prog_9_method_5_code, 6, none),
  (yX7_heldAt, prog_9_method_6_code, 2, (Option.some FieldType.int)),
  (yX7_add, prog_9_method_7_code, 3, none),
  (yX7_roundsTo, prog_9_method_8_code, 5, (Option.some FieldType.int)),
  (yX7_kindOfPoint, prog_9_method_9_code, 2, (Option.some FieldType.int)),
  (yX7_aimOfPoint, prog_9_method_10_code, 3, (Option.some FieldType.int)),
  (yX7_partUnder, prog_9_method_11_code, 5, (Option.some FieldType.int)),
  (yX7_heldInFieldsOf, prog_9_method_12_code, 5, (Option.some FieldType.int)),
  (yX8_init, prog_10_method_1_code, 1, none),
  (yX8_isMissing, prog_10_method_2_code, 1, (Option.some FieldType.boolean)),
  (yX8_become, prog_10_method_3_code, 3, none),
  (yX8_covers, prog_10_method_4_code, 3, (Option.some FieldType.boolean)),
  (yX8_itemAt, prog_10_method_5_code, 2, (Option.some FieldType.int)),
  (yX8_put, prog_10_method_6_code, 3, none),
  (yX9_init, prog_11_method_1_code, 1, none),
  (yX9_hasRoom, prog_11_method_2_code, 2, (Option.some FieldType.boolean)),
  (yX9_push, prog_11_method_3_code, 2, none),
  (yX9_clear, prog_11_method_4_code, 1, none),
  (yX9_byteAt, prog_11_method_5_code, 2, (Option.some FieldType.int)),
  (yX9_formOf, prog_11_method_6_code, 1, (Option.some (FieldType.object "java/lang/String"))),
  (yX9_suits, prog_11_method_7_code, 2, (Option.some FieldType.boolean)),
  (yX9_matched, prog_11_method_8_code, 3, (Option.some FieldType.int)),
  (yX9_sortTold, prog_11_method_9_code, 3, (Option.some FieldType.int)),
  (yX9_faultPlace, prog_11_method_10_code, 3, (Option.some FieldType.int)),
  (yX9_letterOf, prog_11_method_11_code, 4, (Option.some FieldType.int)),
  (yX9_numberOf, prog_11_method_12_code, 4, (Option.some FieldType.int)),
  (yX10_init, prog_12_method_1_code, 4, none),
  (yX10_sort, prog_12_method_2_code, 1, (Option.some FieldType.int)),
  (yX10_work, prog_12_method_3_code, 1, (Option.some FieldType.int)),
  (yX10_touched, prog_12_method_4_code, 1, (Option.some FieldType.int)),
  (yX10_allow, prog_12_method_5_code, 4, none),
  (yX10_act, prog_12_method_6_code, 3, (Option.some FieldType.boolean)),
  (yX11_init, prog_1_method_1_code, 2, none),
  (yX11_kind, prog_1_method_2_code, 2, (Option.some FieldType.int)),
  (yX11_has, prog_1_method_3_code, 4, (Option.some FieldType.int)),
  (yX11_aim, prog_1_method_4_code, 3, (Option.some FieldType.int)),
  (yX11_names, prog_1_method_5_code, 5, (Option.some FieldType.int)),
  (yX11_under, prog_1_method_6_code, 3, (Option.some FieldType.int)),
  (yX11_feed, prog_1_method_7_code, 5, (Option.some FieldType.int)),
  (yX11_line, prog_1_method_8_code, 5, (Option.some FieldType.int)),
  (yX11_lineTold, prog_1_method_9_code, 4, (Option.some FieldType.int)),
  (yX11_turn, prog_1_method_10_code, 5, (Option.some FieldType.int)),
  (yX11_in, prog_1_method_11_code, 5, (Option.some FieldType.int)),
  (yX11_holds, prog_1_method_12_code, 2, (Option.some FieldType.int)),
  (yX11_field, prog_1_method_13_code, 3, (Option.some FieldType.int)),
  (yX11_still, prog_1_method_14_code, 1, (Option.some FieldType.int)),
  (yX11_way, prog_1_method_15_code, 3, (Option.some FieldType.int)),
  (yX11_byKinds, prog_1_method_16_code, 2, (Option.some FieldType.int)),
  (yX11_tooMuch, prog_1_method_17_code, 4, (Option.some FieldType.int)),
  (yX11_ask, prog_1_method_18_code, 8, (Option.some FieldType.int)),
  (yX11_cast, prog_1_method_19_code, 6, (Option.some FieldType.int)),
  (yX11_aims, prog_1_method_20_code, 3, (Option.some FieldType.int)),
  (yX11_dead, prog_1_method_21_code, 7, (Option.some FieldType.int)),
  (yX11_cut, prog_1_method_22_code, 7, (Option.some FieldType.long)),
  (yX11_same, prog_1_method_23_code, 5, (Option.some FieldType.int)),
  (yX11_melted, prog_1_method_24_code, 3, (Option.some FieldType.int)),
  (yX11_leaves, prog_1_method_25_code, 7, (Option.some FieldType.int)),
  (yX11_race, prog_1_method_26_code, 6, (Option.some FieldType.int)),
  (yX11_run, prog_1_method_27_code, 8, (Option.some FieldType.int)),
  (yX11_seen, prog_1_method_28_code, 2, (Option.some FieldType.int)),
  (yX11_now, prog_1_method_29_code, 2, (Option.some FieldType.int)),
  (yX11_count, prog_1_method_30_code, 2, (Option.some FieldType.int)),
  (yX11_sheet, prog_1_method_31_code, 5, (Option.some FieldType.int)),
  (yX11_cell, prog_1_method_32_code, 5, (Option.some FieldType.int)),
  (yX11_copy, prog_1_method_33_code, 8, (Option.some FieldType.int)),
  (yX11_taped, prog_1_method_34_code, 7, (Option.some FieldType.int)),
  (yX11_taken, prog_1_method_35_code, 4, (Option.some FieldType.int)),
  (yX11_isWithin, prog_1_method_36_code, 3, (Option.some FieldType.boolean)),
  (yX11_isName, prog_1_method_37_code, 1, (Option.some FieldType.boolean)),
  (yX11_isNameOrNone, prog_1_method_38_code, 1, (Option.some FieldType.boolean)),
  (yX11_bit, prog_1_method_39_code, 1, (Option.some FieldType.int)),
  (yX11_hasBit, prog_1_method_40_code, 2, (Option.some FieldType.boolean)),
  (yX11_fieldPlace, prog_1_method_41_code, 2, (Option.some FieldType.int)),
  (yX11_lineAt, prog_1_method_42_code, 2, (Option.some (FieldType.object "PointHouse$Give"))),
  (yX11_sheetAt, prog_1_method_43_code, 2, (Option.some (FieldType.object "PointHouse$Sheet"))),
  (yX11_lineOfTape, prog_1_method_44_code, 5, (Option.some (FieldType.object "PointHouse$Give"))),
  (yX11_forgetSets, prog_1_method_45_code, 1, none),
  (yX11_linesOn, prog_1_method_46_code, 6, (Option.some FieldType.int)),
  (yX11_workOfLinesOn, prog_1_method_47_code, 6, (Option.some FieldType.int)),
  (yX11_objectsOn, prog_1_method_48_code, 6, (Option.some FieldType.int)),
  (yX11_aimsOf, prog_1_method_49_code, 6, (Option.some FieldType.int)),
  (yX11_flowFrom, prog_1_method_50_code, 13, (Option.some FieldType.int)),
  (yX11_isHeldElsewhere, prog_1_method_51_code, 7, (Option.some FieldType.boolean)),
  (yX11_isRace, prog_1_method_52_code, 3, (Option.some FieldType.boolean)),
  (yX11_isOfSort, prog_1_method_53_code, 2, (Option.some FieldType.boolean)),
  (yX12_in, prog_14_method_2_code, 6, (Option.some FieldType.boolean)),
  (yX12_init, prog_14_method_3_code, 2, none),
  (yX12_isKind, prog_14_method_4_code, 2, (Option.some FieldType.boolean)),
  (yX12_isName, prog_14_method_5_code, 1, (Option.some FieldType.boolean)),
  (yX12_isAct, prog_14_method_6_code, 1, (Option.some FieldType.boolean)),
  (yX12_kind, prog_14_method_7_code, 2, (Option.some FieldType.int)),
  (yX12_has, prog_14_method_8_code, 5, (Option.some FieldType.int)),
  (yX12_aimOf, prog_14_method_9_code, 4, (Option.some FieldType.int)),
  (yX12_aim, prog_14_method_10_code, 3, (Option.some FieldType.int)),
  (yX12_names, prog_14_method_11_code, 5, (Option.some FieldType.int)),
  (yX12_isUnder, prog_14_method_12_code, 4, (Option.some FieldType.boolean)),
  (yX12_under, prog_14_method_13_code, 3, (Option.some FieldType.int)),
  (yX12_isLine, prog_14_method_14_code, 2, (Option.some FieldType.boolean)),
  (yX12_isObject, prog_14_method_15_code, 2, (Option.some FieldType.boolean)),
  (yX12_kindOf, prog_14_method_16_code, 2, (Option.some FieldType.int)),
  (yX12_workOf, prog_14_method_17_code, 1, (Option.some FieldType.int)),
  (yX12_feed, prog_14_method_18_code, 5, (Option.some FieldType.int)),
  (yX12_here, prog_14_method_19_code, 1, (Option.some FieldType.int)),
  (yX12_sign, prog_14_method_20_code, 2, none),
  (yX12_one, prog_14_method_21_code, 4, (Option.some FieldType.int)),
  (yX12_read, prog_14_method_22_code, 2, none),
  (yX12_readBehind, prog_14_method_23_code, 2, none),
  (yX12_line, prog_14_method_24_code, 3, (Option.some FieldType.int)),
  (yX12_lineTold, prog_14_method_25_code, 3, (Option.some FieldType.int)),
  (yX12_turn, prog_14_method_26_code, 4, (Option.some FieldType.int)),
  (yX12_in_, prog_14_method_27_code, 4, (Option.some FieldType.int)),
  (yX12_kindFor, prog_14_method_28_code, 2, (Option.some FieldType.int)),
  (yX12_fieldAt, prog_14_method_29_code, 2, (Option.some FieldType.int)),
  (yX12_ofKind, prog_14_method_30_code, 5, (Option.some FieldType.int)),
  (yX12_calls, prog_14_method_31_code, 4, none),
  (yX12_allows, prog_14_method_32_code, 3, none),
  (yX12_round, prog_14_method_33_code, 3, (Option.some FieldType.boolean)),
  (yX12_begin, prog_14_method_34_code, 4, none),
  (yX12_workOut, prog_14_method_35_code, 3, none),
  (yX12_holds, prog_14_method_36_code, 2, (Option.some FieldType.int)),
  (yX12_field, prog_14_method_37_code, 3, (Option.some FieldType.int)),
  (yX12_still, prog_14_method_38_code, 1, (Option.some FieldType.int)),
  (yX12_way, prog_14_method_39_code, 5, (Option.some FieldType.int)),
  (yX12_byKinds, prog_14_method_40_code, 2, (Option.some FieldType.int)),
  (yX12_bitsOf, prog_14_method_41_code, 3, (Option.some FieldType.int)),
  (yX12_tooMuch, prog_14_method_42_code, 5, (Option.some FieldType.int)),
  (yX12_workOfAll, prog_14_method_43_code, 3, (Option.some FieldType.int)),
  (yX12_ask, prog_14_method_44_code, 11, (Option.some FieldType.int)),
  (yX12_cast, prog_14_method_45_code, 4, (Option.some FieldType.int)),
  (yX12_aimsOf, prog_14_method_46_code, 5, (Option.some FieldType.int)),
  (yX12_aims, prog_14_method_47_code, 2, (Option.some FieldType.int)),
  (yX12_dead, prog_14_method_48_code, 3, (Option.some FieldType.int)),
  (yX12_cut, prog_14_method_49_code, 6, (Option.some FieldType.long)),
  (yX12_same, prog_14_method_50_code, 3, (Option.some FieldType.int)),
  (yX12_reached, prog_14_method_51_code, 5, (Option.some FieldType.int)),
  (yX12_melted, prog_14_method_52_code, 4, (Option.some FieldType.int)),
  (yX12_leaves, prog_14_method_53_code, 5, (Option.some FieldType.int)),
  (yX12_isMoving, prog_14_method_54_code, 2, (Option.some FieldType.boolean)),
  (yX12_base, prog_14_method_55_code, 2, (Option.some FieldType.int)),
  (yX12_isRace, prog_14_method_56_code, 3, (Option.some FieldType.boolean)),
  (yX12_race, prog_14_method_57_code, 5, (Option.some FieldType.int)),
  (yX12_gets, prog_14_method_58_code, 3, none),
  (yX12_does, prog_14_method_59_code, 5, (Option.some FieldType.boolean)),
  (yX12_run, prog_14_method_60_code, 8, (Option.some FieldType.int)),
  (yX12_seen, prog_14_method_61_code, 2, (Option.some FieldType.int)),
  (yX12_now, prog_14_method_62_code, 2, (Option.some FieldType.int)),
  (yX12_count, prog_14_method_63_code, 4, (Option.some FieldType.int)),
  (yX12_isSheet, prog_14_method_64_code, 1, (Option.some FieldType.boolean)),
  (yX12_sheet, prog_14_method_65_code, 5, (Option.some FieldType.int)),
  (yX12_cell, prog_14_method_66_code, 4, (Option.some FieldType.int)),
  (yX12_copy, prog_14_method_67_code, 9, (Option.some FieldType.int)),
  (yX12_taped, prog_14_method_68_code, 6, (Option.some FieldType.int)),
  (yX12_over, prog_14_method_69_code, 1, (Option.some FieldType.int)),
  (yX12_taken, prog_14_method_70_code, 4, (Option.some FieldType.int)),
  (yJ7_fill_53178, prog_22_method_103_code, 4, none),
  (yJ6_bitCount_0f7a4, prog_16_method_49_code, 1, (Option.some FieldType.int)),
  (yJ6_numberOfTrailingZeros_0f7a4, prog_16_method_48_code, 2, (Option.some FieldType.int)),
  (yJ0_length_8abf5, prog_18_method_54_code, 1, (Option.some FieldType.int)),
  (yJ0_charAt_5068e, prog_18_method_56_code, 2, (Option.some FieldType.char)),
  (yJ0_indexOf_0f7a4, prog_18_method_79_code, 2, (Option.some FieldType.int)),
  (yJ0_coder_7d493, prog_18_method_152_code, 1, (Option.some FieldType.byte)),
  (yJ0_isLatin1_aae02, prog_18_method_154_code, 1, (Option.some FieldType.boolean)),
  (yJ0_indexOf_7cf53, prog_18_method_80_code, 3, (Option.some FieldType.int)),
  (yJ0_checkIndex_df160, prog_18_method_155_code, 2, none),
  (yJ1_charAt_3b067, prog_19_method_2_code, 2, (Option.some FieldType.char)),
  (yJ1_indexOf_4cfef, prog_19_method_22_code, 4, (Option.some FieldType.int)),
  (yJ1_canEncode_9a6ad, prog_19_method_4_code, 1, (Option.some FieldType.boolean)),
  (yJ1_indexOfChar_4cfef, prog_19_method_23_code, 6, (Option.some FieldType.int)),
  (yJ3_checkIndex_8e157, prog_23_method_11_code, 3, (Option.some FieldType.int))]
def am_m (y : Nat) : MethodName × ByteArray × Nat × Option FieldType := am_ml.getD y (yX0_sort, cX0_sort, 0, none)
def am_y (y : Nat) : MethodName := (am_m y).1
def am_b (y : Nat) : ByteArray := (am_m y).2.1
def am_nl (y : Nat) : Nat := (am_m y).2.2.1
def am_rt (y : Nat) : Option FieldType := (am_m y).2.2.2
def am_cw (y : Nat) : Cond := .code (am_y y) (am_b y) (am_nl y) (am_rt y)
def am_ws (y : Nat) : List Cond := am_cw y :: am_tbl
def am_NM : Nat := 224
set_option maxRecDepth 100000 in
theorem am_c_0 : lw_tbl[551]? = some (am_cw 0) := rfl
set_option maxRecDepth 100000 in
theorem am_c_1 : lw_tbl[610]? = some (am_cw 1) := rfl
set_option maxRecDepth 100000 in
theorem am_c_2 : lw_tbl[642]? = some (am_cw 2) := rfl
set_option maxRecDepth 100000 in
theorem am_c_3 : lw_tbl[630]? = some (am_cw 3) := rfl
set_option maxRecDepth 100000 in
theorem am_c_4 : lw_tbl[894]? = some (am_cw 4) := rfl
set_option maxRecDepth 100000 in
theorem am_c_5 : lw_tbl[700]? = some (am_cw 5) := rfl
set_option maxRecDepth 100000 in
theorem am_c_6 : lw_tbl[920]? = some (am_cw 6) := rfl
set_option maxRecDepth 100000 in
theorem am_c_7 : lw_tbl[457]? = some (am_cw 7) := rfl
set_option maxRecDepth 100000 in
theorem am_c_8 : lw_tbl[613]? = some (am_cw 8) := rfl
set_option maxRecDepth 100000 in
theorem am_c_9 : lw_tbl[649]? = some (am_cw 9) := rfl
set_option maxRecDepth 100000 in
theorem am_c_10 : lw_tbl[731]? = some (am_cw 10) := rfl
set_option maxRecDepth 100000 in
theorem am_c_11 : lw_tbl[933]? = some (am_cw 11) := rfl
set_option maxRecDepth 100000 in
theorem am_c_12 : lw_tbl[460]? = some (am_cw 12) := rfl
set_option maxRecDepth 100000 in
theorem am_c_13 : lw_tbl[623]? = some (am_cw 13) := rfl
set_option maxRecDepth 100000 in
theorem am_c_14 : lw_tbl[657]? = some (am_cw 14) := rfl
set_option maxRecDepth 100000 in
theorem am_c_15 : lw_tbl[635]? = some (am_cw 15) := rfl
set_option maxRecDepth 100000 in
theorem am_c_16 : lw_tbl[669]? = some (am_cw 16) := rfl
set_option maxRecDepth 100000 in
theorem am_c_17 : lw_tbl[903]? = some (am_cw 17) := rfl
set_option maxRecDepth 100000 in
theorem am_c_18 : lw_tbl[760]? = some (am_cw 18) := rfl
set_option maxRecDepth 100000 in
theorem am_c_19 : lw_tbl[956]? = some (am_cw 19) := rfl
set_option maxRecDepth 100000 in
theorem am_c_20 : lw_tbl[74]? = some (am_cw 20) := rfl
set_option maxRecDepth 100000 in
theorem am_c_21 : lw_tbl[224]? = some (am_cw 21) := rfl
set_option maxRecDepth 100000 in
theorem am_c_22 : lw_tbl[228]? = some (am_cw 22) := rfl
set_option maxRecDepth 100000 in
theorem am_c_23 : lw_tbl[236]? = some (am_cw 23) := rfl
set_option maxRecDepth 100000 in
theorem am_c_24 : lw_tbl[248]? = some (am_cw 24) := rfl
set_option maxRecDepth 100000 in
theorem am_c_25 : lw_tbl[256]? = some (am_cw 25) := rfl
set_option maxRecDepth 100000 in
theorem am_c_26 : lw_tbl[276]? = some (am_cw 26) := rfl
set_option maxRecDepth 100000 in
theorem am_c_27 : lw_tbl[267]? = some (am_cw 27) := rfl
set_option maxRecDepth 100000 in
theorem am_c_28 : lw_tbl[724]? = some (am_cw 28) := rfl
set_option maxRecDepth 100000 in
theorem am_c_29 : lw_tbl[383]? = some (am_cw 29) := rfl
set_option maxRecDepth 100000 in
theorem am_c_30 : lw_tbl[569]? = some (am_cw 30) := rfl
set_option maxRecDepth 100000 in
theorem am_c_31 : lw_tbl[779]? = some (am_cw 31) := rfl
set_option maxRecDepth 100000 in
theorem am_c_32 : lw_tbl[719]? = some (am_cw 32) := rfl
set_option maxRecDepth 100000 in
theorem am_c_33 : lw_tbl[805]? = some (am_cw 33) := rfl
set_option maxRecDepth 100000 in
theorem am_c_34 : lw_tbl[156]? = some (am_cw 34) := rfl
set_option maxRecDepth 100000 in
theorem am_c_35 : lw_tbl[911]? = some (am_cw 35) := rfl
set_option maxRecDepth 100000 in
theorem am_c_36 : lw_tbl[924]? = some (am_cw 36) := rfl
set_option maxRecDepth 100000 in
theorem am_c_37 : lw_tbl[966]? = some (am_cw 37) := rfl
set_option maxRecDepth 100000 in
theorem am_c_38 : lw_tbl[930]? = some (am_cw 38) := rfl
set_option maxRecDepth 100000 in
theorem am_c_39 : lw_tbl[938]? = some (am_cw 39) := rfl
set_option maxRecDepth 100000 in
theorem am_c_40 : lw_tbl[573]? = some (am_cw 40) := rfl
set_option maxRecDepth 100000 in
theorem am_c_41 : lw_tbl[616]? = some (am_cw 41) := rfl
set_option maxRecDepth 100000 in
theorem am_c_42 : lw_tbl[666]? = some (am_cw 42) := rfl
set_option maxRecDepth 100000 in
theorem am_c_43 : lw_tbl[742]? = some (am_cw 43) := rfl
set_option maxRecDepth 100000 in
theorem am_c_44 : lw_tbl[944]? = some (am_cw 44) := rfl
set_option maxRecDepth 100000 in
theorem am_c_45 : lw_tbl[523]? = some (am_cw 45) := rfl
set_option maxRecDepth 100000 in
theorem am_c_46 : lw_tbl[619]? = some (am_cw 46) := rfl
set_option maxRecDepth 100000 in
theorem am_c_47 : lw_tbl[645]? = some (am_cw 47) := rfl
set_option maxRecDepth 100000 in
theorem am_c_48 : lw_tbl[899]? = some (am_cw 48) := rfl
set_option maxRecDepth 100000 in
theorem am_c_49 : lw_tbl[746]? = some (am_cw 49) := rfl
set_option maxRecDepth 100000 in
theorem am_c_50 : lw_tbl[948]? = some (am_cw 50) := rfl
set_option maxRecDepth 100000 in
theorem am_c_51 : lw_tbl[121]? = some (am_cw 51) := rfl
set_option maxRecDepth 100000 in
theorem am_c_52 : lw_tbl[688]? = some (am_cw 52) := rfl
set_option maxRecDepth 100000 in
theorem am_c_53 : lw_tbl[692]? = some (am_cw 53) := rfl
set_option maxRecDepth 100000 in
theorem am_c_54 : lw_tbl[766]? = some (am_cw 54) := rfl
set_option maxRecDepth 100000 in
theorem am_c_55 : lw_tbl[770]? = some (am_cw 55) := rfl
set_option maxRecDepth 100000 in
theorem am_c_56 : lw_tbl[704]? = some (am_cw 56) := rfl
set_option maxRecDepth 100000 in
theorem am_c_57 : lw_tbl[728]? = some (am_cw 57) := rfl
set_option maxRecDepth 100000 in
theorem am_c_58 : lw_tbl[792]? = some (am_cw 58) := rfl
set_option maxRecDepth 100000 in
theorem am_c_59 : lw_tbl[715]? = some (am_cw 59) := rfl
set_option maxRecDepth 100000 in
theorem am_c_60 : lw_tbl[711]? = some (am_cw 60) := rfl
set_option maxRecDepth 100000 in
theorem am_c_61 : lw_tbl[736]? = some (am_cw 61) := rfl
set_option maxRecDepth 100000 in
theorem am_c_62 : lw_tbl[879]? = some (am_cw 62) := rfl
set_option maxRecDepth 100000 in
theorem am_c_63 : lw_tbl[175]? = some (am_cw 63) := rfl
set_option maxRecDepth 100000 in
theorem am_c_64 : lw_tbl[1000]? = some (am_cw 64) := rfl
set_option maxRecDepth 100000 in
theorem am_c_65 : lw_tbl[991]? = some (am_cw 65) := rfl
set_option maxRecDepth 100000 in
theorem am_c_66 : lw_tbl[1004]? = some (am_cw 66) := rfl
set_option maxRecDepth 100000 in
theorem am_c_67 : lw_tbl[1023]? = some (am_cw 67) := rfl
set_option maxRecDepth 100000 in
theorem am_c_68 : lw_tbl[1008]? = some (am_cw 68) := rfl
set_option maxRecDepth 100000 in
theorem am_c_69 : lw_tbl[105]? = some (am_cw 69) := rfl
set_option maxRecDepth 100000 in
theorem am_c_70 : lw_tbl[287]? = some (am_cw 70) := rfl
set_option maxRecDepth 100000 in
theorem am_c_71 : lw_tbl[291]? = some (am_cw 71) := rfl
set_option maxRecDepth 100000 in
theorem am_c_72 : lw_tbl[379]? = some (am_cw 72) := rfl
set_option maxRecDepth 100000 in
theorem am_c_73 : lw_tbl[326]? = some (am_cw 73) := rfl
set_option maxRecDepth 100000 in
theorem am_c_74 : lw_tbl[302]? = some (am_cw 74) := rfl
set_option maxRecDepth 100000 in
theorem am_c_75 : lw_tbl[367]? = some (am_cw 75) := rfl
set_option maxRecDepth 100000 in
theorem am_c_76 : lw_tbl[322]? = some (am_cw 76) := rfl
set_option maxRecDepth 100000 in
theorem am_c_77 : lw_tbl[299]? = some (am_cw 77) := rfl
set_option maxRecDepth 100000 in
theorem am_c_78 : lw_tbl[372]? = some (am_cw 78) := rfl
set_option maxRecDepth 100000 in
theorem am_c_79 : lw_tbl[391]? = some (am_cw 79) := rfl
set_option maxRecDepth 100000 in
theorem am_c_80 : lw_tbl[452]? = some (am_cw 80) := rfl
set_option maxRecDepth 100000 in
theorem am_c_81 : lw_tbl[537]? = some (am_cw 81) := rfl
set_option maxRecDepth 100000 in
theorem am_c_82 : lw_tbl[622]? = some (am_cw 82) := rfl
set_option maxRecDepth 100000 in
theorem am_c_83 : lw_tbl[655]? = some (am_cw 83) := rfl
set_option maxRecDepth 100000 in
theorem am_c_84 : lw_tbl[902]? = some (am_cw 84) := rfl
set_option maxRecDepth 100000 in
theorem am_c_85 : lw_tbl[755]? = some (am_cw 85) := rfl
set_option maxRecDepth 100000 in
theorem am_c_86 : lw_tbl[953]? = some (am_cw 86) := rfl
set_option maxRecDepth 100000 in
theorem am_c_87 : lw_tbl[66]? = some (am_cw 87) := rfl
set_option maxRecDepth 100000 in
theorem am_c_88 : lw_tbl[220]? = some (am_cw 88) := rfl
set_option maxRecDepth 100000 in
theorem am_c_89 : lw_tbl[241]? = some (am_cw 89) := rfl
set_option maxRecDepth 100000 in
theorem am_c_90 : lw_tbl[252]? = some (am_cw 90) := rfl
set_option maxRecDepth 100000 in
theorem am_c_91 : lw_tbl[260]? = some (am_cw 91) := rfl
set_option maxRecDepth 100000 in
theorem am_c_92 : lw_tbl[272]? = some (am_cw 92) := rfl
set_option maxRecDepth 100000 in
theorem am_c_93 : lw_tbl[283]? = some (am_cw 93) := rfl
set_option maxRecDepth 100000 in
theorem am_c_94 : lw_tbl[295]? = some (am_cw 94) := rfl
set_option maxRecDepth 100000 in
theorem am_c_95 : lw_tbl[599]? = some (am_cw 95) := rfl
set_option maxRecDepth 100000 in
theorem am_c_96 : lw_tbl[673]? = some (am_cw 96) := rfl
set_option maxRecDepth 100000 in
theorem am_c_97 : lw_tbl[677]? = some (am_cw 97) := rfl
set_option maxRecDepth 100000 in
theorem am_c_98 : lw_tbl[681]? = some (am_cw 98) := rfl
set_option maxRecDepth 100000 in
theorem am_c_99 : lw_tbl[775]? = some (am_cw 99) := rfl
set_option maxRecDepth 100000 in
theorem am_c_100 : lw_tbl[784]? = some (am_cw 100) := rfl
set_option maxRecDepth 100000 in
theorem am_c_101 : lw_tbl[788]? = some (am_cw 101) := rfl
set_option maxRecDepth 100000 in
theorem am_c_102 : lw_tbl[797]? = some (am_cw 102) := rfl
set_option maxRecDepth 100000 in
theorem am_c_103 : lw_tbl[801]? = some (am_cw 103) := rfl
set_option maxRecDepth 100000 in
theorem am_c_104 : lw_tbl[817]? = some (am_cw 104) := rfl
set_option maxRecDepth 100000 in
theorem am_c_105 : lw_tbl[831]? = some (am_cw 105) := rfl
set_option maxRecDepth 100000 in
theorem am_c_106 : lw_tbl[836]? = some (am_cw 106) := rfl
set_option maxRecDepth 100000 in
theorem am_c_107 : lw_tbl[845]? = some (am_cw 107) := rfl
set_option maxRecDepth 100000 in
theorem am_c_108 : lw_tbl[849]? = some (am_cw 108) := rfl
set_option maxRecDepth 100000 in
theorem am_c_109 : lw_tbl[855]? = some (am_cw 109) := rfl
set_option maxRecDepth 100000 in
theorem am_c_110 : lw_tbl[859]? = some (am_cw 110) := rfl
set_option maxRecDepth 100000 in
theorem am_c_111 : lw_tbl[871]? = some (am_cw 111) := rfl
set_option maxRecDepth 100000 in
theorem am_c_112 : lw_tbl[884]? = some (am_cw 112) := rfl
set_option maxRecDepth 100000 in
theorem am_c_113 : lw_tbl[907]? = some (am_cw 113) := rfl
set_option maxRecDepth 100000 in
theorem am_c_114 : lw_tbl[962]? = some (am_cw 114) := rfl
set_option maxRecDepth 100000 in
theorem am_c_115 : lw_tbl[970]? = some (am_cw 115) := rfl
set_option maxRecDepth 100000 in
theorem am_c_116 : lw_tbl[975]? = some (am_cw 116) := rfl
set_option maxRecDepth 100000 in
theorem am_c_117 : lw_tbl[983]? = some (am_cw 117) := rfl
set_option maxRecDepth 100000 in
theorem am_c_118 : lw_tbl[996]? = some (am_cw 118) := rfl
set_option maxRecDepth 100000 in
theorem am_c_119 : lw_tbl[1012]? = some (am_cw 119) := rfl
set_option maxRecDepth 100000 in
theorem am_c_120 : lw_tbl[1019]? = some (am_cw 120) := rfl
set_option maxRecDepth 100000 in
theorem am_c_121 : lw_tbl[1027]? = some (am_cw 121) := rfl
set_option maxRecDepth 100000 in
theorem am_c_122 : lw_tbl[244]? = some (am_cw 122) := rfl
set_option maxRecDepth 100000 in
theorem am_c_123 : lw_tbl[684]? = some (am_cw 123) := rfl
set_option maxRecDepth 100000 in
theorem am_c_124 : lw_tbl[263]? = some (am_cw 124) := rfl
set_option maxRecDepth 100000 in
theorem am_c_125 : lw_tbl[279]? = some (am_cw 125) := rfl
set_option maxRecDepth 100000 in
theorem am_c_126 : lw_tbl[707]? = some (am_cw 126) := rfl
set_option maxRecDepth 100000 in
theorem am_c_127 : lw_tbl[751]? = some (am_cw 127) := rfl
set_option maxRecDepth 100000 in
theorem am_c_128 : lw_tbl[603]? = some (am_cw 128) := rfl
set_option maxRecDepth 100000 in
theorem am_c_129 : lw_tbl[987]? = some (am_cw 129) := rfl
set_option maxRecDepth 100000 in
theorem am_c_130 : lw_tbl[387]? = some (am_cw 130) := rfl
set_option maxRecDepth 100000 in
theorem am_c_131 : lw_tbl[232]? = some (am_cw 131) := rfl
set_option maxRecDepth 100000 in
theorem am_c_132 : lw_tbl[979]? = some (am_cw 132) := rfl
set_option maxRecDepth 100000 in
theorem am_c_133 : lw_tbl[822]? = some (am_cw 133) := rfl
set_option maxRecDepth 100000 in
theorem am_c_134 : lw_tbl[827]? = some (am_cw 134) := rfl
set_option maxRecDepth 100000 in
theorem am_c_135 : lw_tbl[839]? = some (am_cw 135) := rfl
set_option maxRecDepth 100000 in
theorem am_c_136 : lw_tbl[863]? = some (am_cw 136) := rfl
set_option maxRecDepth 100000 in
theorem am_c_137 : lw_tbl[875]? = some (am_cw 137) := rfl
set_option maxRecDepth 100000 in
theorem am_c_138 : lw_tbl[887]? = some (am_cw 138) := rfl
set_option maxRecDepth 100000 in
theorem am_c_139 : lw_tbl[1030]? = some (am_cw 139) := rfl
set_option maxRecDepth 100000 in
theorem am_c_140 : lw_tbl[1159]? = some (am_cw 140) := rfl
set_option maxRecDepth 100000 in
theorem am_c_141 : lw_tbl[1035]? = some (am_cw 141) := rfl
set_option maxRecDepth 100000 in
theorem am_c_142 : lw_tbl[1156]? = some (am_cw 142) := rfl
set_option maxRecDepth 100000 in
theorem am_c_143 : lw_tbl[1247]? = some (am_cw 143) := rfl
set_option maxRecDepth 100000 in
theorem am_c_144 : lw_tbl[1166]? = some (am_cw 144) := rfl
set_option maxRecDepth 100000 in
theorem am_c_145 : lw_tbl[1152]? = some (am_cw 145) := rfl
set_option maxRecDepth 100000 in
theorem am_c_146 : lw_tbl[1163]? = some (am_cw 146) := rfl
set_option maxRecDepth 100000 in
theorem am_c_147 : lw_tbl[1177]? = some (am_cw 147) := rfl
set_option maxRecDepth 100000 in
theorem am_c_148 : lw_tbl[1173]? = some (am_cw 148) := rfl
set_option maxRecDepth 100000 in
theorem am_c_149 : lw_tbl[1181]? = some (am_cw 149) := rfl
set_option maxRecDepth 100000 in
theorem am_c_150 : lw_tbl[1190]? = some (am_cw 150) := rfl
set_option maxRecDepth 100000 in
theorem am_c_151 : lw_tbl[1186]? = some (am_cw 151) := rfl
set_option maxRecDepth 100000 in
theorem am_c_152 : lw_tbl[1229]? = some (am_cw 152) := rfl
set_option maxRecDepth 100000 in
theorem am_c_153 : lw_tbl[1290]? = some (am_cw 153) := rfl
set_option maxRecDepth 100000 in
theorem am_c_154 : lw_tbl[1275]? = some (am_cw 154) := rfl
set_option maxRecDepth 100000 in
theorem am_c_155 : lw_tbl[1232]? = some (am_cw 155) := rfl
set_option maxRecDepth 100000 in
theorem am_c_156 : lw_tbl[1194]? = some (am_cw 156) := rfl
set_option maxRecDepth 100000 in
theorem am_c_157 : lw_tbl[1213]? = some (am_cw 157) := rfl
set_option maxRecDepth 100000 in
theorem am_c_158 : lw_tbl[1217]? = some (am_cw 158) := rfl
set_option maxRecDepth 100000 in
theorem am_c_159 : lw_tbl[1209]? = some (am_cw 159) := rfl
set_option maxRecDepth 100000 in
theorem am_c_160 : lw_tbl[1205]? = some (am_cw 160) := rfl
set_option maxRecDepth 100000 in
theorem am_c_161 : lw_tbl[1221]? = some (am_cw 161) := rfl
set_option maxRecDepth 100000 in
theorem am_c_162 : lw_tbl[1200]? = some (am_cw 162) := rfl
set_option maxRecDepth 100000 in
theorem am_c_163 : lw_tbl[1225]? = some (am_cw 163) := rfl
set_option maxRecDepth 100000 in
theorem am_c_164 : lw_tbl[1236]? = some (am_cw 164) := rfl
set_option maxRecDepth 100000 in
theorem am_c_165 : lw_tbl[1240]? = some (am_cw 165) := rfl
set_option maxRecDepth 100000 in
theorem am_c_166 : lw_tbl[1271]? = some (am_cw 166) := rfl
set_option maxRecDepth 100000 in
theorem am_c_167 : lw_tbl[1278]? = some (am_cw 167) := rfl
set_option maxRecDepth 100000 in
theorem am_c_168 : lw_tbl[1267]? = some (am_cw 168) := rfl
set_option maxRecDepth 100000 in
theorem am_c_169 : lw_tbl[1282]? = some (am_cw 169) := rfl
set_option maxRecDepth 100000 in
theorem am_c_170 : lw_tbl[1263]? = some (am_cw 170) := rfl
set_option maxRecDepth 100000 in
theorem am_c_171 : lw_tbl[1259]? = some (am_cw 171) := rfl
set_option maxRecDepth 100000 in
theorem am_c_172 : lw_tbl[1255]? = some (am_cw 172) := rfl
set_option maxRecDepth 100000 in
theorem am_c_173 : lw_tbl[1251]? = some (am_cw 173) := rfl
set_option maxRecDepth 100000 in
theorem am_c_174 : lw_tbl[1244]? = some (am_cw 174) := rfl
set_option maxRecDepth 100000 in
theorem am_c_175 : lw_tbl[1286]? = some (am_cw 175) := rfl
set_option maxRecDepth 100000 in
theorem am_c_176 : lw_tbl[1294]? = some (am_cw 176) := rfl
set_option maxRecDepth 100000 in
theorem am_c_177 : lw_tbl[1298]? = some (am_cw 177) := rfl
set_option maxRecDepth 100000 in
theorem am_c_178 : lw_tbl[1302]? = some (am_cw 178) := rfl
set_option maxRecDepth 100000 in
theorem am_c_179 : lw_tbl[1309]? = some (am_cw 179) := rfl
set_option maxRecDepth 100000 in
theorem am_c_180 : lw_tbl[1306]? = some (am_cw 180) := rfl
set_option maxRecDepth 100000 in
theorem am_c_181 : lw_tbl[1318]? = some (am_cw 181) := rfl
set_option maxRecDepth 100000 in
theorem am_c_182 : lw_tbl[1313]? = some (am_cw 182) := rfl
set_option maxRecDepth 100000 in
theorem am_c_183 : lw_tbl[1322]? = some (am_cw 183) := rfl
set_option maxRecDepth 100000 in
theorem am_c_184 : lw_tbl[1330]? = some (am_cw 184) := rfl
set_option maxRecDepth 100000 in
theorem am_c_185 : lw_tbl[1326]? = some (am_cw 185) := rfl
set_option maxRecDepth 100000 in
theorem am_c_186 : lw_tbl[1334]? = some (am_cw 186) := rfl
set_option maxRecDepth 100000 in
theorem am_c_187 : lw_tbl[1338]? = some (am_cw 187) := rfl
set_option maxRecDepth 100000 in
theorem am_c_188 : lw_tbl[1343]? = some (am_cw 188) := rfl
set_option maxRecDepth 100000 in
theorem am_c_189 : lw_tbl[1351]? = some (am_cw 189) := rfl
set_option maxRecDepth 100000 in
theorem am_c_190 : lw_tbl[1347]? = some (am_cw 190) := rfl
set_option maxRecDepth 100000 in
theorem am_c_191 : lw_tbl[1355]? = some (am_cw 191) := rfl
set_option maxRecDepth 100000 in
theorem am_c_192 : lw_tbl[1367]? = some (am_cw 192) := rfl
set_option maxRecDepth 100000 in
theorem am_c_193 : lw_tbl[1371]? = some (am_cw 193) := rfl
set_option maxRecDepth 100000 in
theorem am_c_194 : lw_tbl[1363]? = some (am_cw 194) := rfl
set_option maxRecDepth 100000 in
theorem am_c_195 : lw_tbl[1359]? = some (am_cw 195) := rfl
set_option maxRecDepth 100000 in
theorem am_c_196 : lw_tbl[1386]? = some (am_cw 196) := rfl
set_option maxRecDepth 100000 in
theorem am_c_197 : lw_tbl[1382]? = some (am_cw 197) := rfl
set_option maxRecDepth 100000 in
theorem am_c_198 : lw_tbl[1375]? = some (am_cw 198) := rfl
set_option maxRecDepth 100000 in
theorem am_c_199 : lw_tbl[1390]? = some (am_cw 199) := rfl
set_option maxRecDepth 100000 in
theorem am_c_200 : lw_tbl[1394]? = some (am_cw 200) := rfl
set_option maxRecDepth 100000 in
theorem am_c_201 : lw_tbl[1398]? = some (am_cw 201) := rfl
set_option maxRecDepth 100000 in
theorem am_c_202 : lw_tbl[1405]? = some (am_cw 202) := rfl
set_option maxRecDepth 100000 in
theorem am_c_203 : lw_tbl[1402]? = some (am_cw 203) := rfl
set_option maxRecDepth 100000 in
theorem am_c_204 : lw_tbl[1409]? = some (am_cw 204) := rfl
set_option maxRecDepth 100000 in
theorem am_c_205 : lw_tbl[1413]? = some (am_cw 205) := rfl
set_option maxRecDepth 100000 in
theorem am_c_206 : lw_tbl[1417]? = some (am_cw 206) := rfl
set_option maxRecDepth 100000 in
theorem am_c_207 : lw_tbl[1425]? = some (am_cw 207) := rfl
set_option maxRecDepth 100000 in
theorem am_c_208 : lw_tbl[1422]? = some (am_cw 208) := rfl
set_option maxRecDepth 100000 in
theorem am_c_209 : lw_tbl[78]? = some (am_cw 209) := rfl
set_option maxRecDepth 100000 in
theorem am_c_210 : lw_tbl[810]? = some (am_cw 210) := rfl
set_option maxRecDepth 100000 in
theorem am_c_211 : lw_tbl[866]? = some (am_cw 211) := rfl
set_option maxRecDepth 100000 in
theorem am_c_212 : lw_tbl[312]? = some (am_cw 212) := rfl
set_option maxRecDepth 100000 in
theorem am_c_213 : lw_tbl[330]? = some (am_cw 213) := rfl
set_option maxRecDepth 100000 in
theorem am_c_214 : lw_tbl[395]? = some (am_cw 214) := rfl
set_option maxRecDepth 100000 in
theorem am_c_215 : lw_tbl[316]? = some (am_cw 215) := rfl
set_option maxRecDepth 100000 in
theorem am_c_216 : lw_tbl[334]? = some (am_cw 216) := rfl
set_option maxRecDepth 100000 in
theorem am_c_217 : lw_tbl[399]? = some (am_cw 217) := rfl
set_option maxRecDepth 100000 in
theorem am_c_218 : lw_tbl[340]? = some (am_cw 218) := rfl
set_option maxRecDepth 100000 in
theorem am_c_219 : lw_tbl[337]? = some (am_cw 219) := rfl
set_option maxRecDepth 100000 in
theorem am_c_220 : lw_tbl[403]? = some (am_cw 220) := rfl
set_option maxRecDepth 100000 in
theorem am_c_221 : lw_tbl[406]? = some (am_cw 221) := rfl
set_option maxRecDepth 100000 in
theorem am_c_222 : lw_tbl[413]? = some (am_cw 222) := rfl
set_option maxRecDepth 100000 in
theorem am_c_223 : lw_tbl[345]? = some (am_cw 223) := rfl
