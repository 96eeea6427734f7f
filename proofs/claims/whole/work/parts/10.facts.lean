theorem F_X6_init : YF yX6_init cX6_init 1 (Option.none : Option ClassFile.FieldType) 0 := ⟨q55, q27, by decide, by decide, by decide +kernel⟩
theorem F_X0_init : YF yX0_init cX0_init 2 (Option.none : Option ClassFile.FieldType) 0 := ⟨q63, q28, by decide, by decide, by decide +kernel⟩
theorem F_X2_init : YF yX2_init cX2_init 2 (Option.none : Option ClassFile.FieldType) 0 := ⟨q70, q29, by decide, by decide, by decide +kernel⟩
theorem F_Jx4a65c_init_da8c8 : YF yJx4a65c_init_da8c8 cJx4a65c_init_da8c8 1 (Option.none : Option ClassFile.FieldType) 0 := ⟨q78, q32, by decide, by decide, by decide +kernel⟩
theorem F_Jxc12de_init_da8c8 : YF yJxc12de_init_da8c8 cJxc12de_init_da8c8 1 (Option.none : Option ClassFile.FieldType) 0 := ⟨q81, q31, by decide, by decide, by decide +kernel⟩
theorem F_Jxa1e45_init_da8c8 : YF yJxa1e45_init_da8c8 cJxa1e45_init_da8c8 1 (Option.none : Option ClassFile.FieldType) 0 := ⟨q84, q30, by decide, by decide, by decide +kernel⟩
theorem F_X1_init : YF yX1_init cX1_init 1 (Option.none : Option ClassFile.FieldType) 0 := ⟨q104, q33, by decide, by decide, by decide +kernel⟩
theorem F_X5_init : YF yX5_init cX5_init 1 (Option.none : Option ClassFile.FieldType) 0 := ⟨q110, q34, by decide, by decide, by decide +kernel⟩
theorem F_X3_init : YF yX3_init cX3_init 1 (Option.none : Option ClassFile.FieldType) 0 := ⟨q189, q35, by decide, by decide, by decide +kernel⟩
theorem F_X6_entry : YF yX6_entry cX6_entry 2 (Option.some ClassFile.FieldType.int) 1 := ⟨q228, q27, by decide, by decide, by decide +kernel⟩
theorem F_X6_requireDevice : YF yX6_requireDevice cX6_requireDevice 1 (Option.none : Option ClassFile.FieldType) 1 := ⟨q231, q27, by decide, by decide, by decide +kernel⟩
theorem F_X6_isDevice : YF yX6_isDevice cX6_isDevice 1 (Option.some ClassFile.FieldType.boolean) 1 := ⟨q234, q27, by decide, by decide, by decide +kernel⟩
theorem F_X6_requireRoomInJournal : YF yX6_requireRoomInJournal cX6_requireRoomInJournal 1 (Option.none : Option ClassFile.FieldType) 0 := ⟨q322, q27, by decide, by decide, by decide +kernel⟩
theorem F_X3_isFull : YF yX3_isFull cX3_isFull 1 (Option.some ClassFile.FieldType.boolean) 0 := ⟨q326, q35, by decide, by decide, by decide +kernel⟩
theorem F_X3_write : YF yX3_write cX3_write 6 (Option.none : Option ClassFile.FieldType) 5 := ⟨q331, q35, by decide, by decide, by decide +kernel⟩
theorem F_X0_makeEntry : YF yX0_makeEntry cX0_makeEntry 3 (Option.some ClassFile.FieldType.int) 1 := ⟨q336, q28, by decide, by decide, by decide +kernel⟩
theorem F_X6_personOf : YF yX6_personOf cX6_personOf 1 (Option.some ClassFile.FieldType.int) 1 := ⟨q340, q27, by decide, by decide, by decide +kernel⟩
theorem F_X6_tell : YF yX6_tell cX6_tell 6 (Option.some ClassFile.FieldType.int) 4 := ⟨q348, q27, by decide, by decide, by decide +kernel⟩
theorem F_X6_knownEntry : YF yX6_knownEntry cX6_knownEntry 4 (Option.some (ClassFile.FieldType.object "BraidBook$Entry")) 3 := ⟨q351, q27, by decide, by decide, by decide +kernel⟩
theorem F_X0_find : YF yX0_find cX0_find 2 (Option.some (ClassFile.FieldType.object "BraidBook$Entry")) 1 := ⟨q355, q28, by decide, by decide, by decide +kernel⟩
theorem F_X6_requireField : YF yX6_requireField cX6_requireField 1 (Option.none : Option ClassFile.FieldType) 1 := ⟨q359, q27, by decide, by decide, by decide +kernel⟩
theorem F_X6_isField : YF yX6_isField cX6_isField 1 (Option.some ClassFile.FieldType.boolean) 1 := ⟨q362, q27, by decide, by decide, by decide +kernel⟩
theorem F_X2_fieldsFor : YF yX2_fieldsFor cX2_fieldsFor 3 (Option.some ClassFile.FieldType.int) 1 := ⟨q383, q29, by decide, by decide, by decide +kernel⟩
theorem F_X6_contains : YF yX6_contains cX6_contains 2 (Option.some ClassFile.FieldType.boolean) 2 := ⟨q387, q27, by decide, by decide, by decide +kernel⟩
theorem F_X0_tellValue : YF yX0_tellValue cX0_tellValue 10 (Option.some ClassFile.FieldType.int) 4 := ⟨q392, q28, by decide, by decide, by decide +kernel⟩
theorem F_X1_countValues : YF yX1_countValues cX1_countValues 4 (Option.some ClassFile.FieldType.int) 1 := ⟨q398, q33, by decide, by decide, by decide +kernel⟩
theorem F_X6_cell : YF yX6_cell cX6_cell 2 (Option.some ClassFile.FieldType.int) 2 := ⟨q401, q27, by decide, by decide, by decide +kernel⟩
theorem F_X1_dropValues : YF yX1_dropValues cX1_dropValues 3 (Option.none : Option ClassFile.FieldType) 1 := ⟨q405, q33, by decide, by decide, by decide +kernel⟩
theorem F_X0_nextAct : YF yX0_nextAct cX0_nextAct 2 (Option.some ClassFile.FieldType.int) 1 := ⟨q409, q28, by decide, by decide, by decide +kernel⟩
theorem F_X6_delete : YF yX6_delete cX6_delete 4 (Option.some ClassFile.FieldType.int) 2 := ⟨q417, q27, by decide, by decide, by decide +kernel⟩
theorem F_X6_requireOwner : YF yX6_requireOwner cX6_requireOwner 2 (Option.none : Option ClassFile.FieldType) 2 := ⟨q420, q27, by decide, by decide, by decide +kernel⟩
theorem F_X2_stateOn : YF yX2_stateOn cX2_stateOn 3 (Option.some ClassFile.FieldType.int) 1 := ⟨q426, q29, by decide, by decide, by decide +kernel⟩
theorem F_X2_isCovered : YF yX2_isCovered cX2_isCovered 4 (Option.some ClassFile.FieldType.boolean) 1 := ⟨q430, q29, by decide, by decide, by decide +kernel⟩
theorem F_Jx4a65c_size_8abf5 : YF yJx4a65c_size_8abf5 cJx4a65c_size_8abf5 1 (Option.some ClassFile.FieldType.int) 0 := ⟨q434, q32, by decide, by decide, by decide +kernel⟩
theorem F_Jx4a65c_get_915e3 : YF yJx4a65c_get_915e3 cJx4a65c_get_915e3 2 (Option.some (ClassFile.FieldType.object "java/lang/Object")) 1 := ⟨q438, q32, by decide, by decide, by decide +kernel⟩
theorem F_J15_checkIndex_7cf53 : YF yJ15_checkIndex_7cf53 cJ15_checkIndex_7cf53 2 (Option.some ClassFile.FieldType.int) 2 := ⟨q441, q43, by decide, by decide, by decide +kernel⟩
theorem F_J3_checkIndex_8e157 : YF yJ3_checkIndex_8e157 cJ3_checkIndex_8e157 3 (Option.some ClassFile.FieldType.int) 3 := ⟨q444, q44, by decide, by decide, by decide +kernel⟩
theorem F_Jx4a65c_elementData_915e3 : YF yJx4a65c_elementData_915e3 cJx4a65c_elementData_915e3 2 (Option.some (ClassFile.FieldType.object "java/lang/Object")) 1 := ⟨q448, q32, by decide, by decide, by decide +kernel⟩
theorem F_X4_isKnownOn : YF yX4_isKnownOn cX4_isKnownOn 2 (Option.some ClassFile.FieldType.boolean) 1 := ⟨q453, q45, by decide, by decide, by decide +kernel⟩
theorem F_X5_coverAll : YF yX5_coverAll cX5_coverAll 3 (Option.some ClassFile.FieldType.boolean) 1 := ⟨q457, q34, by decide, by decide, by decide +kernel⟩
theorem F_X1_countAllValues : YF yX1_countAllValues cX1_countAllValues 3 (Option.some ClassFile.FieldType.int) 0 := ⟨q461, q33, by decide, by decide, by decide +kernel⟩
theorem F_X0_setMark : YF yX0_setMark cX0_setMark 4 (Option.some ClassFile.FieldType.int) 2 := ⟨q466, q28, by decide, by decide, by decide +kernel⟩
theorem F_X2_addMark : YF yX2_addMark cX2_addMark 3 (Option.none : Option ClassFile.FieldType) 2 := ⟨q470, q29, by decide, by decide, by decide +kernel⟩
theorem F_X4_init : YF yX4_init cX4_init 1 (Option.none : Option ClassFile.FieldType) 0 := ⟨q474, q45, by decide, by decide, by decide +kernel⟩
theorem F_Jx4a65c_add_9ea2d : YF yJx4a65c_add_9ea2d cJx4a65c_add_9ea2d 2 (Option.some ClassFile.FieldType.boolean) 1 := ⟨q490, q32, by decide, by decide, by decide +kernel⟩
theorem F_Jx4a65c_add_72be8 : YF yJx4a65c_add_72be8 cJx4a65c_add_72be8 4 (Option.none : Option ClassFile.FieldType) 3 := ⟨q494, q32, by decide, by decide, by decide +kernel⟩
theorem F_Jx4a65c_grow_d5877 : YF yJx4a65c_grow_d5877 cJx4a65c_grow_d5877 1 (Option.some (ClassFile.FieldType.array (ClassFile.FieldType.object "java/lang/Object"))) 0 := ⟨q498, q32, by decide, by decide, by decide +kernel⟩
theorem F_Jx4a65c_grow_92f84 : YF yJx4a65c_grow_92f84 cJx4a65c_grow_92f84 4 (Option.some (ClassFile.FieldType.array (ClassFile.FieldType.object "java/lang/Object"))) 1 := ⟨q502, q32, by decide, by decide, by decide +kernel⟩
theorem F_J8_newLength_cabcc : YF yJ8_newLength_cabcc cJ8_newLength_cabcc 4 (Option.some ClassFile.FieldType.int) 3 := ⟨q505, q46, by decide, by decide, by decide +kernel⟩
theorem F_J9_max_7cf53 : YF yJ9_max_7cf53 cJ9_max_7cf53 2 (Option.some ClassFile.FieldType.int) 2 := ⟨q508, q47, by decide, by decide, by decide +kernel⟩
theorem F_J8_hugeLength_7cf53 : YF yJ8_hugeLength_7cf53 cJ8_hugeLength_7cf53 3 (Option.some ClassFile.FieldType.int) 2 := ⟨q512, q46, by decide, by decide, by decide +kernel⟩
theorem F_J7_copyOf_1904c : YF yJ7_copyOf_1904c cJ7_copyOf_1904c 2 (Option.some (ClassFile.FieldType.array (ClassFile.FieldType.object "java/lang/Object"))) 2 := ⟨q515, q48, by decide, by decide, by decide +kernel⟩
theorem F_J7_copyOf_6403c : YF yJ7_copyOf_6403c cJ7_copyOf_6403c 4 (Option.some (ClassFile.FieldType.array (ClassFile.FieldType.object "java/lang/Object"))) 3 := ⟨q534, q48, by decide, by decide, by decide +kernel⟩
theorem F_J9_min_7cf53 : YF yJ9_min_7cf53 cJ9_min_7cf53 2 (Option.some ClassFile.FieldType.int) 2 := ⟨q540, q47, by decide, by decide, by decide +kernel⟩
theorem F_X4_set : YF yX4_set cX4_set 5 (Option.none : Option ClassFile.FieldType) 3 := ⟨q549, q45, by decide, by decide, by decide +kernel⟩
theorem F_X5_clear : YF yX5_clear cX5_clear 2 (Option.none : Option ClassFile.FieldType) 0 := ⟨q553, q34, by decide, by decide, by decide +kernel⟩
theorem F_X5_raiseTo : YF yX5_raiseTo cX5_raiseTo 3 (Option.none : Option ClassFile.FieldType) 1 := ⟨q557, q34, by decide, by decide, by decide +kernel⟩
theorem F_X6_share : YF yX6_share cX6_share 6 (Option.some ClassFile.FieldType.int) 4 := ⟨q566, q27, by decide, by decide, by decide +kernel⟩
theorem F_X6_isPerson : YF yX6_isPerson cX6_isPerson 1 (Option.some ClassFile.FieldType.boolean) 1 := ⟨q569, q27, by decide, by decide, by decide +kernel⟩
theorem F_X0_shareFields : YF yX0_shareFields cX0_shareFields 7 (Option.some ClassFile.FieldType.int) 3 := ⟨q576, q28, by decide, by decide, by decide +kernel⟩
theorem F_X1_keepFields : YF yX1_keepFields cX1_keepFields 3 (Option.none : Option ClassFile.FieldType) 1 := ⟨q581, q33, by decide, by decide, by decide +kernel⟩
theorem F_X6_merge : YF yX6_merge cX6_merge 3 (Option.some ClassFile.FieldType.int) 2 := ⟨q589, q27, by decide, by decide, by decide +kernel⟩
theorem F_X0_mergeDevices : YF yX0_mergeDevices cX0_mergeDevices 5 (Option.some ClassFile.FieldType.int) 2 := ⟨q594, q28, by decide, by decide, by decide +kernel⟩
theorem F_X2_mergeOn : YF yX2_mergeOn cX2_mergeOn 6 (Option.some ClassFile.FieldType.int) 3 := ⟨q598, q29, by decide, by decide, by decide +kernel⟩
theorem F_X2_isOutdated : YF yX2_isOutdated cX2_isOutdated 5 (Option.some ClassFile.FieldType.boolean) 2 := ⟨q603, q29, by decide, by decide, by decide +kernel⟩
theorem F_X2_forget : YF yX2_forget cX2_forget 5 (Option.none : Option ClassFile.FieldType) 1 := ⟨q607, q29, by decide, by decide, by decide +kernel⟩
theorem F_X2_braid : YF yX2_braid cX2_braid 7 (Option.some ClassFile.FieldType.int) 4 := ⟨q613, q29, by decide, by decide, by decide +kernel⟩
theorem F_X1_braid : YF yX1_braid cX1_braid 7 (Option.some ClassFile.FieldType.int) 2 := ⟨q618, q33, by decide, by decide, by decide +kernel⟩
theorem F_X1_braidCell : YF yX1_braidCell cX1_braidCell 5 (Option.some ClassFile.FieldType.int) 2 := ⟨q622, q33, by decide, by decide, by decide +kernel⟩
theorem F_X4_spread : YF yX4_spread cX4_spread 4 (Option.none : Option ClassFile.FieldType) 3 := ⟨q627, q45, by decide, by decide, by decide +kernel⟩
theorem F_X1_exchangeNotes : YF yX1_exchangeNotes cX1_exchangeNotes 2 (Option.none : Option ClassFile.FieldType) 1 := ⟨q632, q33, by decide, by decide, by decide +kernel⟩
theorem F_X6_pass : YF yX6_pass cX6_pass 2 (Option.some ClassFile.FieldType.int) 1 := ⟨q640, q27, by decide, by decide, by decide +kernel⟩
theorem F_X0_passMonths : YF yX0_passMonths cX0_passMonths 4 (Option.some ClassFile.FieldType.int) 1 := ⟨q645, q28, by decide, by decide, by decide +kernel⟩
theorem F_X2_forgetWhereOld : YF yX2_forgetWhereOld cX2_forgetWhereOld 4 (Option.some ClassFile.FieldType.int) 1 := ⟨q649, q29, by decide, by decide, by decide +kernel⟩
theorem F_X2_newestMark : YF yX2_newestMark cX2_newestMark 4 (Option.some ClassFile.FieldType.int) 1 := ⟨q654, q29, by decide, by decide, by decide +kernel⟩
theorem F_X6_state : YF yX6_state cX6_state 4 (Option.some ClassFile.FieldType.int) 2 := ⟨q662, q27, by decide, by decide, by decide +kernel⟩
theorem F_X6_value : YF yX6_value cX6_value 5 (Option.some ClassFile.FieldType.int) 4 := ⟨q670, q27, by decide, by decide, by decide +kernel⟩
theorem F_X6_valueIn : YF yX6_valueIn cX6_valueIn 7 (Option.some ClassFile.FieldType.int) 5 := ⟨q673, q27, by decide, by decide, by decide +kernel⟩
theorem F_X1_valueAt : YF yX1_valueAt cX1_valueAt 6 (Option.some ClassFile.FieldType.int) 2 := ⟨q679, q33, by decide, by decide, by decide +kernel⟩
theorem F_X6_valueAnew : YF yX6_valueAnew cX6_valueAnew 5 (Option.some ClassFile.FieldType.int) 4 := ⟨q686, q27, by decide, by decide, by decide +kernel⟩
theorem F_X0_clear : YF yX0_clear cX0_clear 2 (Option.none : Option ClassFile.FieldType) 0 := ⟨q690, q28, by decide, by decide, by decide +kernel⟩
theorem F_X2_clear : YF yX2_clear cX2_clear 2 (Option.none : Option ClassFile.FieldType) 0 := ⟨q694, q29, by decide, by decide, by decide +kernel⟩
theorem F_X1_clear : YF yX1_clear cX1_clear 1 (Option.none : Option ClassFile.FieldType) 0 := ⟨q698, q33, by decide, by decide, by decide +kernel⟩
theorem F_X3_repeatOn : YF yX3_repeatOn cX3_repeatOn 6 (Option.none : Option ClassFile.FieldType) 1 := ⟨q704, q35, by decide, by decide, by decide +kernel⟩
theorem F_X6_values : YF yX6_values cX6_values 5 (Option.some ClassFile.FieldType.int) 3 := ⟨q717, q27, by decide, by decide, by decide +kernel⟩
theorem F_X6_seen : YF yX6_seen cX6_seen 6 (Option.some ClassFile.FieldType.int) 4 := ⟨q724, q27, by decide, by decide, by decide +kernel⟩
theorem F_X6_marks : YF yX6_marks cX6_marks 6 (Option.some ClassFile.FieldType.int) 2 := ⟨q732, q27, by decide, by decide, by decide +kernel⟩
theorem F_X2_countMarks : YF yX2_countMarks cX2_countMarks 4 (Option.some ClassFile.FieldType.int) 1 := ⟨q736, q29, by decide, by decide, by decide +kernel⟩
theorem F_X6_clashes : YF yX6_clashes cX6_clashes 2 (Option.some ClassFile.FieldType.int) 1 := ⟨q745, q27, by decide, by decide, by decide +kernel⟩
theorem F_X0_countClashes : YF yX0_countClashes cX0_countClashes 4 (Option.some ClassFile.FieldType.int) 1 := ⟨q749, q28, by decide, by decide, by decide +kernel⟩
theorem F_X1_countClashes : YF yX1_countClashes cX1_countClashes 3 (Option.some ClassFile.FieldType.int) 0 := ⟨q754, q33, by decide, by decide, by decide +kernel⟩
theorem F_X6_agreement : YF yX6_agreement cX6_agreement 4 (Option.some ClassFile.FieldType.float) 2 := ⟨q762, q27, by decide, by decide, by decide +kernel⟩
theorem F_X0_countCompared : YF yX0_countCompared cX0_countCompared 5 (Option.some ClassFile.FieldType.int) 2 := ⟨q766, q28, by decide, by decide, by decide +kernel⟩
theorem F_X2_comparedFields : YF yX2_comparedFields cX2_comparedFields 3 (Option.some ClassFile.FieldType.int) 2 := ⟨q770, q29, by decide, by decide, by decide +kernel⟩
theorem F_J6_bitCount_0f7a4 : YF yJ6_bitCount_0f7a4 cJ6_bitCount_0f7a4 1 (Option.some ClassFile.FieldType.int) 1 := ⟨q773, q50, by decide, by decide, by decide +kernel⟩
theorem F_X0_countSame : YF yX0_countSame cX0_countSame 5 (Option.some ClassFile.FieldType.int) 2 := ⟨q780, q28, by decide, by decide, by decide +kernel⟩
theorem F_X2_countSame : YF yX2_countSame cX2_countSame 6 (Option.some ClassFile.FieldType.int) 2 := ⟨q784, q29, by decide, by decide, by decide +kernel⟩
theorem F_X1_hasSameValues : YF yX1_hasSameValues cX1_hasSameValues 4 (Option.some ClassFile.FieldType.boolean) 2 := ⟨q789, q33, by decide, by decide, by decide +kernel⟩
theorem F_X7_init : YF yX7_init cX7_init 1 (Option.none : Option ClassFile.FieldType) 0 := ⟨q794, q36, by decide, by decide, by decide +kernel⟩
theorem F_X7_thrown : YF yX7_thrown cX7_thrown 1 (Option.some ClassFile.FieldType.int) 0 := ⟨q852, q36, by decide, by decide, by decide +kernel⟩
theorem F_X7_entry : YF yX7_entry cX7_entry 3 (Option.some ClassFile.FieldType.int) 1 := ⟨q856, q36, by decide, by decide, by decide +kernel⟩
theorem F_X7_isDevice : YF yX7_isDevice cX7_isDevice 1 (Option.some ClassFile.FieldType.boolean) 1 := ⟨q859, q36, by decide, by decide, by decide +kernel⟩
theorem F_X7_isIn : YF yX7_isIn cX7_isIn 3 (Option.some ClassFile.FieldType.boolean) 3 := ⟨q862, q36, by decide, by decide, by decide +kernel⟩
theorem F_X7_fails : YF yX7_fails cX7_fails 2 (Option.some ClassFile.FieldType.boolean) 1 := ⟨q866, q36, by decide, by decide, by decide +kernel⟩
theorem F_X7_pair : YF yX7_pair cX7_pair 2 (Option.some ClassFile.FieldType.int) 2 := ⟨q869, q36, by decide, by decide, by decide +kernel⟩
theorem F_X7_tell : YF yX7_tell cX7_tell 8 (Option.some ClassFile.FieldType.int) 4 := ⟨q873, q36, by decide, by decide, by decide +kernel⟩
theorem F_X7_isKnown : YF yX7_isKnown cX7_isKnown 3 (Option.some ClassFile.FieldType.boolean) 2 := ⟨q877, q36, by decide, by decide, by decide +kernel⟩
theorem F_X7_isEntry : YF yX7_isEntry cX7_isEntry 2 (Option.some ClassFile.FieldType.boolean) 1 := ⟨q881, q36, by decide, by decide, by decide +kernel⟩
theorem F_X7_isField : YF yX7_isField cX7_isField 1 (Option.some ClassFile.FieldType.boolean) 1 := ⟨q884, q36, by decide, by decide, by decide +kernel⟩
theorem F_X7_may : YF yX7_may cX7_may 4 (Option.some ClassFile.FieldType.boolean) 3 := ⟨q888, q36, by decide, by decide, by decide +kernel⟩
theorem F_X7_count : YF yX7_count cX7_count 6 (Option.some ClassFile.FieldType.int) 3 := ⟨q892, q36, by decide, by decide, by decide +kernel⟩
theorem F_X7_place : YF yX7_place cX7_place 4 (Option.some ClassFile.FieldType.int) 4 := ⟨q895, q36, by decide, by decide, by decide +kernel⟩
theorem F_X7_delete : YF yX7_delete cX7_delete 5 (Option.some ClassFile.FieldType.int) 2 := ⟨q899, q36, by decide, by decide, by decide +kernel⟩
theorem F_X7_isThere : YF yX7_isThere cX7_isThere 3 (Option.some ClassFile.FieldType.boolean) 2 := ⟨q903, q36, by decide, by decide, by decide +kernel⟩
theorem F_X7_all : YF yX7_all cX7_all 5 (Option.some ClassFile.FieldType.int) 2 := ⟨q907, q36, by decide, by decide, by decide +kernel⟩
theorem F_X7_isCovered : YF yX7_isCovered cX7_isCovered 5 (Option.some ClassFile.FieldType.boolean) 2 := ⟨q911, q36, by decide, by decide, by decide +kernel⟩
theorem F_X7_isKnownMark : YF yX7_isKnownMark cX7_isKnownMark 3 (Option.some ClassFile.FieldType.boolean) 2 := ⟨q915, q36, by decide, by decide, by decide +kernel⟩
theorem F_X7_covers : YF yX7_covers cX7_covers 6 (Option.some ClassFile.FieldType.boolean) 3 := ⟨q919, q36, by decide, by decide, by decide +kernel⟩
theorem F_X7_share : YF yX7_share cX7_share 10 (Option.some ClassFile.FieldType.int) 4 := ⟨q923, q36, by decide, by decide, by decide +kernel⟩
theorem F_X7_merge : YF yX7_merge cX7_merge 8 (Option.some ClassFile.FieldType.int) 2 := ⟨q927, q36, by decide, by decide, by decide +kernel⟩
theorem F_X7_areShared : YF yX7_areShared cX7_areShared 6 (Option.some ClassFile.FieldType.boolean) 3 := ⟨q931, q36, by decide, by decide, by decide +kernel⟩
theorem F_X7_isOld : YF yX7_isOld cX7_isOld 6 (Option.some ClassFile.FieldType.boolean) 3 := ⟨q935, q36, by decide, by decide, by decide +kernel⟩
theorem F_X7_forgets : YF yX7_forgets cX7_forgets 6 (Option.none : Option ClassFile.FieldType) 2 := ⟨q939, q36, by decide, by decide, by decide +kernel⟩
theorem F_X7_greater : YF yX7_greater cX7_greater 2 (Option.some ClassFile.FieldType.int) 2 := ⟨q942, q36, by decide, by decide, by decide +kernel⟩
theorem F_X7_joins : YF yX7_joins cX7_joins 6 (Option.none : Option ClassFile.FieldType) 3 := ⟨q946, q36, by decide, by decide, by decide +kernel⟩
theorem F_X7_merges : YF yX7_merges cX7_merges 10 (Option.none : Option ClassFile.FieldType) 2 := ⟨q950, q36, by decide, by decide, by decide +kernel⟩
theorem F_X7_learns : YF yX7_learns cX7_learns 3 (Option.none : Option ClassFile.FieldType) 2 := ⟨q954, q36, by decide, by decide, by decide +kernel⟩
theorem F_X7_notes : YF yX7_notes cX7_notes 7 (Option.none : Option ClassFile.FieldType) 3 := ⟨q958, q36, by decide, by decide, by decide +kernel⟩
theorem F_X7_pass : YF yX7_pass cX7_pass 5 (Option.some ClassFile.FieldType.int) 1 := ⟨q962, q36, by decide, by decide, by decide +kernel⟩
theorem F_X7_isAged : YF yX7_isAged cX7_isAged 6 (Option.some ClassFile.FieldType.boolean) 2 := ⟨q966, q36, by decide, by decide, by decide +kernel⟩
theorem F_X7_state : YF yX7_state cX7_state 4 (Option.some ClassFile.FieldType.int) 2 := ⟨q970, q36, by decide, by decide, by decide +kernel⟩
theorem F_X7_value : YF yX7_value cX7_value 5 (Option.some ClassFile.FieldType.int) 4 := ⟨q974, q36, by decide, by decide, by decide +kernel⟩
theorem F_X7_valueOf : YF yX7_valueOf cX7_valueOf 7 (Option.some ClassFile.FieldType.int) 4 := ⟨q978, q36, by decide, by decide, by decide +kernel⟩
theorem F_X7_teller : YF yX7_teller cX7_teller 7 (Option.some ClassFile.FieldType.int) 4 := ⟨q982, q36, by decide, by decide, by decide +kernel⟩
theorem F_X7_valueAnew : YF yX7_valueAnew cX7_valueAnew 5 (Option.some ClassFile.FieldType.int) 4 := ⟨q986, q36, by decide, by decide, by decide +kernel⟩
theorem F_X7_values : YF yX7_values cX7_values 5 (Option.some ClassFile.FieldType.int) 3 := ⟨q990, q36, by decide, by decide, by decide +kernel⟩
theorem F_X7_seen : YF yX7_seen cX7_seen 6 (Option.some ClassFile.FieldType.int) 4 := ⟨q994, q36, by decide, by decide, by decide +kernel⟩
theorem F_X7_marks : YF yX7_marks cX7_marks 6 (Option.some ClassFile.FieldType.int) 2 := ⟨q998, q36, by decide, by decide, by decide +kernel⟩
theorem F_X7_clashes : YF yX7_clashes cX7_clashes 5 (Option.some ClassFile.FieldType.int) 1 := ⟨q1002, q36, by decide, by decide, by decide +kernel⟩
theorem F_X7_agreement : YF yX7_agreement cX7_agreement 8 (Option.some ClassFile.FieldType.float) 2 := ⟨q1006, q36, by decide, by decide, by decide +kernel⟩
theorem F_X7_areSame : YF yX7_areSame cX7_areSame 7 (Option.some ClassFile.FieldType.boolean) 4 := ⟨q1010, q36, by decide, by decide, by decide +kernel⟩
theorem t66 : (Cond.arrayOver (ClassFile.FieldType.object "BraidBook$Entry")) ∈ lw_tbl := List.mem_of_getElem? (i := 66) (by decide +kernel)
theorem t73 : (Cond.arrayOver (ClassFile.FieldType.object "BraidBook$Copy")) ∈ lw_tbl := List.mem_of_getElem? (i := 73) (by decide +kernel)
theorem t102 : (Cond.methodLinkNest "BraidBook$Entry" 28 yX1_init "BraidBook") ∈ lw_tbl := List.mem_of_getElem? (i := 102) (by decide +kernel)
theorem t108 : (Cond.methodLinkNest "BraidBook$Copy" 20 yX5_init "BraidBook") ∈ lw_tbl := List.mem_of_getElem? (i := 108) (by decide +kernel)
theorem t187 : (Cond.methodLinkNest "BraidBook" 21 yX3_init "BraidBook") ∈ lw_tbl := List.mem_of_getElem? (i := 187) (by decide +kernel)
theorem t237 : (Cond.castable "java/lang/IndexOutOfBoundsException" "java/lang/IndexOutOfBoundsException") ∈ lw_tbl := List.mem_of_getElem? (i := 237) (by decide +kernel)
theorem t238 : (Cond.declares ⟨"java/lang/RuntimeException", "<init>", "()V"⟩) ∈ lw_tbl := List.mem_of_getElem? (i := 238) (by decide +kernel)
theorem t239 : (Cond.declares ⟨"java/lang/RuntimeException", "<init>", "(Ljava/lang/String;)V"⟩) ∈ lw_tbl := List.mem_of_getElem? (i := 239) (by decide +kernel)
theorem t240 : (Cond.declares ⟨"java/lang/Exception", "<init>", "()V"⟩) ∈ lw_tbl := List.mem_of_getElem? (i := 240) (by decide +kernel)
theorem t241 : (Cond.declares ⟨"java/lang/Exception", "<init>", "(Ljava/lang/String;)V"⟩) ∈ lw_tbl := List.mem_of_getElem? (i := 241) (by decide +kernel)
theorem t242 : (Cond.declares ⟨"java/lang/Throwable", "<init>", "()V"⟩) ∈ lw_tbl := List.mem_of_getElem? (i := 242) (by decide +kernel)
theorem t243 : (Cond.declares ⟨"java/lang/Throwable", "<init>", "(Ljava/lang/String;)V"⟩) ∈ lw_tbl := List.mem_of_getElem? (i := 243) (by decide +kernel)
theorem t276 : (Cond.stringRef "BraidBook" 191 "no such device") ∈ lw_tbl := List.mem_of_getElem? (i := 276) (by decide +kernel)
theorem t305 : (Cond.castable "java/lang/IllegalStateException" "java/lang/IllegalStateException") ∈ lw_tbl := List.mem_of_getElem? (i := 305) (by decide +kernel)
theorem t312 : (Cond.stringRef "BraidBook" 36 "there are 10 entries") ∈ lw_tbl := List.mem_of_getElem? (i := 312) (by decide +kernel)
theorem t327 : (Cond.stringRef "BraidBook" 203 "too many acts") ∈ lw_tbl := List.mem_of_getElem? (i := 327) (by decide +kernel)
theorem t337 : (Cond.methodLinkNest "BraidBook$Books" 32 yX6_isDevice "BraidBook") ∈ lw_tbl := List.mem_of_getElem? (i := 337) (by decide +kernel)
theorem t338 : (Cond.methodLinkNest "BraidBook$Books" 36 yX6_personOf "BraidBook") ∈ lw_tbl := List.mem_of_getElem? (i := 338) (by decide +kernel)
theorem t356 : (Cond.stringRef "BraidBook" 209 "the device knows no such entry") ∈ lw_tbl := List.mem_of_getElem? (i := 356) (by decide +kernel)
theorem t363 : (Cond.stringRef "BraidBook" 196 "no such field") ∈ lw_tbl := List.mem_of_getElem? (i := 363) (by decide +kernel)
theorem t366 : (Cond.castable "java/lang/IllegalArgumentException" "java/lang/IllegalArgumentException") ∈ lw_tbl := List.mem_of_getElem? (i := 366) (by decide +kernel)
theorem t373 : (Cond.stringRef "BraidBook" 61 "value out of range") ∈ lw_tbl := List.mem_of_getElem? (i := 373) (by decide +kernel)
theorem t384 : (Cond.methodLinkNest "BraidBook$Entry" 39 yX6_personOf "BraidBook") ∈ lw_tbl := List.mem_of_getElem? (i := 384) (by decide +kernel)
theorem t388 : (Cond.stringRef "BraidBook" 73 "the device may not have the field") ∈ lw_tbl := List.mem_of_getElem? (i := 388) (by decide +kernel)
theorem t394 : (Cond.methodLinkNest "BraidBook$Books" 57 yX6_isField "BraidBook") ∈ lw_tbl := List.mem_of_getElem? (i := 394) (by decide +kernel)
theorem t399 : (Cond.methodLinkNest "BraidBook$Copy" 42 yX6_cell "BraidBook") ∈ lw_tbl := List.mem_of_getElem? (i := 399) (by decide +kernel)
theorem t410 : (Cond.methodLinkNest "BraidBook$Books" 70 yX6_cell "BraidBook") ∈ lw_tbl := List.mem_of_getElem? (i := 410) (by decide +kernel)
theorem t422 : (Cond.stringRef "BraidBook" 201 "the device is not one of the owner") ∈ lw_tbl := List.mem_of_getElem? (i := 422) (by decide +kernel)
theorem t462 : (Cond.stringRef "BraidBook" 86 "the entry is not there") ∈ lw_tbl := List.mem_of_getElem? (i := 462) (by decide +kernel)
theorem t472 : (Cond.methodLinkNest "BraidBook$Entry" 86 yX4_init "BraidBook") ∈ lw_tbl := List.mem_of_getElem? (i := 472) (by decide +kernel)
theorem t477 : (Cond.methodLinkNest "BraidBook$Mark" 11 yX5_init "BraidBook") ∈ lw_tbl := List.mem_of_getElem? (i := 477) (by decide +kernel)
theorem t536 : (Cond.arrayOver (ClassFile.FieldType.object "java/lang/Object")) ∈ lw_tbl := List.mem_of_getElem? (i := 536) (by decide +kernel)
theorem t570 : (Cond.stringRef "BraidBook" 98 "no such person") ∈ lw_tbl := List.mem_of_getElem? (i := 570) (by decide +kernel)
theorem t571 : (Cond.stringRef "BraidBook" 101 "fields out of range") ∈ lw_tbl := List.mem_of_getElem? (i := 571) (by decide +kernel)
theorem t572 : (Cond.stringRef "BraidBook" 106 "the person is the owner") ∈ lw_tbl := List.mem_of_getElem? (i := 572) (by decide +kernel)
theorem t577 : (Cond.methodLinkNest "BraidBook$Books" 97 yX6_isPerson "BraidBook") ∈ lw_tbl := List.mem_of_getElem? (i := 577) (by decide +kernel)
theorem t582 : (Cond.methodLinkNest "BraidBook$Copy" 50 yX6_contains "BraidBook") ∈ lw_tbl := List.mem_of_getElem? (i := 582) (by decide +kernel)
theorem t590 : (Cond.stringRef "BraidBook" 112 "both devices are the same") ∈ lw_tbl := List.mem_of_getElem? (i := 590) (by decide +kernel)
theorem t614 : (Cond.methodLinkNest "BraidBook$Entry" 134 yX6_contains "BraidBook") ∈ lw_tbl := List.mem_of_getElem? (i := 614) (by decide +kernel)
theorem t641 : (Cond.stringRef "BraidBook" 121 "months out of range") ∈ lw_tbl := List.mem_of_getElem? (i := 641) (by decide +kernel)
theorem t663 : (Cond.stringRef "BraidBook" 130 "no such entry") ∈ lw_tbl := List.mem_of_getElem? (i := 663) (by decide +kernel)
theorem t675 : (Cond.stringRef "BraidBook" 211 "no such value") ∈ lw_tbl := List.mem_of_getElem? (i := 675) (by decide +kernel)
theorem t1014 : (Cond.castable "BraidBook$Entry" "java/lang/Object") ∈ lw_tbl := List.mem_of_getElem? (i := 1014) (by decide +kernel)
theorem t1015 : (Cond.castable "BraidBook$Copy" "java/lang/Object") ∈ lw_tbl := List.mem_of_getElem? (i := 1015) (by decide +kernel)
theorem t1016 : (Cond.castable "BraidBook" "java/lang/Object") ∈ lw_tbl := List.mem_of_getElem? (i := 1016) (by decide +kernel)
theorem t1017 : (Cond.castable "BraidBook$Books" "java/lang/Object") ∈ lw_tbl := List.mem_of_getElem? (i := 1017) (by decide +kernel)
theorem t1018 : (Cond.castable "java/util/ArrayList" "java/lang/Object") ∈ lw_tbl := List.mem_of_getElem? (i := 1018) (by decide +kernel)
theorem t1019 : (Cond.castable "BraidBook$Numbers" "java/lang/Object") ∈ lw_tbl := List.mem_of_getElem? (i := 1019) (by decide +kernel)
theorem t1020 : (Cond.castable "BraidBook$Journal" "java/lang/Object") ∈ lw_tbl := List.mem_of_getElem? (i := 1020) (by decide +kernel)
theorem t1021 : (Cond.castable "BraidBookModel" "java/lang/Object") ∈ lw_tbl := List.mem_of_getElem? (i := 1021) (by decide +kernel)
theorem t1022 : (Cond.castable "java/lang/IndexOutOfBoundsException" "java/lang/Object") ∈ lw_tbl := List.mem_of_getElem? (i := 1022) (by decide +kernel)
theorem t1023 : (Cond.castable "java/lang/IllegalStateException" "java/lang/Object") ∈ lw_tbl := List.mem_of_getElem? (i := 1023) (by decide +kernel)
theorem t1024 : (Cond.castable "java/lang/IllegalArgumentException" "java/lang/Object") ∈ lw_tbl := List.mem_of_getElem? (i := 1024) (by decide +kernel)
theorem t1025 : (Cond.castable "BraidBook$Mark" "java/lang/Object") ∈ lw_tbl := List.mem_of_getElem? (i := 1025) (by decide +kernel)
theorem t1026 : (Cond.castable "java/lang/Throwable" "java/lang/Object") ∈ lw_tbl := List.mem_of_getElem? (i := 1026) (by decide +kernel)
theorem t1027 : (Cond.castable "java/lang/String" "java/lang/Object") ∈ lw_tbl := List.mem_of_getElem? (i := 1027) (by decide +kernel)
theorem t1030 : (Cond.declares ⟨"java/lang/Object", "getClass", "()Ljava/lang/Class;"⟩) ∈ lw_tbl := List.mem_of_getElem? (i := 1030) (by decide +kernel)
theorem t1031 : (Cond.castable "[LBraidBook$Entry;" "java/lang/Object") ∈ lw_tbl := List.mem_of_getElem? (i := 1031) (by decide +kernel)
theorem t1032 : (Cond.castable "[LBraidBook$Copy;" "java/lang/Object") ∈ lw_tbl := List.mem_of_getElem? (i := 1032) (by decide +kernel)
theorem t1033 : (Cond.castable "[I" "java/lang/Object") ∈ lw_tbl := List.mem_of_getElem? (i := 1033) (by decide +kernel)
theorem t1034 : (Cond.castable "[B" "java/lang/Object") ∈ lw_tbl := List.mem_of_getElem? (i := 1034) (by decide +kernel)
theorem t1035 : (Cond.castable "[Ljava/lang/Object;" "java/lang/Object") ∈ lw_tbl := List.mem_of_getElem? (i := 1035) (by decide +kernel)
theorem t1036 : (Cond.castable "[Z" "java/lang/Object") ∈ lw_tbl := List.mem_of_getElem? (i := 1036) (by decide +kernel)
theorem t1037 : (Cond.castable "[J" "java/lang/Object") ∈ lw_tbl := List.mem_of_getElem? (i := 1037) (by decide +kernel)
theorem t1038 : (Cond.castable "[D" "java/lang/Object") ∈ lw_tbl := List.mem_of_getElem? (i := 1038) (by decide +kernel)
