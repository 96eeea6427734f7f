theorem F_X6_init : YF yX6_init cX6_init 1 (Option.none : Option ClassFile.FieldType) 0 := ⟨q33, q6, by decide, by decide, by decide +kernel⟩
theorem F_X0_init : YF yX0_init cX0_init 2 (Option.none : Option ClassFile.FieldType) 0 := ⟨q41, q7, by decide, by decide, by decide +kernel⟩
theorem F_X2_init : YF yX2_init cX2_init 2 (Option.none : Option ClassFile.FieldType) 0 := ⟨q48, q8, by decide, by decide, by decide +kernel⟩
theorem F_Jx4a65c_init_da8c8 : YF yJx4a65c_init_da8c8 cJx4a65c_init_da8c8 1 (Option.none : Option ClassFile.FieldType) 0 := ⟨q56, q11, by decide, by decide, by decide +kernel⟩
theorem F_Jxc12de_init_da8c8 : YF yJxc12de_init_da8c8 cJxc12de_init_da8c8 1 (Option.none : Option ClassFile.FieldType) 0 := ⟨q59, q10, by decide, by decide, by decide +kernel⟩
theorem F_Jxa1e45_init_da8c8 : YF yJxa1e45_init_da8c8 cJxa1e45_init_da8c8 1 (Option.none : Option ClassFile.FieldType) 0 := ⟨q62, q9, by decide, by decide, by decide +kernel⟩
theorem F_X1_init : YF yX1_init cX1_init 1 (Option.none : Option ClassFile.FieldType) 0 := ⟨q82, q12, by decide, by decide, by decide +kernel⟩
theorem F_X5_init : YF yX5_init cX5_init 1 (Option.none : Option ClassFile.FieldType) 0 := ⟨q88, q13, by decide, by decide, by decide +kernel⟩
theorem F_X3_init : YF yX3_init cX3_init 1 (Option.none : Option ClassFile.FieldType) 0 := ⟨q167, q14, by decide, by decide, by decide +kernel⟩
theorem F_X6_clashes : YF yX6_clashes cX6_clashes 2 (Option.some ClassFile.FieldType.int) 1 := ⟨q201, q6, by decide, by decide, by decide +kernel⟩
theorem F_X6_requireDevice : YF yX6_requireDevice cX6_requireDevice 1 (Option.none : Option ClassFile.FieldType) 1 := ⟨q204, q6, by decide, by decide, by decide +kernel⟩
theorem F_X6_isDevice : YF yX6_isDevice cX6_isDevice 1 (Option.some ClassFile.FieldType.boolean) 1 := ⟨q207, q6, by decide, by decide, by decide +kernel⟩
theorem F_X0_countClashes : YF yX0_countClashes cX0_countClashes 4 (Option.some ClassFile.FieldType.int) 1 := ⟨q279, q7, by decide, by decide, by decide +kernel⟩
theorem F_X2_stateOn : YF yX2_stateOn cX2_stateOn 3 (Option.some ClassFile.FieldType.int) 1 := ⟨q283, q8, by decide, by decide, by decide +kernel⟩
theorem F_X2_isCovered : YF yX2_isCovered cX2_isCovered 4 (Option.some ClassFile.FieldType.boolean) 1 := ⟨q287, q8, by decide, by decide, by decide +kernel⟩
theorem F_Jx4a65c_size_8abf5 : YF yJx4a65c_size_8abf5 cJx4a65c_size_8abf5 1 (Option.some ClassFile.FieldType.int) 0 := ⟨q291, q11, by decide, by decide, by decide +kernel⟩
theorem F_Jx4a65c_get_915e3 : YF yJx4a65c_get_915e3 cJx4a65c_get_915e3 2 (Option.some (ClassFile.FieldType.object "java/lang/Object")) 1 := ⟨q295, q11, by decide, by decide, by decide +kernel⟩
theorem F_J15_checkIndex_7cf53 : YF yJ15_checkIndex_7cf53 cJ15_checkIndex_7cf53 2 (Option.some ClassFile.FieldType.int) 2 := ⟨q298, q19, by decide, by decide, by decide +kernel⟩
theorem F_J3_checkIndex_8e157 : YF yJ3_checkIndex_8e157 cJ3_checkIndex_8e157 3 (Option.some ClassFile.FieldType.int) 3 := ⟨q301, q20, by decide, by decide, by decide +kernel⟩
theorem F_Jx4a65c_elementData_915e3 : YF yJx4a65c_elementData_915e3 cJx4a65c_elementData_915e3 2 (Option.some (ClassFile.FieldType.object "java/lang/Object")) 1 := ⟨q305, q11, by decide, by decide, by decide +kernel⟩
theorem F_X4_isKnownOn : YF yX4_isKnownOn cX4_isKnownOn 2 (Option.some ClassFile.FieldType.boolean) 1 := ⟨q310, q21, by decide, by decide, by decide +kernel⟩
theorem F_X5_coverAll : YF yX5_coverAll cX5_coverAll 3 (Option.some ClassFile.FieldType.boolean) 1 := ⟨q314, q13, by decide, by decide, by decide +kernel⟩
theorem F_X1_countAllValues : YF yX1_countAllValues cX1_countAllValues 3 (Option.some ClassFile.FieldType.int) 0 := ⟨q318, q12, by decide, by decide, by decide +kernel⟩
theorem F_X1_countClashes : YF yX1_countClashes cX1_countClashes 3 (Option.some ClassFile.FieldType.int) 0 := ⟨q322, q12, by decide, by decide, by decide +kernel⟩
theorem F_X1_countValues : YF yX1_countValues cX1_countValues 4 (Option.some ClassFile.FieldType.int) 1 := ⟨q326, q12, by decide, by decide, by decide +kernel⟩
theorem F_X6_cell : YF yX6_cell cX6_cell 2 (Option.some ClassFile.FieldType.int) 2 := ⟨q329, q6, by decide, by decide, by decide +kernel⟩
theorem F_X6_agreement : YF yX6_agreement cX6_agreement 4 (Option.some ClassFile.FieldType.float) 2 := ⟨q333, q6, by decide, by decide, by decide +kernel⟩
theorem F_X0_countCompared : YF yX0_countCompared cX0_countCompared 5 (Option.some ClassFile.FieldType.int) 2 := ⟨q337, q7, by decide, by decide, by decide +kernel⟩
theorem F_X2_comparedFields : YF yX2_comparedFields cX2_comparedFields 3 (Option.some ClassFile.FieldType.int) 2 := ⟨q341, q8, by decide, by decide, by decide +kernel⟩
theorem F_X2_fieldsFor : YF yX2_fieldsFor cX2_fieldsFor 3 (Option.some ClassFile.FieldType.int) 1 := ⟨q346, q8, by decide, by decide, by decide +kernel⟩
theorem F_X6_personOf : YF yX6_personOf cX6_personOf 1 (Option.some ClassFile.FieldType.int) 1 := ⟨q349, q6, by decide, by decide, by decide +kernel⟩
theorem F_J6_bitCount_0f7a4 : YF yJ6_bitCount_0f7a4 cJ6_bitCount_0f7a4 1 (Option.some ClassFile.FieldType.int) 1 := ⟨q352, q26, by decide, by decide, by decide +kernel⟩
theorem F_X0_countSame : YF yX0_countSame cX0_countSame 5 (Option.some ClassFile.FieldType.int) 2 := ⟨q359, q7, by decide, by decide, by decide +kernel⟩
theorem F_X2_countSame : YF yX2_countSame cX2_countSame 6 (Option.some ClassFile.FieldType.int) 2 := ⟨q363, q8, by decide, by decide, by decide +kernel⟩
theorem F_X6_contains : YF yX6_contains cX6_contains 2 (Option.some ClassFile.FieldType.boolean) 2 := ⟨q367, q6, by decide, by decide, by decide +kernel⟩
theorem F_X1_hasSameValues : YF yX1_hasSameValues cX1_hasSameValues 4 (Option.some ClassFile.FieldType.boolean) 2 := ⟨q371, q12, by decide, by decide, by decide +kernel⟩
theorem F_L_part : YF yL_part cL_part 4 (Option.some ClassFile.FieldType.int) 3 := ⟨q374, q5, by decide, by decide, by decide +kernel⟩
theorem F_X6_entry : YF yX6_entry cX6_entry 2 (Option.some ClassFile.FieldType.int) 1 := ⟨q385, q6, by decide, by decide, by decide +kernel⟩
theorem F_X6_requireRoomInJournal : YF yX6_requireRoomInJournal cX6_requireRoomInJournal 1 (Option.none : Option ClassFile.FieldType) 0 := ⟨q405, q6, by decide, by decide, by decide +kernel⟩
theorem F_X3_isFull : YF yX3_isFull cX3_isFull 1 (Option.some ClassFile.FieldType.boolean) 0 := ⟨q409, q14, by decide, by decide, by decide +kernel⟩
theorem F_X3_write : YF yX3_write cX3_write 6 (Option.none : Option ClassFile.FieldType) 5 := ⟨q414, q14, by decide, by decide, by decide +kernel⟩
theorem F_X0_makeEntry : YF yX0_makeEntry cX0_makeEntry 3 (Option.some ClassFile.FieldType.int) 1 := ⟨q419, q7, by decide, by decide, by decide +kernel⟩
theorem F_X6_tell : YF yX6_tell cX6_tell 6 (Option.some ClassFile.FieldType.int) 4 := ⟨q425, q6, by decide, by decide, by decide +kernel⟩
theorem F_X6_knownEntry : YF yX6_knownEntry cX6_knownEntry 4 (Option.some (ClassFile.FieldType.object "BraidBook$Entry")) 3 := ⟨q428, q6, by decide, by decide, by decide +kernel⟩
theorem F_X0_find : YF yX0_find cX0_find 2 (Option.some (ClassFile.FieldType.object "BraidBook$Entry")) 1 := ⟨q432, q7, by decide, by decide, by decide +kernel⟩
theorem F_X6_requireField : YF yX6_requireField cX6_requireField 1 (Option.none : Option ClassFile.FieldType) 1 := ⟨q436, q6, by decide, by decide, by decide +kernel⟩
theorem F_X6_isField : YF yX6_isField cX6_isField 1 (Option.some ClassFile.FieldType.boolean) 1 := ⟨q439, q6, by decide, by decide, by decide +kernel⟩
theorem F_X0_tellValue : YF yX0_tellValue cX0_tellValue 10 (Option.some ClassFile.FieldType.int) 4 := ⟨q463, q7, by decide, by decide, by decide +kernel⟩
theorem F_X1_dropValues : YF yX1_dropValues cX1_dropValues 3 (Option.none : Option ClassFile.FieldType) 1 := ⟨q470, q12, by decide, by decide, by decide +kernel⟩
theorem F_X0_nextAct : YF yX0_nextAct cX0_nextAct 2 (Option.some ClassFile.FieldType.int) 1 := ⟨q474, q7, by decide, by decide, by decide +kernel⟩
theorem F_X6_delete : YF yX6_delete cX6_delete 4 (Option.some ClassFile.FieldType.int) 2 := ⟨q479, q6, by decide, by decide, by decide +kernel⟩
theorem F_X6_requireOwner : YF yX6_requireOwner cX6_requireOwner 2 (Option.none : Option ClassFile.FieldType) 2 := ⟨q482, q6, by decide, by decide, by decide +kernel⟩
theorem F_X0_setMark : YF yX0_setMark cX0_setMark 4 (Option.some ClassFile.FieldType.int) 2 := ⟨q490, q7, by decide, by decide, by decide +kernel⟩
theorem F_X2_addMark : YF yX2_addMark cX2_addMark 3 (Option.none : Option ClassFile.FieldType) 2 := ⟨q494, q8, by decide, by decide, by decide +kernel⟩
theorem F_X4_init : YF yX4_init cX4_init 1 (Option.none : Option ClassFile.FieldType) 0 := ⟨q498, q21, by decide, by decide, by decide +kernel⟩
theorem F_Jx4a65c_add_9ea2d : YF yJx4a65c_add_9ea2d cJx4a65c_add_9ea2d 2 (Option.some ClassFile.FieldType.boolean) 1 := ⟨q514, q11, by decide, by decide, by decide +kernel⟩
theorem F_Jx4a65c_add_72be8 : YF yJx4a65c_add_72be8 cJx4a65c_add_72be8 4 (Option.none : Option ClassFile.FieldType) 3 := ⟨q518, q11, by decide, by decide, by decide +kernel⟩
theorem F_Jx4a65c_grow_d5877 : YF yJx4a65c_grow_d5877 cJx4a65c_grow_d5877 1 (Option.some (ClassFile.FieldType.array (ClassFile.FieldType.object "java/lang/Object"))) 0 := ⟨q522, q11, by decide, by decide, by decide +kernel⟩
theorem F_Jx4a65c_grow_92f84 : YF yJx4a65c_grow_92f84 cJx4a65c_grow_92f84 4 (Option.some (ClassFile.FieldType.array (ClassFile.FieldType.object "java/lang/Object"))) 1 := ⟨q526, q11, by decide, by decide, by decide +kernel⟩
theorem F_J8_newLength_cabcc : YF yJ8_newLength_cabcc cJ8_newLength_cabcc 4 (Option.some ClassFile.FieldType.int) 3 := ⟨q529, q22, by decide, by decide, by decide +kernel⟩
theorem F_J9_max_7cf53 : YF yJ9_max_7cf53 cJ9_max_7cf53 2 (Option.some ClassFile.FieldType.int) 2 := ⟨q532, q23, by decide, by decide, by decide +kernel⟩
theorem F_J8_hugeLength_7cf53 : YF yJ8_hugeLength_7cf53 cJ8_hugeLength_7cf53 3 (Option.some ClassFile.FieldType.int) 2 := ⟨q536, q22, by decide, by decide, by decide +kernel⟩
theorem F_J7_copyOf_1904c : YF yJ7_copyOf_1904c cJ7_copyOf_1904c 2 (Option.some (ClassFile.FieldType.array (ClassFile.FieldType.object "java/lang/Object"))) 2 := ⟨q539, q24, by decide, by decide, by decide +kernel⟩
theorem F_J7_copyOf_6403c : YF yJ7_copyOf_6403c cJ7_copyOf_6403c 4 (Option.some (ClassFile.FieldType.array (ClassFile.FieldType.object "java/lang/Object"))) 3 := ⟨q557, q24, by decide, by decide, by decide +kernel⟩
theorem F_J9_min_7cf53 : YF yJ9_min_7cf53 cJ9_min_7cf53 2 (Option.some ClassFile.FieldType.int) 2 := ⟨q563, q23, by decide, by decide, by decide +kernel⟩
theorem F_X4_set : YF yX4_set cX4_set 5 (Option.none : Option ClassFile.FieldType) 3 := ⟨q572, q21, by decide, by decide, by decide +kernel⟩
theorem F_X5_clear : YF yX5_clear cX5_clear 2 (Option.none : Option ClassFile.FieldType) 0 := ⟨q576, q13, by decide, by decide, by decide +kernel⟩
theorem F_X5_raiseTo : YF yX5_raiseTo cX5_raiseTo 3 (Option.none : Option ClassFile.FieldType) 1 := ⟨q580, q13, by decide, by decide, by decide +kernel⟩
theorem F_X6_share : YF yX6_share cX6_share 6 (Option.some ClassFile.FieldType.int) 4 := ⟨q586, q6, by decide, by decide, by decide +kernel⟩
theorem F_X6_isPerson : YF yX6_isPerson cX6_isPerson 1 (Option.some ClassFile.FieldType.boolean) 1 := ⟨q589, q6, by decide, by decide, by decide +kernel⟩
theorem F_X0_shareFields : YF yX0_shareFields cX0_shareFields 7 (Option.some ClassFile.FieldType.int) 3 := ⟨q596, q7, by decide, by decide, by decide +kernel⟩
theorem F_X1_keepFields : YF yX1_keepFields cX1_keepFields 3 (Option.none : Option ClassFile.FieldType) 1 := ⟨q601, q12, by decide, by decide, by decide +kernel⟩
theorem F_X6_merge : YF yX6_merge cX6_merge 3 (Option.some ClassFile.FieldType.int) 2 := ⟨q606, q6, by decide, by decide, by decide +kernel⟩
theorem F_X0_mergeDevices : YF yX0_mergeDevices cX0_mergeDevices 5 (Option.some ClassFile.FieldType.int) 2 := ⟨q611, q7, by decide, by decide, by decide +kernel⟩
theorem F_X2_mergeOn : YF yX2_mergeOn cX2_mergeOn 6 (Option.some ClassFile.FieldType.int) 3 := ⟨q615, q8, by decide, by decide, by decide +kernel⟩
theorem F_X2_isOutdated : YF yX2_isOutdated cX2_isOutdated 5 (Option.some ClassFile.FieldType.boolean) 2 := ⟨q619, q8, by decide, by decide, by decide +kernel⟩
theorem F_X2_forget : YF yX2_forget cX2_forget 5 (Option.none : Option ClassFile.FieldType) 1 := ⟨q623, q8, by decide, by decide, by decide +kernel⟩
theorem F_X2_braid : YF yX2_braid cX2_braid 7 (Option.some ClassFile.FieldType.int) 4 := ⟨q629, q8, by decide, by decide, by decide +kernel⟩
theorem F_X1_braid : YF yX1_braid cX1_braid 7 (Option.some ClassFile.FieldType.int) 2 := ⟨q633, q12, by decide, by decide, by decide +kernel⟩
theorem F_X1_braidCell : YF yX1_braidCell cX1_braidCell 5 (Option.some ClassFile.FieldType.int) 2 := ⟨q637, q12, by decide, by decide, by decide +kernel⟩
theorem F_X4_spread : YF yX4_spread cX4_spread 4 (Option.none : Option ClassFile.FieldType) 3 := ⟨q642, q21, by decide, by decide, by decide +kernel⟩
theorem F_X1_exchangeNotes : YF yX1_exchangeNotes cX1_exchangeNotes 2 (Option.none : Option ClassFile.FieldType) 1 := ⟨q647, q12, by decide, by decide, by decide +kernel⟩
theorem F_X6_pass : YF yX6_pass cX6_pass 2 (Option.some ClassFile.FieldType.int) 1 := ⟨q652, q6, by decide, by decide, by decide +kernel⟩
theorem F_X0_passMonths : YF yX0_passMonths cX0_passMonths 4 (Option.some ClassFile.FieldType.int) 1 := ⟨q657, q7, by decide, by decide, by decide +kernel⟩
theorem F_X2_forgetWhereOld : YF yX2_forgetWhereOld cX2_forgetWhereOld 4 (Option.some ClassFile.FieldType.int) 1 := ⟨q661, q8, by decide, by decide, by decide +kernel⟩
theorem F_X2_newestMark : YF yX2_newestMark cX2_newestMark 4 (Option.some ClassFile.FieldType.int) 1 := ⟨q665, q8, by decide, by decide, by decide +kernel⟩
theorem F_X6_state : YF yX6_state cX6_state 4 (Option.some ClassFile.FieldType.int) 2 := ⟨q673, q6, by decide, by decide, by decide +kernel⟩
theorem F_X6_value : YF yX6_value cX6_value 5 (Option.some ClassFile.FieldType.int) 4 := ⟨q678, q6, by decide, by decide, by decide +kernel⟩
theorem F_X6_valueIn : YF yX6_valueIn cX6_valueIn 7 (Option.some ClassFile.FieldType.int) 5 := ⟨q681, q6, by decide, by decide, by decide +kernel⟩
theorem F_X1_valueAt : YF yX1_valueAt cX1_valueAt 6 (Option.some ClassFile.FieldType.int) 2 := ⟨q687, q12, by decide, by decide, by decide +kernel⟩
theorem F_X6_valueAnew : YF yX6_valueAnew cX6_valueAnew 5 (Option.some ClassFile.FieldType.int) 4 := ⟨q691, q6, by decide, by decide, by decide +kernel⟩
theorem F_X0_clear : YF yX0_clear cX0_clear 2 (Option.none : Option ClassFile.FieldType) 0 := ⟨q695, q7, by decide, by decide, by decide +kernel⟩
theorem F_X2_clear : YF yX2_clear cX2_clear 2 (Option.none : Option ClassFile.FieldType) 0 := ⟨q699, q8, by decide, by decide, by decide +kernel⟩
theorem F_X1_clear : YF yX1_clear cX1_clear 1 (Option.none : Option ClassFile.FieldType) 0 := ⟨q703, q12, by decide, by decide, by decide +kernel⟩
theorem F_X3_repeatOn : YF yX3_repeatOn cX3_repeatOn 6 (Option.none : Option ClassFile.FieldType) 1 := ⟨q709, q14, by decide, by decide, by decide +kernel⟩
theorem F_X6_values : YF yX6_values cX6_values 5 (Option.some ClassFile.FieldType.int) 3 := ⟨q719, q6, by decide, by decide, by decide +kernel⟩
theorem F_X6_seen : YF yX6_seen cX6_seen 6 (Option.some ClassFile.FieldType.int) 4 := ⟨q723, q6, by decide, by decide, by decide +kernel⟩
theorem F_X6_marks : YF yX6_marks cX6_marks 6 (Option.some ClassFile.FieldType.int) 2 := ⟨q728, q6, by decide, by decide, by decide +kernel⟩
theorem F_X2_countMarks : YF yX2_countMarks cX2_countMarks 4 (Option.some ClassFile.FieldType.int) 1 := ⟨q732, q8, by decide, by decide, by decide +kernel⟩
theorem F_L_isDevice : YF yL_isDevice cL_isDevice 21 (Option.some ClassFile.FieldType.boolean) 11 := ⟨q737, q5, by decide, by decide, by decide +kernel⟩
theorem F_L_state : YF yL_state cL_state 10 (Option.some ClassFile.FieldType.int) 8 := ⟨q740, q5, by decide, by decide, by decide +kernel⟩
theorem F_L_isCovered : YF yL_isCovered cL_isCovered 11 (Option.some ClassFile.FieldType.boolean) 7 := ⟨q743, q5, by decide, by decide, by decide +kernel⟩
theorem F_L_at : YF yL_at cL_at 3 (Option.some ClassFile.FieldType.int) 3 := ⟨q746, q5, by decide, by decide, by decide +kernel⟩
theorem F_L_covers : YF yL_covers cL_covers 6 (Option.some ClassFile.FieldType.boolean) 2 := ⟨q749, q5, by decide, by decide, by decide +kernel⟩
theorem F_L_get : YF yL_get cL_get 3 (Option.some ClassFile.FieldType.int) 2 := ⟨q752, q5, by decide, by decide, by decide +kernel⟩
theorem F_L_all : YF yL_all cL_all 5 (Option.some ClassFile.FieldType.int) 3 := ⟨q756, q5, by decide, by decide, by decide +kernel⟩
theorem F_L_count : YF yL_count cL_count 4 (Option.some ClassFile.FieldType.int) 1 := ⟨q759, q5, by decide, by decide, by decide +kernel⟩
theorem F_L_value : YF yL_value cL_value 2 (Option.some ClassFile.FieldType.int) 2 := ⟨q762, q5, by decide, by decide, by decide +kernel⟩
theorem F_L_isPair : YF yL_isPair cL_isPair 15 (Option.some ClassFile.FieldType.boolean) 10 := ⟨q765, q5, by decide, by decide, by decide +kernel⟩
theorem F_L_may : YF yL_may cL_may 4 (Option.some ClassFile.FieldType.boolean) 4 := ⟨q768, q5, by decide, by decide, by decide +kernel⟩
theorem F_L_isDone : YF yL_isDone cL_isDone 26 (Option.some ClassFile.FieldType.boolean) 12 := ⟨q771, q5, by decide, by decide, by decide +kernel⟩
theorem F_L_greater : YF yL_greater cL_greater 7 (Option.some ClassFile.FieldType.long) 2 := ⟨q774, q5, by decide, by decide, by decide +kernel⟩
theorem F_L_isMerged : YF yL_isMerged cL_isMerged 23 (Option.some ClassFile.FieldType.boolean) 12 := ⟨q777, q5, by decide, by decide, by decide +kernel⟩
theorem F_L_isOld : YF yL_isOld cL_isOld 8 (Option.some ClassFile.FieldType.boolean) 6 := ⟨q780, q5, by decide, by decide, by decide +kernel⟩
theorem F_L_forgets : YF yL_forgets cL_forgets 13 (Option.none : Option ClassFile.FieldType) 10 := ⟨q783, q5, by decide, by decide, by decide +kernel⟩
theorem F_L_joins : YF yL_joins cL_joins 16 (Option.some ClassFile.FieldType.int) 10 := ⟨q786, q5, by decide, by decide, by decide +kernel⟩
theorem F_L_joined : YF yL_joined cL_joined 14 (Option.some ClassFile.FieldType.long) 4 := ⟨q789, q5, by decide, by decide, by decide +kernel⟩
theorem F_L_fresh : YF yL_fresh cL_fresh 6 (Option.some ClassFile.FieldType.int) 2 := ⟨q792, q5, by decide, by decide, by decide +kernel⟩
theorem F_L_isPassed : YF yL_isPassed cL_isPassed 18 (Option.some ClassFile.FieldType.boolean) 10 := ⟨q795, q5, by decide, by decide, by decide +kernel⟩
theorem t44 : (Cond.arrayOver (ClassFile.FieldType.object "BraidBook$Entry")) ∈ lw_tbl := List.mem_of_getElem? (i := 44) (by decide +kernel)
theorem t51 : (Cond.arrayOver (ClassFile.FieldType.object "BraidBook$Copy")) ∈ lw_tbl := List.mem_of_getElem? (i := 51) (by decide +kernel)
theorem t80 : (Cond.methodLinkNest "BraidBook$Entry" 28 yX1_init "BraidBook") ∈ lw_tbl := List.mem_of_getElem? (i := 80) (by decide +kernel)
theorem t86 : (Cond.methodLinkNest "BraidBook$Copy" 20 yX5_init "BraidBook") ∈ lw_tbl := List.mem_of_getElem? (i := 86) (by decide +kernel)
theorem t165 : (Cond.methodLinkNest "BraidBook" 21 yX3_init "BraidBook") ∈ lw_tbl := List.mem_of_getElem? (i := 165) (by decide +kernel)
theorem t210 : (Cond.castable "java/lang/IndexOutOfBoundsException" "java/lang/IndexOutOfBoundsException") ∈ lw_tbl := List.mem_of_getElem? (i := 210) (by decide +kernel)
theorem t211 : (Cond.declares ⟨"java/lang/RuntimeException", "<init>", "()V"⟩) ∈ lw_tbl := List.mem_of_getElem? (i := 211) (by decide +kernel)
theorem t212 : (Cond.declares ⟨"java/lang/RuntimeException", "<init>", "(Ljava/lang/String;)V"⟩) ∈ lw_tbl := List.mem_of_getElem? (i := 212) (by decide +kernel)
theorem t213 : (Cond.declares ⟨"java/lang/Exception", "<init>", "()V"⟩) ∈ lw_tbl := List.mem_of_getElem? (i := 213) (by decide +kernel)
theorem t214 : (Cond.declares ⟨"java/lang/Exception", "<init>", "(Ljava/lang/String;)V"⟩) ∈ lw_tbl := List.mem_of_getElem? (i := 214) (by decide +kernel)
theorem t215 : (Cond.declares ⟨"java/lang/Throwable", "<init>", "()V"⟩) ∈ lw_tbl := List.mem_of_getElem? (i := 215) (by decide +kernel)
theorem t216 : (Cond.declares ⟨"java/lang/Throwable", "<init>", "(Ljava/lang/String;)V"⟩) ∈ lw_tbl := List.mem_of_getElem? (i := 216) (by decide +kernel)
theorem t249 : (Cond.stringRef "BraidBook" 191 "no such device") ∈ lw_tbl := List.mem_of_getElem? (i := 249) (by decide +kernel)
theorem t327 : (Cond.methodLinkNest "BraidBook$Copy" 42 yX6_cell "BraidBook") ∈ lw_tbl := List.mem_of_getElem? (i := 327) (by decide +kernel)
theorem t347 : (Cond.methodLinkNest "BraidBook$Entry" 39 yX6_personOf "BraidBook") ∈ lw_tbl := List.mem_of_getElem? (i := 347) (by decide +kernel)
theorem t365 : (Cond.methodLinkNest "BraidBook$Entry" 134 yX6_contains "BraidBook") ∈ lw_tbl := List.mem_of_getElem? (i := 365) (by decide +kernel)
theorem t388 : (Cond.castable "java/lang/IllegalStateException" "java/lang/IllegalStateException") ∈ lw_tbl := List.mem_of_getElem? (i := 388) (by decide +kernel)
theorem t395 : (Cond.stringRef "BraidBook" 36 "there are 10 entries") ∈ lw_tbl := List.mem_of_getElem? (i := 395) (by decide +kernel)
theorem t410 : (Cond.stringRef "BraidBook" 203 "too many acts") ∈ lw_tbl := List.mem_of_getElem? (i := 410) (by decide +kernel)
theorem t420 : (Cond.methodLinkNest "BraidBook$Books" 32 yX6_isDevice "BraidBook") ∈ lw_tbl := List.mem_of_getElem? (i := 420) (by decide +kernel)
theorem t421 : (Cond.methodLinkNest "BraidBook$Books" 36 yX6_personOf "BraidBook") ∈ lw_tbl := List.mem_of_getElem? (i := 421) (by decide +kernel)
theorem t433 : (Cond.stringRef "BraidBook" 209 "the device knows no such entry") ∈ lw_tbl := List.mem_of_getElem? (i := 433) (by decide +kernel)
theorem t440 : (Cond.stringRef "BraidBook" 196 "no such field") ∈ lw_tbl := List.mem_of_getElem? (i := 440) (by decide +kernel)
theorem t443 : (Cond.castable "java/lang/IllegalArgumentException" "java/lang/IllegalArgumentException") ∈ lw_tbl := List.mem_of_getElem? (i := 443) (by decide +kernel)
theorem t450 : (Cond.stringRef "BraidBook" 61 "value out of range") ∈ lw_tbl := List.mem_of_getElem? (i := 450) (by decide +kernel)
theorem t459 : (Cond.stringRef "BraidBook" 73 "the device may not have the field") ∈ lw_tbl := List.mem_of_getElem? (i := 459) (by decide +kernel)
theorem t465 : (Cond.methodLinkNest "BraidBook$Books" 57 yX6_isField "BraidBook") ∈ lw_tbl := List.mem_of_getElem? (i := 465) (by decide +kernel)
theorem t475 : (Cond.methodLinkNest "BraidBook$Books" 70 yX6_cell "BraidBook") ∈ lw_tbl := List.mem_of_getElem? (i := 475) (by decide +kernel)
theorem t484 : (Cond.stringRef "BraidBook" 201 "the device is not one of the owner") ∈ lw_tbl := List.mem_of_getElem? (i := 484) (by decide +kernel)
theorem t486 : (Cond.stringRef "BraidBook" 86 "the entry is not there") ∈ lw_tbl := List.mem_of_getElem? (i := 486) (by decide +kernel)
theorem t496 : (Cond.methodLinkNest "BraidBook$Entry" 86 yX4_init "BraidBook") ∈ lw_tbl := List.mem_of_getElem? (i := 496) (by decide +kernel)
theorem t501 : (Cond.methodLinkNest "BraidBook$Mark" 11 yX5_init "BraidBook") ∈ lw_tbl := List.mem_of_getElem? (i := 501) (by decide +kernel)
theorem t559 : (Cond.arrayOver (ClassFile.FieldType.object "java/lang/Object")) ∈ lw_tbl := List.mem_of_getElem? (i := 559) (by decide +kernel)
theorem t590 : (Cond.stringRef "BraidBook" 98 "no such person") ∈ lw_tbl := List.mem_of_getElem? (i := 590) (by decide +kernel)
theorem t591 : (Cond.stringRef "BraidBook" 101 "fields out of range") ∈ lw_tbl := List.mem_of_getElem? (i := 591) (by decide +kernel)
theorem t592 : (Cond.stringRef "BraidBook" 106 "the person is the owner") ∈ lw_tbl := List.mem_of_getElem? (i := 592) (by decide +kernel)
theorem t597 : (Cond.methodLinkNest "BraidBook$Books" 97 yX6_isPerson "BraidBook") ∈ lw_tbl := List.mem_of_getElem? (i := 597) (by decide +kernel)
theorem t602 : (Cond.methodLinkNest "BraidBook$Copy" 50 yX6_contains "BraidBook") ∈ lw_tbl := List.mem_of_getElem? (i := 602) (by decide +kernel)
theorem t607 : (Cond.stringRef "BraidBook" 112 "both devices are the same") ∈ lw_tbl := List.mem_of_getElem? (i := 607) (by decide +kernel)
theorem t653 : (Cond.stringRef "BraidBook" 121 "months out of range") ∈ lw_tbl := List.mem_of_getElem? (i := 653) (by decide +kernel)
theorem t674 : (Cond.stringRef "BraidBook" 130 "no such entry") ∈ lw_tbl := List.mem_of_getElem? (i := 674) (by decide +kernel)
theorem t683 : (Cond.stringRef "BraidBook" 211 "no such value") ∈ lw_tbl := List.mem_of_getElem? (i := 683) (by decide +kernel)
theorem t798 : (Cond.castable "BraidBook$Entry" "java/lang/Object") ∈ lw_tbl := List.mem_of_getElem? (i := 798) (by decide +kernel)
theorem t799 : (Cond.castable "BraidBook$Copy" "java/lang/Object") ∈ lw_tbl := List.mem_of_getElem? (i := 799) (by decide +kernel)
theorem t800 : (Cond.castable "BraidBook" "java/lang/Object") ∈ lw_tbl := List.mem_of_getElem? (i := 800) (by decide +kernel)
theorem t801 : (Cond.castable "BraidBook$Books" "java/lang/Object") ∈ lw_tbl := List.mem_of_getElem? (i := 801) (by decide +kernel)
theorem t802 : (Cond.castable "java/util/ArrayList" "java/lang/Object") ∈ lw_tbl := List.mem_of_getElem? (i := 802) (by decide +kernel)
theorem t803 : (Cond.castable "BraidBook$Numbers" "java/lang/Object") ∈ lw_tbl := List.mem_of_getElem? (i := 803) (by decide +kernel)
theorem t804 : (Cond.castable "BraidBook$Journal" "java/lang/Object") ∈ lw_tbl := List.mem_of_getElem? (i := 804) (by decide +kernel)
theorem t805 : (Cond.castable "java/lang/IndexOutOfBoundsException" "java/lang/Object") ∈ lw_tbl := List.mem_of_getElem? (i := 805) (by decide +kernel)
theorem t806 : (Cond.castable "BraidBook$Mark" "java/lang/Object") ∈ lw_tbl := List.mem_of_getElem? (i := 806) (by decide +kernel)
theorem t807 : (Cond.castable "java/lang/IllegalStateException" "java/lang/Object") ∈ lw_tbl := List.mem_of_getElem? (i := 807) (by decide +kernel)
theorem t808 : (Cond.castable "java/lang/IllegalArgumentException" "java/lang/Object") ∈ lw_tbl := List.mem_of_getElem? (i := 808) (by decide +kernel)
theorem t809 : (Cond.castable "java/lang/Throwable" "java/lang/Object") ∈ lw_tbl := List.mem_of_getElem? (i := 809) (by decide +kernel)
theorem t810 : (Cond.castable "java/lang/String" "java/lang/Object") ∈ lw_tbl := List.mem_of_getElem? (i := 810) (by decide +kernel)
theorem t813 : (Cond.declares ⟨"java/lang/Object", "getClass", "()Ljava/lang/Class;"⟩) ∈ lw_tbl := List.mem_of_getElem? (i := 813) (by decide +kernel)
theorem t814 : (Cond.castable "[LBraidBook$Entry;" "java/lang/Object") ∈ lw_tbl := List.mem_of_getElem? (i := 814) (by decide +kernel)
theorem t815 : (Cond.castable "[LBraidBook$Copy;" "java/lang/Object") ∈ lw_tbl := List.mem_of_getElem? (i := 815) (by decide +kernel)
theorem t816 : (Cond.castable "[I" "java/lang/Object") ∈ lw_tbl := List.mem_of_getElem? (i := 816) (by decide +kernel)
theorem t817 : (Cond.castable "[B" "java/lang/Object") ∈ lw_tbl := List.mem_of_getElem? (i := 817) (by decide +kernel)
theorem t818 : (Cond.castable "[Ljava/lang/Object;" "java/lang/Object") ∈ lw_tbl := List.mem_of_getElem? (i := 818) (by decide +kernel)
theorem t819 : (Cond.castable "[J" "java/lang/Object") ∈ lw_tbl := List.mem_of_getElem? (i := 819) (by decide +kernel)
