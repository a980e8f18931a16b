set_option maxRecDepth 20000 in
theorem ts_0 : Cond.selects R_S y_S_addArcOf y_S_addArcOf ∈ lw_w := List.mem_filter.mpr ⟨List.mem_append_left _ (List.mem_of_getElem? (i := 0) (by decide +kernel)), rfl⟩
set_option maxRecDepth 20000 in
theorem ts_1 : Cond.selects R_S y_S_joint y_S_joint ∈ lw_w := List.mem_filter.mpr ⟨List.mem_append_left _ (List.mem_of_getElem? (i := 1) (by decide +kernel)), rfl⟩
set_option maxRecDepth 20000 in
theorem ts_2 : Cond.selects R_T y_T_add2 y_T_add2 ∈ lw_w := List.mem_filter.mpr ⟨List.mem_append_left _ (List.mem_of_getElem? (i := 2) (by decide +kernel)), rfl⟩
set_option maxRecDepth 20000 in
theorem ts_3 : Cond.selects R_T y_T_grow1 y_T_grow1 ∈ lw_w := List.mem_filter.mpr ⟨List.mem_append_left _ (List.mem_of_getElem? (i := 3) (by decide +kernel)), rfl⟩
set_option maxRecDepth 20000 in
theorem ts_4 : Cond.selects R_T y_T_grow2 y_T_grow2 ∈ lw_w := List.mem_filter.mpr ⟨List.mem_append_left _ (List.mem_of_getElem? (i := 4) (by decide +kernel)), rfl⟩
set_option maxRecDepth 20000 in
theorem ts_5 : Cond.selects R_A y_A_sideOfChord y_A_sideOfChord ∈ lw_w := List.mem_filter.mpr ⟨List.mem_append_left _ (List.mem_of_getElem? (i := 5) (by decide +kernel)), rfl⟩
set_option maxRecDepth 20000 in
theorem ts_6 : Cond.selects R_A y_A_chordShare y_A_chordShare ∈ lw_w := List.mem_filter.mpr ⟨List.mem_append_left _ (List.mem_of_getElem? (i := 6) (by decide +kernel)), rfl⟩
set_option maxRecDepth 20000 in
theorem ts_7 : Cond.selects R_A y_A_onStraightArc y_A_onStraightArc ∈ lw_w := List.mem_filter.mpr ⟨List.mem_append_left _ (List.mem_of_getElem? (i := 7) (by decide +kernel)), rfl⟩
set_option maxRecDepth 20000 in
theorem ts_8 : Cond.selects R_S y_S_addRowTurns y_S_addRowTurns ∈ lw_w := List.mem_filter.mpr ⟨List.mem_append_left _ (List.mem_of_getElem? (i := 8) (by decide +kernel)), rfl⟩
set_option maxRecDepth 20000 in
theorem ts_9 : Cond.selects R_M y_M_begun y_M_begun ∈ lw_w := List.mem_filter.mpr ⟨List.mem_append_left _ (List.mem_of_getElem? (i := 9) (by decide +kernel)), rfl⟩
set_option maxRecDepth 20000 in
theorem ts_10 : Cond.selects R_M y_M_go y_M_go ∈ lw_w := List.mem_filter.mpr ⟨List.mem_append_left _ (List.mem_of_getElem? (i := 10) (by decide +kernel)), rfl⟩
set_option maxRecDepth 20000 in
theorem ts_11 : Cond.selects R_M y_M_around y_M_around ∈ lw_w := List.mem_filter.mpr ⟨List.mem_append_left _ (List.mem_of_getElem? (i := 11) (by decide +kernel)), rfl⟩
set_option maxRecDepth 20000 in
theorem ts_12 : Cond.selects R_M y_M_line y_M_line ∈ lw_w := List.mem_filter.mpr ⟨List.mem_append_left _ (List.mem_of_getElem? (i := 12) (by decide +kernel)), rfl⟩
set_option maxRecDepth 20000 in
theorem ts_13 : Cond.selects R_M y_M_cross y_M_cross ∈ lw_w := List.mem_filter.mpr ⟨List.mem_append_left _ (List.mem_of_getElem? (i := 13) (by decide +kernel)), rfl⟩
set_option maxRecDepth 20000 in
theorem ts_14 : Cond.selects R_M y_M_curve y_M_curve ∈ lw_w := List.mem_filter.mpr ⟨List.mem_append_left _ (List.mem_of_getElem? (i := 14) (by decide +kernel)), rfl⟩
set_option maxRecDepth 20000 in
theorem ts_15 : Cond.selects R_M y_M_through y_M_through ∈ lw_w := List.mem_filter.mpr ⟨List.mem_append_left _ (List.mem_of_getElem? (i := 15) (by decide +kernel)), rfl⟩
set_option maxRecDepth 20000 in
theorem ts_16 : Cond.selects R_M y_M_side y_M_side ∈ lw_w := List.mem_filter.mpr ⟨List.mem_append_left _ (List.mem_of_getElem? (i := 16) (by decide +kernel)), rfl⟩
set_option maxRecDepth 20000 in
theorem ts_17 : Cond.selects R_M y_M_signOf y_M_signOf ∈ lw_w := List.mem_filter.mpr ⟨List.mem_append_left _ (List.mem_of_getElem? (i := 17) (by decide +kernel)), rfl⟩
set_option maxRecDepth 20000 in
theorem ts_18 : Cond.selects R_M y_M_compare y_M_compare ∈ lw_w := List.mem_filter.mpr ⟨List.mem_append_left _ (List.mem_of_getElem? (i := 18) (by decide +kernel)), rfl⟩
set_option maxRecDepth 20000 in
theorem tw_0 : Cond.initialized R_L ∈ lw_w := List.mem_filter.mpr ⟨List.mem_append_right _ (List.mem_of_getElem? (i := 0) (by decide +kernel)), rfl⟩
set_option maxRecDepth 20000 in
theorem tw_1 : Cond.initialized R_S ∈ lw_w := List.mem_filter.mpr ⟨List.mem_append_right _ (List.mem_of_getElem? (i := 1) (by decide +kernel)), rfl⟩
set_option maxRecDepth 20000 in
theorem tw_2 : Cond.initialized R_H ∈ lw_w := List.mem_filter.mpr ⟨List.mem_append_right _ (List.mem_of_getElem? (i := 2) (by decide +kernel)), rfl⟩
set_option maxRecDepth 20000 in
theorem tw_3 : Cond.initialized R_V ∈ lw_w := List.mem_filter.mpr ⟨List.mem_append_right _ (List.mem_of_getElem? (i := 3) (by decide +kernel)), rfl⟩
set_option maxRecDepth 20000 in
theorem tw_4 : Cond.initialized R_U ∈ lw_w := List.mem_filter.mpr ⟨List.mem_append_right _ (List.mem_of_getElem? (i := 4) (by decide +kernel)), rfl⟩
set_option maxRecDepth 20000 in
theorem tw_5 : Cond.initialized R_T ∈ lw_w := List.mem_filter.mpr ⟨List.mem_append_right _ (List.mem_of_getElem? (i := 5) (by decide +kernel)), rfl⟩
set_option maxRecDepth 20000 in
theorem tw_6 : Cond.initialized R_M ∈ lw_w := List.mem_filter.mpr ⟨List.mem_append_right _ (List.mem_of_getElem? (i := 6) (by decide +kernel)), rfl⟩
set_option maxRecDepth 20000 in
theorem tw_7 : Cond.initialized R_A ∈ lw_w := List.mem_filter.mpr ⟨List.mem_append_right _ (List.mem_of_getElem? (i := 7) (by decide +kernel)), rfl⟩
set_option maxRecDepth 20000 in
theorem tw_8 : Cond.initialized R_P ∈ lw_w := List.mem_filter.mpr ⟨List.mem_append_right _ (List.mem_of_getElem? (i := 8) (by decide +kernel)), rfl⟩
set_option maxRecDepth 20000 in
theorem tw_9 : Cond.initialized R_Y ∈ lw_w := List.mem_filter.mpr ⟨List.mem_append_right _ (List.mem_of_getElem? (i := 9) (by decide +kernel)), rfl⟩
set_option maxRecDepth 20000 in
theorem tw_10 : Cond.initialized R_Z ∈ lw_w := List.mem_filter.mpr ⟨List.mem_append_right _ (List.mem_of_getElem? (i := 10) (by decide +kernel)), rfl⟩
set_option maxRecDepth 20000 in
theorem tw_11 : Cond.initialized R_O ∈ lw_w := List.mem_filter.mpr ⟨List.mem_append_right _ (List.mem_of_getElem? (i := 11) (by decide +kernel)), rfl⟩
set_option maxRecDepth 20000 in
theorem tw_12 : Cond.initialized R_Q ∈ lw_w := List.mem_filter.mpr ⟨List.mem_append_right _ (List.mem_of_getElem? (i := 12) (by decide +kernel)), rfl⟩
set_option maxRecDepth 20000 in
theorem tw_13 : Cond.initialized R_J ∈ lw_w := List.mem_filter.mpr ⟨List.mem_append_right _ (List.mem_of_getElem? (i := 13) (by decide +kernel)), rfl⟩
set_option maxRecDepth 20000 in
theorem tw_14 : Cond.initialized R_I ∈ lw_w := List.mem_filter.mpr ⟨List.mem_append_right _ (List.mem_of_getElem? (i := 14) (by decide +kernel)), rfl⟩
set_option maxRecDepth 20000 in
theorem tw_15 : Cond.classLink R_L 7 R_S ∈ lw_w := List.mem_filter.mpr ⟨List.mem_append_right _ (List.mem_of_getElem? (i := 15) (by decide +kernel)), rfl⟩
set_option maxRecDepth 20000 in
theorem tw_16 : Cond.instantiable R_S 9 ∈ lw_w := List.mem_filter.mpr ⟨List.mem_append_right _ (List.mem_of_getElem? (i := 16) (by decide +kernel)), rfl⟩
set_option maxRecDepth 20000 in
theorem tw_17 : Cond.methodLink R_L 15 y_S_init ∈ lw_w := List.mem_filter.mpr ⟨List.mem_append_right _ (List.mem_of_getElem? (i := 17) (by decide +kernel)), rfl⟩
set_option maxRecDepth 20000 in
theorem tw_18 : Cond.instanceMethod y_S_init ∈ lw_w := List.mem_filter.mpr ⟨List.mem_append_right _ (List.mem_of_getElem? (i := 18) (by decide +kernel)), rfl⟩
set_option maxRecDepth 20000 in
theorem tw_19 : Cond.code y_S_init b_S_init 2 none ∈ lw_w := List.mem_filter.mpr ⟨List.mem_append_right _ (List.mem_of_getElem? (i := 19) rfl), rfl⟩
set_option maxRecDepth 20000 in
theorem tw_20 : Cond.methodLink R_S 1 objectInit ∈ lw_w := List.mem_filter.mpr ⟨List.mem_append_right _ (List.mem_of_getElem? (i := 20) (by decide +kernel)), rfl⟩
set_option maxRecDepth 20000 in
theorem tw_21 : Cond.instanceMethod objectInit ∈ lw_w := List.mem_filter.mpr ⟨List.mem_append_right _ (List.mem_of_getElem? (i := 21) (by decide +kernel)), rfl⟩
set_option maxRecDepth 20000 in
theorem tw_22 : Cond.code objectInit ⟨#[0xb1]⟩ 1 none ∈ lw_w := List.mem_filter.mpr ⟨List.mem_append_right _ (List.mem_of_getElem? (i := 22) rfl), rfl⟩
set_option maxRecDepth 20000 in
theorem tw_23 : Cond.methodLink R_S 9 y_H_min ∈ lw_w := List.mem_filter.mpr ⟨List.mem_append_right _ (List.mem_of_getElem? (i := 23) (by decide +kernel)), rfl⟩
set_option maxRecDepth 20000 in
theorem tw_24 : Cond.static y_H_min ∈ lw_w := List.mem_filter.mpr ⟨List.mem_append_right _ (List.mem_of_getElem? (i := 24) (by decide +kernel)), rfl⟩
set_option maxRecDepth 20000 in
theorem tw_25 : Cond.code y_H_min b_H_min 2 (some .int) ∈ lw_w := List.mem_filter.mpr ⟨List.mem_append_right _ (List.mem_of_getElem? (i := 25) rfl), rfl⟩
set_option maxRecDepth 20000 in
theorem tw_26 : Cond.methodLink R_S 15 y_H_max ∈ lw_w := List.mem_filter.mpr ⟨List.mem_append_right _ (List.mem_of_getElem? (i := 26) (by decide +kernel)), rfl⟩
set_option maxRecDepth 20000 in
theorem tw_27 : Cond.static y_H_max ∈ lw_w := List.mem_filter.mpr ⟨List.mem_append_right _ (List.mem_of_getElem? (i := 27) (by decide +kernel)), rfl⟩
set_option maxRecDepth 20000 in
theorem tw_28 : Cond.code y_H_max b_H_max 2 (some .int) ∈ lw_w := List.mem_filter.mpr ⟨List.mem_append_right _ (List.mem_of_getElem? (i := 28) rfl), rfl⟩
set_option maxRecDepth 20000 in
theorem tw_29 : Cond.classLink R_S 36 R_T ∈ lw_w := List.mem_filter.mpr ⟨List.mem_append_right _ (List.mem_of_getElem? (i := 29) (by decide +kernel)), rfl⟩
set_option maxRecDepth 20000 in
theorem tw_30 : Cond.instantiable R_T 3 ∈ lw_w := List.mem_filter.mpr ⟨List.mem_append_right _ (List.mem_of_getElem? (i := 30) (by decide +kernel)), rfl⟩
set_option maxRecDepth 20000 in
theorem tw_31 : Cond.methodLink R_S 38 y_T_init ∈ lw_w := List.mem_filter.mpr ⟨List.mem_append_right _ (List.mem_of_getElem? (i := 31) (by decide +kernel)), rfl⟩
set_option maxRecDepth 20000 in
theorem tw_32 : Cond.instanceMethod y_T_init ∈ lw_w := List.mem_filter.mpr ⟨List.mem_append_right _ (List.mem_of_getElem? (i := 32) (by decide +kernel)), rfl⟩
set_option maxRecDepth 20000 in
theorem tw_33 : Cond.code y_T_init b_T_init 1 none ∈ lw_w := List.mem_filter.mpr ⟨List.mem_append_right _ (List.mem_of_getElem? (i := 33) rfl), rfl⟩
set_option maxRecDepth 20000 in
theorem tw_34 : Cond.methodLink R_T 1 y_U_init ∈ lw_w := List.mem_filter.mpr ⟨List.mem_append_right _ (List.mem_of_getElem? (i := 34) (by decide +kernel)), rfl⟩
set_option maxRecDepth 20000 in
theorem tw_35 : Cond.instanceMethod y_U_init ∈ lw_w := List.mem_filter.mpr ⟨List.mem_append_right _ (List.mem_of_getElem? (i := 35) (by decide +kernel)), rfl⟩
set_option maxRecDepth 20000 in
theorem tw_36 : Cond.code y_U_init b_U_init 1 none ∈ lw_w := List.mem_filter.mpr ⟨List.mem_append_right _ (List.mem_of_getElem? (i := 36) rfl), rfl⟩
set_option maxRecDepth 20000 in
theorem tw_37 : Cond.methodLink R_U 1 y_V_init ∈ lw_w := List.mem_filter.mpr ⟨List.mem_append_right _ (List.mem_of_getElem? (i := 37) (by decide +kernel)), rfl⟩
set_option maxRecDepth 20000 in
theorem tw_38 : Cond.instanceMethod y_V_init ∈ lw_w := List.mem_filter.mpr ⟨List.mem_append_right _ (List.mem_of_getElem? (i := 38) (by decide +kernel)), rfl⟩
set_option maxRecDepth 20000 in
theorem tw_39 : Cond.code y_V_init b_V_init 1 none ∈ lw_w := List.mem_filter.mpr ⟨List.mem_append_right _ (List.mem_of_getElem? (i := 39) rfl), rfl⟩
set_option maxRecDepth 20000 in
theorem tw_40 : Cond.methodLink R_V 1 objectInit ∈ lw_w := List.mem_filter.mpr ⟨List.mem_append_right _ (List.mem_of_getElem? (i := 40) (by decide +kernel)), rfl⟩
set_option maxRecDepth 20000 in
theorem tw_41 : Cond.fieldLink R_T 39 "java/util/ArrayList" "DEFAULTCAPACITY_EMPTY_ELEMENTDATA" "[Ljava/lang/Object;" ∈ lw_w := List.mem_filter.mpr ⟨List.mem_append_right _ (List.mem_of_getElem? (i := 41) (by decide +kernel)), rfl⟩
set_option maxRecDepth 20000 in
theorem tw_43 : Cond.fieldLink R_T 9 "java/util/ArrayList" "elementData" "[Ljava/lang/Object;" ∈ lw_w := List.mem_filter.mpr ⟨List.mem_append_right _ (List.mem_of_getElem? (i := 43) (by decide +kernel)), rfl⟩
set_option maxRecDepth 20000 in
theorem tw_44 : Cond.fieldLink R_T 48 "java/util/ArrayList" "size" "I" ∈ lw_w := List.mem_filter.mpr ⟨List.mem_append_right _ (List.mem_of_getElem? (i := 44) (by decide +kernel)), rfl⟩
set_option maxRecDepth 20000 in
theorem tw_45 : Cond.fieldLink R_U 7 "java/util/AbstractList" "modCount" "I" ∈ lw_w := List.mem_filter.mpr ⟨List.mem_append_right _ (List.mem_of_getElem? (i := 45) (by decide +kernel)), rfl⟩
set_option maxRecDepth 20000 in
theorem tw_46 : Cond.fieldLink R_T 63 "java/util/ArrayList" "modCount" "I" ∈ lw_w := List.mem_filter.mpr ⟨List.mem_append_right _ (List.mem_of_getElem? (i := 46) (by decide +kernel)), rfl⟩
set_option maxRecDepth 20000 in
theorem tw_47 : Cond.sameField "java/util/ArrayList" "java/util/AbstractList" "modCount" "I" ∈ lw_w := List.mem_filter.mpr ⟨List.mem_append_right _ (List.mem_of_getElem? (i := 47) (by decide +kernel)), rfl⟩
set_option maxRecDepth 20000 in
theorem tw_48 : Cond.lays "java/util/ArrayList" "java/util/ArrayList" "elementData" "[Ljava/lang/Object;" ∈ lw_w := List.mem_filter.mpr ⟨List.mem_append_right _ (List.mem_of_getElem? (i := 48) (by decide +kernel)), rfl⟩
set_option maxRecDepth 20000 in
theorem tw_50 : Cond.lays "java/util/ArrayList" "java/util/ArrayList" "size" "I" ∈ lw_w := List.mem_filter.mpr ⟨List.mem_append_right _ (List.mem_of_getElem? (i := 50) (by decide +kernel)), rfl⟩
set_option maxRecDepth 20000 in
theorem tw_52 : Cond.lays "java/util/ArrayList" "java/util/AbstractList" "modCount" "I" ∈ lw_w := List.mem_filter.mpr ⟨List.mem_append_right _ (List.mem_of_getElem? (i := 52) (by decide +kernel)), rfl⟩
set_option maxRecDepth 20000 in
theorem tw_54 : Cond.superclass "java/util/ArrayList" "java/util/AbstractList" ∈ lw_w := List.mem_filter.mpr ⟨List.mem_append_right _ (List.mem_of_getElem? (i := 54) (by decide +kernel)), rfl⟩
set_option maxRecDepth 20000 in
theorem tw_55 : Cond.arrayClass .int ∈ lw_w := List.mem_filter.mpr ⟨List.mem_append_right _ (List.mem_of_getElem? (i := 55) (by decide +kernel)), rfl⟩
set_option maxRecDepth 20000 in
theorem tw_56 : Cond.arrayClass .boolean ∈ lw_w := List.mem_filter.mpr ⟨List.mem_append_right _ (List.mem_of_getElem? (i := 56) (by decide +kernel)), rfl⟩
set_option maxRecDepth 20000 in
theorem tw_57 : Cond.fieldLink R_S 18 "CurveScan" "width" "I" ∈ lw_w := List.mem_filter.mpr ⟨List.mem_append_right _ (List.mem_of_getElem? (i := 57) (by decide +kernel)), rfl⟩
set_option maxRecDepth 20000 in
theorem tw_58 : Cond.fieldLink R_S 22 "CurveScan" "pointX" "[I" ∈ lw_w := List.mem_filter.mpr ⟨List.mem_append_right _ (List.mem_of_getElem? (i := 58) (by decide +kernel)), rfl⟩
set_option maxRecDepth 20000 in
theorem tw_59 : Cond.fieldLink R_S 26 "CurveScan" "pointY" "[I" ∈ lw_w := List.mem_filter.mpr ⟨List.mem_append_right _ (List.mem_of_getElem? (i := 59) (by decide +kernel)), rfl⟩
set_option maxRecDepth 20000 in
theorem tw_60 : Cond.fieldLink R_S 29 "CurveScan" "pointOn" "[Z" ∈ lw_w := List.mem_filter.mpr ⟨List.mem_append_right _ (List.mem_of_getElem? (i := 60) (by decide +kernel)), rfl⟩
set_option maxRecDepth 20000 in
theorem tw_61 : Cond.fieldLink R_S 33 "CurveScan" "rowTurns" "[I" ∈ lw_w := List.mem_filter.mpr ⟨List.mem_append_right _ (List.mem_of_getElem? (i := 61) (by decide +kernel)), rfl⟩
set_option maxRecDepth 20000 in
theorem tw_62 : Cond.fieldLink R_S 39 "CurveScan" "arcs" "Ljava/util/ArrayList;" ∈ lw_w := List.mem_filter.mpr ⟨List.mem_append_right _ (List.mem_of_getElem? (i := 62) (by decide +kernel)), rfl⟩
set_option maxRecDepth 20000 in
theorem tw_63 : Cond.fieldLink R_S 50 "CurveScan" "made" "I" ∈ lw_w := List.mem_filter.mpr ⟨List.mem_append_right _ (List.mem_of_getElem? (i := 63) (by decide +kernel)), rfl⟩
set_option maxRecDepth 20000 in
theorem tw_64 : Cond.fieldLink R_S 47 "CurveScan" "closedPoints" "I" ∈ lw_w := List.mem_filter.mpr ⟨List.mem_append_right _ (List.mem_of_getElem? (i := 64) (by decide +kernel)), rfl⟩
set_option maxRecDepth 20000 in
theorem tw_65 : Cond.fieldLink R_S 57 "CurveScan" "closedContours" "I" ∈ lw_w := List.mem_filter.mpr ⟨List.mem_append_right _ (List.mem_of_getElem? (i := 65) (by decide +kernel)), rfl⟩
set_option maxRecDepth 20000 in
theorem tw_66 : Cond.laysFinal "CurveScan" "CurveScan" "width" "I" ∈ lw_w := List.mem_filter.mpr ⟨List.mem_append_right _ (List.mem_of_getElem? (i := 66) (by decide +kernel)), rfl⟩
set_option maxRecDepth 20000 in
theorem tw_68 : Cond.laysFinal "CurveScan" "CurveScan" "pointX" "[I" ∈ lw_w := List.mem_filter.mpr ⟨List.mem_append_right _ (List.mem_of_getElem? (i := 68) (by decide +kernel)), rfl⟩
set_option maxRecDepth 20000 in
theorem tw_70 : Cond.laysFinal "CurveScan" "CurveScan" "pointY" "[I" ∈ lw_w := List.mem_filter.mpr ⟨List.mem_append_right _ (List.mem_of_getElem? (i := 70) (by decide +kernel)), rfl⟩
set_option maxRecDepth 20000 in
theorem tw_72 : Cond.laysFinal "CurveScan" "CurveScan" "pointOn" "[Z" ∈ lw_w := List.mem_filter.mpr ⟨List.mem_append_right _ (List.mem_of_getElem? (i := 72) (by decide +kernel)), rfl⟩
set_option maxRecDepth 20000 in
theorem tw_74 : Cond.laysFinal "CurveScan" "CurveScan" "rowTurns" "[I" ∈ lw_w := List.mem_filter.mpr ⟨List.mem_append_right _ (List.mem_of_getElem? (i := 74) (by decide +kernel)), rfl⟩
set_option maxRecDepth 20000 in
theorem tw_76 : Cond.laysFinal "CurveScan" "CurveScan" "arcs" "Ljava/util/ArrayList;" ∈ lw_w := List.mem_filter.mpr ⟨List.mem_append_right _ (List.mem_of_getElem? (i := 76) (by decide +kernel)), rfl⟩
set_option maxRecDepth 20000 in
theorem tw_78 : Cond.lays "CurveScan" "CurveScan" "made" "I" ∈ lw_w := List.mem_filter.mpr ⟨List.mem_append_right _ (List.mem_of_getElem? (i := 78) (by decide +kernel)), rfl⟩
set_option maxRecDepth 20000 in
theorem tw_80 : Cond.lays "CurveScan" "CurveScan" "closedPoints" "I" ∈ lw_w := List.mem_filter.mpr ⟨List.mem_append_right _ (List.mem_of_getElem? (i := 80) (by decide +kernel)), rfl⟩
set_option maxRecDepth 20000 in
theorem tw_82 : Cond.lays "CurveScan" "CurveScan" "closedContours" "I" ∈ lw_w := List.mem_filter.mpr ⟨List.mem_append_right _ (List.mem_of_getElem? (i := 82) (by decide +kernel)), rfl⟩
set_option maxRecDepth 20000 in
theorem tw_84 : Cond.superclass "CurveScan" "java/lang/Object" ∈ lw_w := List.mem_filter.mpr ⟨List.mem_append_right _ (List.mem_of_getElem? (i := 84) (by decide +kernel)), rfl⟩
set_option maxRecDepth 20000 in
theorem tw_85 : Cond.methodLink R_L 21 y_S_point ∈ lw_w := List.mem_filter.mpr ⟨List.mem_append_right _ (List.mem_of_getElem? (i := 85) (by decide +kernel)), rfl⟩
set_option maxRecDepth 20000 in
theorem tw_86 : Cond.instanceMethod y_S_point ∈ lw_w := List.mem_filter.mpr ⟨List.mem_append_right _ (List.mem_of_getElem? (i := 86) (by decide +kernel)), rfl⟩
set_option maxRecDepth 20000 in
theorem tw_87 : Cond.selects R_S y_S_point y_S_point ∈ lw_w := List.mem_filter.mpr ⟨List.mem_append_right _ (List.mem_of_getElem? (i := 87) (by decide +kernel)), rfl⟩
set_option maxRecDepth 20000 in
theorem tw_88 : Cond.code y_S_point b_S_point 4 (some .int) ∈ lw_w := List.mem_filter.mpr ⟨List.mem_append_right _ (List.mem_of_getElem? (i := 88) rfl), rfl⟩
set_option maxRecDepth 20000 in
theorem tw_89 : Cond.methodLink R_S 43 y_S_inReach ∈ lw_w := List.mem_filter.mpr ⟨List.mem_append_right _ (List.mem_of_getElem? (i := 89) (by decide +kernel)), rfl⟩
set_option maxRecDepth 20000 in
theorem tw_90 : Cond.static y_S_inReach ∈ lw_w := List.mem_filter.mpr ⟨List.mem_append_right _ (List.mem_of_getElem? (i := 90) (by decide +kernel)), rfl⟩
set_option maxRecDepth 20000 in
theorem tw_91 : Cond.code y_S_inReach b_S_inReach 1 (some .boolean) ∈ lw_w := List.mem_filter.mpr ⟨List.mem_append_right _ (List.mem_of_getElem? (i := 91) rfl), rfl⟩
set_option maxRecDepth 20000 in
theorem tw_92 : Cond.methodLink R_L 26 y_S_close ∈ lw_w := List.mem_filter.mpr ⟨List.mem_append_right _ (List.mem_of_getElem? (i := 92) (by decide +kernel)), rfl⟩
set_option maxRecDepth 20000 in
theorem tw_93 : Cond.instanceMethod y_S_close ∈ lw_w := List.mem_filter.mpr ⟨List.mem_append_right _ (List.mem_of_getElem? (i := 93) (by decide +kernel)), rfl⟩
set_option maxRecDepth 20000 in
theorem tw_94 : Cond.selects R_S y_S_close y_S_close ∈ lw_w := List.mem_filter.mpr ⟨List.mem_append_right _ (List.mem_of_getElem? (i := 94) (by decide +kernel)), rfl⟩
set_option maxRecDepth 20000 in
theorem tw_95 : Cond.code y_S_close b_S_close 2 (some .int) ∈ lw_w := List.mem_filter.mpr ⟨List.mem_append_right _ (List.mem_of_getElem? (i := 95) rfl), rfl⟩
set_option maxRecDepth 20000 in
theorem tw_96 : Cond.methodLink R_S 53 y_S_addArcOf ∈ lw_w := List.mem_filter.mpr ⟨List.mem_append_right _ (List.mem_of_getElem? (i := 96) (by decide +kernel)), rfl⟩
set_option maxRecDepth 20000 in
theorem tw_98 : Cond.instanceMethod y_S_addArcOf ∈ lw_w := List.mem_filter.mpr ⟨List.mem_append_right _ (List.mem_of_getElem? (i := 98) (by decide +kernel)), rfl⟩
set_option maxRecDepth 20000 in
theorem tw_99 : Cond.code y_S_addArcOf b_S_addArcOf 4 none ∈ lw_w := List.mem_filter.mpr ⟨List.mem_append_right _ (List.mem_of_getElem? (i := 99) rfl), rfl⟩
set_option maxRecDepth 20000 in
theorem tw_100 : Cond.classLink R_S 71 R_A ∈ lw_w := List.mem_filter.mpr ⟨List.mem_append_right _ (List.mem_of_getElem? (i := 100) (by decide +kernel)), rfl⟩
set_option maxRecDepth 20000 in
theorem tw_101 : Cond.instantiable R_A 6 ∈ lw_w := List.mem_filter.mpr ⟨List.mem_append_right _ (List.mem_of_getElem? (i := 101) (by decide +kernel)), rfl⟩
set_option maxRecDepth 20000 in
theorem tw_102 : Cond.methodLink R_S 89 y_S_joint ∈ lw_w := List.mem_filter.mpr ⟨List.mem_append_right _ (List.mem_of_getElem? (i := 102) (by decide +kernel)), rfl⟩
set_option maxRecDepth 20000 in
theorem tw_104 : Cond.instanceMethod y_S_joint ∈ lw_w := List.mem_filter.mpr ⟨List.mem_append_right _ (List.mem_of_getElem? (i := 104) (by decide +kernel)), rfl⟩
set_option maxRecDepth 20000 in
theorem tw_105 : Cond.code y_S_joint b_S_joint 4 (some .int) ∈ lw_w := List.mem_filter.mpr ⟨List.mem_append_right _ (List.mem_of_getElem? (i := 105) rfl), rfl⟩
set_option maxRecDepth 20000 in
theorem tw_106 : Cond.methodLink R_S 93 y_A_init ∈ lw_w := List.mem_filter.mpr ⟨List.mem_append_right _ (List.mem_of_getElem? (i := 106) (by decide +kernel)), rfl⟩
set_option maxRecDepth 20000 in
theorem tw_107 : Cond.instanceMethod y_A_init ∈ lw_w := List.mem_filter.mpr ⟨List.mem_append_right _ (List.mem_of_getElem? (i := 107) (by decide +kernel)), rfl⟩
set_option maxRecDepth 20000 in
theorem tw_108 : Cond.code y_A_init b_A_init 7 none ∈ lw_w := List.mem_filter.mpr ⟨List.mem_append_right _ (List.mem_of_getElem? (i := 108) rfl), rfl⟩
set_option maxRecDepth 20000 in
theorem tw_109 : Cond.methodLink R_A 5 objectInit ∈ lw_w := List.mem_filter.mpr ⟨List.mem_append_right _ (List.mem_of_getElem? (i := 109) (by decide +kernel)), rfl⟩
set_option maxRecDepth 20000 in
theorem tw_110 : Cond.fieldLink R_A 11 "CurveScan$Arc" "startX" "I" ∈ lw_w := List.mem_filter.mpr ⟨List.mem_append_right _ (List.mem_of_getElem? (i := 110) (by decide +kernel)), rfl⟩
set_option maxRecDepth 20000 in
theorem tw_111 : Cond.fieldLink R_A 15 "CurveScan$Arc" "startY" "I" ∈ lw_w := List.mem_filter.mpr ⟨List.mem_append_right _ (List.mem_of_getElem? (i := 111) (by decide +kernel)), rfl⟩
set_option maxRecDepth 20000 in
theorem tw_112 : Cond.fieldLink R_A 18 "CurveScan$Arc" "bendX" "I" ∈ lw_w := List.mem_filter.mpr ⟨List.mem_append_right _ (List.mem_of_getElem? (i := 112) (by decide +kernel)), rfl⟩
set_option maxRecDepth 20000 in
theorem tw_113 : Cond.fieldLink R_A 21 "CurveScan$Arc" "bendY" "I" ∈ lw_w := List.mem_filter.mpr ⟨List.mem_append_right _ (List.mem_of_getElem? (i := 113) (by decide +kernel)), rfl⟩
set_option maxRecDepth 20000 in
theorem tw_114 : Cond.fieldLink R_A 24 "CurveScan$Arc" "endX" "I" ∈ lw_w := List.mem_filter.mpr ⟨List.mem_append_right _ (List.mem_of_getElem? (i := 114) (by decide +kernel)), rfl⟩
set_option maxRecDepth 20000 in
theorem tw_115 : Cond.fieldLink R_A 27 "CurveScan$Arc" "endY" "I" ∈ lw_w := List.mem_filter.mpr ⟨List.mem_append_right _ (List.mem_of_getElem? (i := 115) (by decide +kernel)), rfl⟩
set_option maxRecDepth 20000 in
theorem tw_116 : Cond.laysFinal "CurveScan$Arc" "CurveScan$Arc" "startX" "I" ∈ lw_w := List.mem_filter.mpr ⟨List.mem_append_right _ (List.mem_of_getElem? (i := 116) (by decide +kernel)), rfl⟩
set_option maxRecDepth 20000 in
theorem tw_118 : Cond.laysFinal "CurveScan$Arc" "CurveScan$Arc" "startY" "I" ∈ lw_w := List.mem_filter.mpr ⟨List.mem_append_right _ (List.mem_of_getElem? (i := 118) (by decide +kernel)), rfl⟩
set_option maxRecDepth 20000 in
theorem tw_120 : Cond.laysFinal "CurveScan$Arc" "CurveScan$Arc" "bendX" "I" ∈ lw_w := List.mem_filter.mpr ⟨List.mem_append_right _ (List.mem_of_getElem? (i := 120) (by decide +kernel)), rfl⟩
set_option maxRecDepth 20000 in
theorem tw_122 : Cond.laysFinal "CurveScan$Arc" "CurveScan$Arc" "bendY" "I" ∈ lw_w := List.mem_filter.mpr ⟨List.mem_append_right _ (List.mem_of_getElem? (i := 122) (by decide +kernel)), rfl⟩
set_option maxRecDepth 20000 in
theorem tw_124 : Cond.laysFinal "CurveScan$Arc" "CurveScan$Arc" "endX" "I" ∈ lw_w := List.mem_filter.mpr ⟨List.mem_append_right _ (List.mem_of_getElem? (i := 124) (by decide +kernel)), rfl⟩
set_option maxRecDepth 20000 in
theorem tw_126 : Cond.laysFinal "CurveScan$Arc" "CurveScan$Arc" "endY" "I" ∈ lw_w := List.mem_filter.mpr ⟨List.mem_append_right _ (List.mem_of_getElem? (i := 126) (by decide +kernel)), rfl⟩
set_option maxRecDepth 20000 in
theorem tw_128 : Cond.superclass "CurveScan$Arc" "java/lang/Object" ∈ lw_w := List.mem_filter.mpr ⟨List.mem_append_right _ (List.mem_of_getElem? (i := 128) (by decide +kernel)), rfl⟩
set_option maxRecDepth 20000 in
theorem tw_129 : Cond.methodLink R_S 96 y_T_add1 ∈ lw_w := List.mem_filter.mpr ⟨List.mem_append_right _ (List.mem_of_getElem? (i := 129) (by decide +kernel)), rfl⟩
set_option maxRecDepth 20000 in
theorem tw_130 : Cond.instanceMethod y_T_add1 ∈ lw_w := List.mem_filter.mpr ⟨List.mem_append_right _ (List.mem_of_getElem? (i := 130) (by decide +kernel)), rfl⟩
set_option maxRecDepth 20000 in
theorem tw_131 : Cond.selects R_T y_T_add1 y_T_add1 ∈ lw_w := List.mem_filter.mpr ⟨List.mem_append_right _ (List.mem_of_getElem? (i := 131) (by decide +kernel)), rfl⟩
set_option maxRecDepth 20000 in
theorem tw_132 : Cond.code y_T_add1 b_T_add1 2 (some .boolean) ∈ lw_w := List.mem_filter.mpr ⟨List.mem_append_right _ (List.mem_of_getElem? (i := 132) rfl), rfl⟩
set_option maxRecDepth 20000 in
theorem tw_133 : Cond.methodLink R_T 131 y_T_add2 ∈ lw_w := List.mem_filter.mpr ⟨List.mem_append_right _ (List.mem_of_getElem? (i := 133) (by decide +kernel)), rfl⟩
set_option maxRecDepth 20000 in
theorem tw_135 : Cond.instanceMethod y_T_add2 ∈ lw_w := List.mem_filter.mpr ⟨List.mem_append_right _ (List.mem_of_getElem? (i := 135) (by decide +kernel)), rfl⟩
set_option maxRecDepth 20000 in
theorem tw_136 : Cond.code y_T_add2 b_T_add2 4 none ∈ lw_w := List.mem_filter.mpr ⟨List.mem_append_right _ (List.mem_of_getElem? (i := 136) rfl), rfl⟩
set_option maxRecDepth 20000 in
theorem tw_137 : Cond.methodLink R_T 129 y_T_grow1 ∈ lw_w := List.mem_filter.mpr ⟨List.mem_append_right _ (List.mem_of_getElem? (i := 137) (by decide +kernel)), rfl⟩
set_option maxRecDepth 20000 in
theorem tw_139 : Cond.instanceMethod y_T_grow1 ∈ lw_w := List.mem_filter.mpr ⟨List.mem_append_right _ (List.mem_of_getElem? (i := 139) (by decide +kernel)), rfl⟩
set_option maxRecDepth 20000 in
theorem tw_140 : Cond.code y_T_grow1 b_T_grow1 1 (some (.array (.object "java/lang/Object"))) ∈ lw_w := List.mem_filter.mpr ⟨List.mem_append_right _ (List.mem_of_getElem? (i := 140) rfl), rfl⟩
set_option maxRecDepth 20000 in
theorem tw_141 : Cond.methodLink R_T 69 y_T_grow2 ∈ lw_w := List.mem_filter.mpr ⟨List.mem_append_right _ (List.mem_of_getElem? (i := 141) (by decide +kernel)), rfl⟩
set_option maxRecDepth 20000 in
theorem tw_143 : Cond.instanceMethod y_T_grow2 ∈ lw_w := List.mem_filter.mpr ⟨List.mem_append_right _ (List.mem_of_getElem? (i := 143) (by decide +kernel)), rfl⟩
set_option maxRecDepth 20000 in
theorem tw_144 : Cond.code y_T_grow2 b_T_grow2 4 (some (.array (.object "java/lang/Object"))) ∈ lw_w := List.mem_filter.mpr ⟨List.mem_append_right _ (List.mem_of_getElem? (i := 144) rfl), rfl⟩
set_option maxRecDepth 20000 in
theorem tw_145 : Cond.methodLink R_T 73 y_P_newLength ∈ lw_w := List.mem_filter.mpr ⟨List.mem_append_right _ (List.mem_of_getElem? (i := 145) (by decide +kernel)), rfl⟩
set_option maxRecDepth 20000 in
theorem tw_146 : Cond.static y_P_newLength ∈ lw_w := List.mem_filter.mpr ⟨List.mem_append_right _ (List.mem_of_getElem? (i := 146) (by decide +kernel)), rfl⟩
set_option maxRecDepth 20000 in
theorem tw_147 : Cond.code y_P_newLength b_P_newLength 4 (some .int) ∈ lw_w := List.mem_filter.mpr ⟨List.mem_append_right _ (List.mem_of_getElem? (i := 147) rfl), rfl⟩
set_option maxRecDepth 20000 in
theorem tw_148 : Cond.methodLink R_P 194 y_H_max ∈ lw_w := List.mem_filter.mpr ⟨List.mem_append_right _ (List.mem_of_getElem? (i := 148) (by decide +kernel)), rfl⟩
set_option maxRecDepth 20000 in
theorem tw_149 : Cond.constant R_P 200 2147483639 ∈ lw_w := List.mem_filter.mpr ⟨List.mem_append_right _ (List.mem_of_getElem? (i := 149) (by decide +kernel)), rfl⟩
set_option maxRecDepth 20000 in
theorem tw_150 : Cond.methodLink R_P 201 y_P_hugeLength ∈ lw_w := List.mem_filter.mpr ⟨List.mem_append_right _ (List.mem_of_getElem? (i := 150) (by decide +kernel)), rfl⟩
set_option maxRecDepth 20000 in
theorem tw_151 : Cond.static y_P_hugeLength ∈ lw_w := List.mem_filter.mpr ⟨List.mem_append_right _ (List.mem_of_getElem? (i := 151) (by decide +kernel)), rfl⟩
set_option maxRecDepth 20000 in
theorem tw_152 : Cond.code y_P_hugeLength b_P_hugeLength 3 (some .int) ∈ lw_w := List.mem_filter.mpr ⟨List.mem_append_right _ (List.mem_of_getElem? (i := 152) rfl), rfl⟩
set_option maxRecDepth 20000 in
theorem tw_153 : Cond.methodLink R_T 66 y_Y_copyOf1 ∈ lw_w := List.mem_filter.mpr ⟨List.mem_append_right _ (List.mem_of_getElem? (i := 153) (by decide +kernel)), rfl⟩
set_option maxRecDepth 20000 in
theorem tw_154 : Cond.static y_Y_copyOf1 ∈ lw_w := List.mem_filter.mpr ⟨List.mem_append_right _ (List.mem_of_getElem? (i := 154) (by decide +kernel)), rfl⟩
set_option maxRecDepth 20000 in
theorem tw_155 : Cond.code y_Y_copyOf1 b_Y_copyOf1 2 (some (.array (.object "java/lang/Object"))) ∈ lw_w := List.mem_filter.mpr ⟨List.mem_append_right _ (List.mem_of_getElem? (i := 155) rfl), rfl⟩
set_option maxRecDepth 20000 in
theorem tw_156 : Cond.methodLink R_Y 86 ⟨"java/lang/Object", "getClass", "()Ljava/lang/Class;"⟩ ∈ lw_w := List.mem_filter.mpr ⟨List.mem_append_right _ (List.mem_of_getElem? (i := 156) (by decide +kernel)), rfl⟩
set_option maxRecDepth 20000 in
theorem tw_157 : Cond.instanceMethod ⟨"java/lang/Object", "getClass", "()Ljava/lang/Class;"⟩ ∈ lw_w := List.mem_filter.mpr ⟨List.mem_append_right _ (List.mem_of_getElem? (i := 157) (by decide +kernel)), rfl⟩
set_option maxRecDepth 20000 in
theorem tw_158 : Cond.sameMethod "java/lang/Object" "java/lang/Object" "getClass" "()Ljava/lang/Class;" ∈ lw_w := List.mem_filter.mpr ⟨List.mem_append_right _ (List.mem_of_getElem? (i := 158) (by decide +kernel)), rfl⟩
set_option maxRecDepth 20000 in
theorem tw_159 : Cond.selects R_S ⟨"java/lang/Object", "getClass", "()Ljava/lang/Class;"⟩ ⟨"java/lang/Object", "getClass", "()Ljava/lang/Class;"⟩ ∈ lw_w := List.mem_filter.mpr ⟨List.mem_append_right _ (List.mem_of_getElem? (i := 159) (by decide +kernel)), rfl⟩
set_option maxRecDepth 20000 in
theorem tw_160 : Cond.selects R_A ⟨"java/lang/Object", "getClass", "()Ljava/lang/Class;"⟩ ⟨"java/lang/Object", "getClass", "()Ljava/lang/Class;"⟩ ∈ lw_w := List.mem_filter.mpr ⟨List.mem_append_right _ (List.mem_of_getElem? (i := 160) (by decide +kernel)), rfl⟩
set_option maxRecDepth 20000 in
theorem tw_161 : Cond.selects R_M ⟨"java/lang/Object", "getClass", "()Ljava/lang/Class;"⟩ ⟨"java/lang/Object", "getClass", "()Ljava/lang/Class;"⟩ ∈ lw_w := List.mem_filter.mpr ⟨List.mem_append_right _ (List.mem_of_getElem? (i := 161) (by decide +kernel)), rfl⟩
set_option maxRecDepth 20000 in
theorem tw_162 : Cond.selects R_T ⟨"java/lang/Object", "getClass", "()Ljava/lang/Class;"⟩ ⟨"java/lang/Object", "getClass", "()Ljava/lang/Class;"⟩ ∈ lw_w := List.mem_filter.mpr ⟨List.mem_append_right _ (List.mem_of_getElem? (i := 162) (by decide +kernel)), rfl⟩
set_option maxRecDepth 20000 in
theorem tw_163 : Cond.native ⟨"java/lang/Object", "getClass", "()Ljava/lang/Class;"⟩ ∈ lw_w := List.mem_filter.mpr ⟨List.mem_append_right _ (List.mem_of_getElem? (i := 163) (by decide +kernel)), rfl⟩
set_option maxRecDepth 20000 in
theorem tw_164 : Cond.methodLink R_Y 300 y_Y_copyOf2 ∈ lw_w := List.mem_filter.mpr ⟨List.mem_append_right _ (List.mem_of_getElem? (i := 164) (by decide +kernel)), rfl⟩
set_option maxRecDepth 20000 in
theorem tw_165 : Cond.static y_Y_copyOf2 ∈ lw_w := List.mem_filter.mpr ⟨List.mem_append_right _ (List.mem_of_getElem? (i := 165) (by decide +kernel)), rfl⟩
set_option maxRecDepth 20000 in
theorem tw_166 : Cond.code y_Y_copyOf2 b_Y_copyOf2 4 (some (.array (.object "java/lang/Object"))) ∈ lw_w := List.mem_filter.mpr ⟨List.mem_append_right _ (List.mem_of_getElem? (i := 166) rfl), rfl⟩
set_option maxRecDepth 20000 in
theorem tw_167 : Cond.classLink R_Y 110 "[Ljava/lang/Object;" ∈ lw_w := List.mem_filter.mpr ⟨List.mem_append_right _ (List.mem_of_getElem? (i := 167) (by decide +kernel)), rfl⟩
set_option maxRecDepth 20000 in
theorem tw_169 : Cond.classLink R_Y 2 R_B ∈ lw_w := List.mem_filter.mpr ⟨List.mem_append_right _ (List.mem_of_getElem? (i := 169) (by decide +kernel)), rfl⟩
set_option maxRecDepth 20000 in
theorem tw_170 : Cond.methodLink R_Y 304 y_H_min ∈ lw_w := List.mem_filter.mpr ⟨List.mem_append_right _ (List.mem_of_getElem? (i := 170) (by decide +kernel)), rfl⟩
set_option maxRecDepth 20000 in
theorem tw_171 : Cond.methodLink R_Y 150 ⟨"java/lang/System", "arraycopy", "(Ljava/lang/Object;ILjava/lang/Object;II)V"⟩ ∈ lw_w := List.mem_filter.mpr ⟨List.mem_append_right _ (List.mem_of_getElem? (i := 171) (by decide +kernel)), rfl⟩
set_option maxRecDepth 20000 in
theorem tw_172 : Cond.static ⟨"java/lang/System", "arraycopy", "(Ljava/lang/Object;ILjava/lang/Object;II)V"⟩ ∈ lw_w := List.mem_filter.mpr ⟨List.mem_append_right _ (List.mem_of_getElem? (i := 172) (by decide +kernel)), rfl⟩
set_option maxRecDepth 20000 in
theorem tw_173 : Cond.native ⟨"java/lang/System", "arraycopy", "(Ljava/lang/Object;ILjava/lang/Object;II)V"⟩ ∈ lw_w := List.mem_filter.mpr ⟨List.mem_append_right _ (List.mem_of_getElem? (i := 173) (by decide +kernel)), rfl⟩
set_option maxRecDepth 20000 in
theorem tw_174 : Cond.methodLink R_T 79 y_H_max ∈ lw_w := List.mem_filter.mpr ⟨List.mem_append_right _ (List.mem_of_getElem? (i := 174) (by decide +kernel)), rfl⟩
set_option maxRecDepth 20000 in
theorem tw_175 : Cond.classLink R_T 7 R_B ∈ lw_w := List.mem_filter.mpr ⟨List.mem_append_right _ (List.mem_of_getElem? (i := 175) (by decide +kernel)), rfl⟩
set_option maxRecDepth 20000 in
theorem tw_176 : Cond.methodLink R_L 31 y_S_clear ∈ lw_w := List.mem_filter.mpr ⟨List.mem_append_right _ (List.mem_of_getElem? (i := 176) (by decide +kernel)), rfl⟩
set_option maxRecDepth 20000 in
theorem tw_177 : Cond.instanceMethod y_S_clear ∈ lw_w := List.mem_filter.mpr ⟨List.mem_append_right _ (List.mem_of_getElem? (i := 177) (by decide +kernel)), rfl⟩
set_option maxRecDepth 20000 in
theorem tw_178 : Cond.selects R_S y_S_clear y_S_clear ∈ lw_w := List.mem_filter.mpr ⟨List.mem_append_right _ (List.mem_of_getElem? (i := 178) (by decide +kernel)), rfl⟩
set_option maxRecDepth 20000 in
theorem tw_179 : Cond.code y_S_clear b_S_clear 2 (some .int) ∈ lw_w := List.mem_filter.mpr ⟨List.mem_append_right _ (List.mem_of_getElem? (i := 179) rfl), rfl⟩
set_option maxRecDepth 20000 in
theorem tw_180 : Cond.methodLink R_S 60 y_T_clear ∈ lw_w := List.mem_filter.mpr ⟨List.mem_append_right _ (List.mem_of_getElem? (i := 180) (by decide +kernel)), rfl⟩
set_option maxRecDepth 20000 in
theorem tw_181 : Cond.instanceMethod y_T_clear ∈ lw_w := List.mem_filter.mpr ⟨List.mem_append_right _ (List.mem_of_getElem? (i := 181) (by decide +kernel)), rfl⟩
set_option maxRecDepth 20000 in
theorem tw_182 : Cond.selects R_T y_T_clear y_T_clear ∈ lw_w := List.mem_filter.mpr ⟨List.mem_append_right _ (List.mem_of_getElem? (i := 182) (by decide +kernel)), rfl⟩
set_option maxRecDepth 20000 in
theorem tw_183 : Cond.code y_T_clear b_T_clear 4 none ∈ lw_w := List.mem_filter.mpr ⟨List.mem_append_right _ (List.mem_of_getElem? (i := 183) rfl), rfl⟩
set_option maxRecDepth 20000 in
theorem tw_184 : Cond.methodLink R_L 35 y_S_winding ∈ lw_w := List.mem_filter.mpr ⟨List.mem_append_right _ (List.mem_of_getElem? (i := 184) (by decide +kernel)), rfl⟩
set_option maxRecDepth 20000 in
theorem tw_185 : Cond.instanceMethod y_S_winding ∈ lw_w := List.mem_filter.mpr ⟨List.mem_append_right _ (List.mem_of_getElem? (i := 185) (by decide +kernel)), rfl⟩
set_option maxRecDepth 20000 in
theorem tw_186 : Cond.selects R_S y_S_winding y_S_winding ∈ lw_w := List.mem_filter.mpr ⟨List.mem_append_right _ (List.mem_of_getElem? (i := 186) (by decide +kernel)), rfl⟩
set_option maxRecDepth 20000 in
theorem tw_187 : Cond.code y_S_winding b_S_winding 6 (some .int) ∈ lw_w := List.mem_filter.mpr ⟨List.mem_append_right _ (List.mem_of_getElem? (i := 187) rfl), rfl⟩
set_option maxRecDepth 20000 in
theorem tw_188 : Cond.methodLink R_S 63 y_T_size ∈ lw_w := List.mem_filter.mpr ⟨List.mem_append_right _ (List.mem_of_getElem? (i := 188) (by decide +kernel)), rfl⟩
set_option maxRecDepth 20000 in
theorem tw_189 : Cond.instanceMethod y_T_size ∈ lw_w := List.mem_filter.mpr ⟨List.mem_append_right _ (List.mem_of_getElem? (i := 189) (by decide +kernel)), rfl⟩
set_option maxRecDepth 20000 in
theorem tw_190 : Cond.selects R_T y_T_size y_T_size ∈ lw_w := List.mem_filter.mpr ⟨List.mem_append_right _ (List.mem_of_getElem? (i := 190) (by decide +kernel)), rfl⟩
set_option maxRecDepth 20000 in
theorem tw_191 : Cond.code y_T_size b_T_size 1 (some .int) ∈ lw_w := List.mem_filter.mpr ⟨List.mem_append_right _ (List.mem_of_getElem? (i := 191) rfl), rfl⟩
set_option maxRecDepth 20000 in
theorem tw_192 : Cond.methodLink R_S 67 y_T_get ∈ lw_w := List.mem_filter.mpr ⟨List.mem_append_right _ (List.mem_of_getElem? (i := 192) (by decide +kernel)), rfl⟩
set_option maxRecDepth 20000 in
theorem tw_193 : Cond.instanceMethod y_T_get ∈ lw_w := List.mem_filter.mpr ⟨List.mem_append_right _ (List.mem_of_getElem? (i := 193) (by decide +kernel)), rfl⟩
set_option maxRecDepth 20000 in
theorem tw_194 : Cond.selects R_T y_T_get y_T_get ∈ lw_w := List.mem_filter.mpr ⟨List.mem_append_right _ (List.mem_of_getElem? (i := 194) (by decide +kernel)), rfl⟩
set_option maxRecDepth 20000 in
theorem tw_195 : Cond.code y_T_get b_T_get 2 (some (.object "java/lang/Object")) ∈ lw_w := List.mem_filter.mpr ⟨List.mem_append_right _ (List.mem_of_getElem? (i := 195) rfl), rfl⟩
set_option maxRecDepth 20000 in
theorem tw_196 : Cond.methodLink R_T 118 y_O_checkIndex ∈ lw_w := List.mem_filter.mpr ⟨List.mem_append_right _ (List.mem_of_getElem? (i := 196) (by decide +kernel)), rfl⟩
set_option maxRecDepth 20000 in
theorem tw_197 : Cond.static y_O_checkIndex ∈ lw_w := List.mem_filter.mpr ⟨List.mem_append_right _ (List.mem_of_getElem? (i := 197) (by decide +kernel)), rfl⟩
set_option maxRecDepth 20000 in
theorem tw_198 : Cond.code y_O_checkIndex b_O_checkIndex 2 (some .int) ∈ lw_w := List.mem_filter.mpr ⟨List.mem_append_right _ (List.mem_of_getElem? (i := 198) rfl), rfl⟩
set_option maxRecDepth 20000 in
theorem tw_199 : Cond.methodLink R_O 105 y_Q_checkIndex ∈ lw_w := List.mem_filter.mpr ⟨List.mem_append_right _ (List.mem_of_getElem? (i := 199) (by decide +kernel)), rfl⟩
set_option maxRecDepth 20000 in
theorem tw_200 : Cond.static y_Q_checkIndex ∈ lw_w := List.mem_filter.mpr ⟨List.mem_append_right _ (List.mem_of_getElem? (i := 200) (by decide +kernel)), rfl⟩
set_option maxRecDepth 20000 in
theorem tw_201 : Cond.code y_Q_checkIndex b_Q_checkIndex 3 (some .int) ∈ lw_w := List.mem_filter.mpr ⟨List.mem_append_right _ (List.mem_of_getElem? (i := 201) rfl), rfl⟩
set_option maxRecDepth 20000 in
theorem tw_202 : Cond.methodLink R_T 123 y_T_elementData ∈ lw_w := List.mem_filter.mpr ⟨List.mem_append_right _ (List.mem_of_getElem? (i := 202) (by decide +kernel)), rfl⟩
set_option maxRecDepth 20000 in
theorem tw_203 : Cond.instanceMethod y_T_elementData ∈ lw_w := List.mem_filter.mpr ⟨List.mem_append_right _ (List.mem_of_getElem? (i := 203) (by decide +kernel)), rfl⟩
set_option maxRecDepth 20000 in
theorem tw_204 : Cond.selects R_T y_T_elementData y_T_elementData ∈ lw_w := List.mem_filter.mpr ⟨List.mem_append_right _ (List.mem_of_getElem? (i := 204) (by decide +kernel)), rfl⟩
set_option maxRecDepth 20000 in
theorem tw_205 : Cond.code y_T_elementData b_T_elementData 2 (some (.object "java/lang/Object")) ∈ lw_w := List.mem_filter.mpr ⟨List.mem_append_right _ (List.mem_of_getElem? (i := 205) rfl), rfl⟩
set_option maxRecDepth 20000 in
theorem tw_206 : Cond.methodLink R_S 73 y_A_turnsAround ∈ lw_w := List.mem_filter.mpr ⟨List.mem_append_right _ (List.mem_of_getElem? (i := 206) (by decide +kernel)), rfl⟩
set_option maxRecDepth 20000 in
theorem tw_207 : Cond.instanceMethod y_A_turnsAround ∈ lw_w := List.mem_filter.mpr ⟨List.mem_append_right _ (List.mem_of_getElem? (i := 207) (by decide +kernel)), rfl⟩
set_option maxRecDepth 20000 in
theorem tw_208 : Cond.selects R_A y_A_turnsAround y_A_turnsAround ∈ lw_w := List.mem_filter.mpr ⟨List.mem_append_right _ (List.mem_of_getElem? (i := 208) (by decide +kernel)), rfl⟩
set_option maxRecDepth 20000 in
theorem tw_209 : Cond.code y_A_turnsAround b_A_turnsAround 13 (some .int) ∈ lw_w := List.mem_filter.mpr ⟨List.mem_append_right _ (List.mem_of_getElem? (i := 209) rfl), rfl⟩
set_option maxRecDepth 20000 in
theorem tw_210 : Cond.methodLink R_A 39 y_A_mayMeetHeight ∈ lw_w := List.mem_filter.mpr ⟨List.mem_append_right _ (List.mem_of_getElem? (i := 210) (by decide +kernel)), rfl⟩
set_option maxRecDepth 20000 in
theorem tw_211 : Cond.instanceMethod y_A_mayMeetHeight ∈ lw_w := List.mem_filter.mpr ⟨List.mem_append_right _ (List.mem_of_getElem? (i := 211) (by decide +kernel)), rfl⟩
set_option maxRecDepth 20000 in
theorem tw_212 : Cond.selects R_A y_A_mayMeetHeight y_A_mayMeetHeight ∈ lw_w := List.mem_filter.mpr ⟨List.mem_append_right _ (List.mem_of_getElem? (i := 212) (by decide +kernel)), rfl⟩
set_option maxRecDepth 20000 in
theorem tw_213 : Cond.code y_A_mayMeetHeight b_A_mayMeetHeight 2 (some .boolean) ∈ lw_w := List.mem_filter.mpr ⟨List.mem_append_right _ (List.mem_of_getElem? (i := 213) rfl), rfl⟩
set_option maxRecDepth 20000 in
theorem tw_214 : Cond.methodLink R_A 30 y_H_min ∈ lw_w := List.mem_filter.mpr ⟨List.mem_append_right _ (List.mem_of_getElem? (i := 214) (by decide +kernel)), rfl⟩
set_option maxRecDepth 20000 in
theorem tw_215 : Cond.methodLink R_A 36 y_H_max ∈ lw_w := List.mem_filter.mpr ⟨List.mem_append_right _ (List.mem_of_getElem? (i := 215) (by decide +kernel)), rfl⟩
set_option maxRecDepth 20000 in
theorem tw_216 : Cond.methodLink R_A 43 y_A_turn ∈ lw_w := List.mem_filter.mpr ⟨List.mem_append_right _ (List.mem_of_getElem? (i := 216) (by decide +kernel)), rfl⟩
set_option maxRecDepth 20000 in
theorem tw_217 : Cond.static y_A_turn ∈ lw_w := List.mem_filter.mpr ⟨List.mem_append_right _ (List.mem_of_getElem? (i := 217) (by decide +kernel)), rfl⟩
set_option maxRecDepth 20000 in
theorem tw_218 : Cond.code y_A_turn b_A_turn 8 (some .long) ∈ lw_w := List.mem_filter.mpr ⟨List.mem_append_right _ (List.mem_of_getElem? (i := 218) rfl), rfl⟩
set_option maxRecDepth 20000 in
theorem tw_219 : Cond.methodLink R_A 47 y_J_compare ∈ lw_w := List.mem_filter.mpr ⟨List.mem_append_right _ (List.mem_of_getElem? (i := 219) (by decide +kernel)), rfl⟩
set_option maxRecDepth 20000 in
theorem tw_220 : Cond.static y_J_compare ∈ lw_w := List.mem_filter.mpr ⟨List.mem_append_right _ (List.mem_of_getElem? (i := 220) (by decide +kernel)), rfl⟩
set_option maxRecDepth 20000 in
theorem tw_221 : Cond.code y_J_compare b_J_compare 4 (some .int) ∈ lw_w := List.mem_filter.mpr ⟨List.mem_append_right _ (List.mem_of_getElem? (i := 221) rfl), rfl⟩
set_option maxRecDepth 20000 in
theorem tw_222 : Cond.methodLink R_A 53 y_A_sideOfChord ∈ lw_w := List.mem_filter.mpr ⟨List.mem_append_right _ (List.mem_of_getElem? (i := 222) (by decide +kernel)), rfl⟩
set_option maxRecDepth 20000 in
theorem tw_224 : Cond.instanceMethod y_A_sideOfChord ∈ lw_w := List.mem_filter.mpr ⟨List.mem_append_right _ (List.mem_of_getElem? (i := 224) (by decide +kernel)), rfl⟩
set_option maxRecDepth 20000 in
theorem tw_225 : Cond.code y_A_sideOfChord b_A_sideOfChord 3 (some .int) ∈ lw_w := List.mem_filter.mpr ⟨List.mem_append_right _ (List.mem_of_getElem? (i := 225) rfl), rfl⟩
set_option maxRecDepth 20000 in
theorem tw_226 : Cond.methodLink R_A 74 y_I_compare ∈ lw_w := List.mem_filter.mpr ⟨List.mem_append_right _ (List.mem_of_getElem? (i := 226) (by decide +kernel)), rfl⟩
set_option maxRecDepth 20000 in
theorem tw_227 : Cond.static y_I_compare ∈ lw_w := List.mem_filter.mpr ⟨List.mem_append_right _ (List.mem_of_getElem? (i := 227) (by decide +kernel)), rfl⟩
set_option maxRecDepth 20000 in
theorem tw_228 : Cond.code y_I_compare b_I_compare 2 (some .int) ∈ lw_w := List.mem_filter.mpr ⟨List.mem_append_right _ (List.mem_of_getElem? (i := 228) rfl), rfl⟩
set_option maxRecDepth 20000 in
theorem tw_229 : Cond.methodLink R_A 57 y_A_chordShare ∈ lw_w := List.mem_filter.mpr ⟨List.mem_append_right _ (List.mem_of_getElem? (i := 229) (by decide +kernel)), rfl⟩
set_option maxRecDepth 20000 in
theorem tw_231 : Cond.instanceMethod y_A_chordShare ∈ lw_w := List.mem_filter.mpr ⟨List.mem_append_right _ (List.mem_of_getElem? (i := 231) (by decide +kernel)), rfl⟩
set_option maxRecDepth 20000 in
theorem tw_232 : Cond.code y_A_chordShare b_A_chordShare 5 (some .int) ∈ lw_w := List.mem_filter.mpr ⟨List.mem_append_right _ (List.mem_of_getElem? (i := 232) rfl), rfl⟩
set_option maxRecDepth 20000 in
theorem tw_233 : Cond.methodLink R_A 60 y_A_onStraightArc ∈ lw_w := List.mem_filter.mpr ⟨List.mem_append_right _ (List.mem_of_getElem? (i := 233) (by decide +kernel)), rfl⟩
set_option maxRecDepth 20000 in
theorem tw_235 : Cond.instanceMethod y_A_onStraightArc ∈ lw_w := List.mem_filter.mpr ⟨List.mem_append_right _ (List.mem_of_getElem? (i := 235) (by decide +kernel)), rfl⟩
set_option maxRecDepth 20000 in
theorem tw_236 : Cond.code y_A_onStraightArc b_A_onStraightArc 3 (some .boolean) ∈ lw_w := List.mem_filter.mpr ⟨List.mem_append_right _ (List.mem_of_getElem? (i := 236) rfl), rfl⟩
set_option maxRecDepth 20000 in
theorem tw_237 : Cond.methodLink R_A 78 y_A_reachesZero ∈ lw_w := List.mem_filter.mpr ⟨List.mem_append_right _ (List.mem_of_getElem? (i := 237) (by decide +kernel)), rfl⟩
set_option maxRecDepth 20000 in
theorem tw_238 : Cond.static y_A_reachesZero ∈ lw_w := List.mem_filter.mpr ⟨List.mem_append_right _ (List.mem_of_getElem? (i := 238) (by decide +kernel)), rfl⟩
set_option maxRecDepth 20000 in
theorem tw_239 : Cond.code y_A_reachesZero b_A_reachesZero 7 (some .boolean) ∈ lw_w := List.mem_filter.mpr ⟨List.mem_append_right _ (List.mem_of_getElem? (i := 239) rfl), rfl⟩
set_option maxRecDepth 20000 in
theorem tw_240 : Cond.methodLink R_A 64 y_H_abs ∈ lw_w := List.mem_filter.mpr ⟨List.mem_append_right _ (List.mem_of_getElem? (i := 240) (by decide +kernel)), rfl⟩
set_option maxRecDepth 20000 in
theorem tw_241 : Cond.static y_H_abs ∈ lw_w := List.mem_filter.mpr ⟨List.mem_append_right _ (List.mem_of_getElem? (i := 241) (by decide +kernel)), rfl⟩
set_option maxRecDepth 20000 in
theorem tw_242 : Cond.code y_H_abs b_H_abs 2 (some .long) ∈ lw_w := List.mem_filter.mpr ⟨List.mem_append_right _ (List.mem_of_getElem? (i := 242) rfl), rfl⟩
set_option maxRecDepth 20000 in
theorem tw_243 : Cond.constantLong R_A 68 4 ∈ lw_w := List.mem_filter.mpr ⟨List.mem_append_right _ (List.mem_of_getElem? (i := 243) (by decide +kernel)), rfl⟩
set_option maxRecDepth 20000 in
theorem tw_244 : Cond.methodLink R_A 70 y_A_compareProducts ∈ lw_w := List.mem_filter.mpr ⟨List.mem_append_right _ (List.mem_of_getElem? (i := 244) (by decide +kernel)), rfl⟩
set_option maxRecDepth 20000 in
theorem tw_245 : Cond.static y_A_compareProducts ∈ lw_w := List.mem_filter.mpr ⟨List.mem_append_right _ (List.mem_of_getElem? (i := 245) (by decide +kernel)), rfl⟩
set_option maxRecDepth 20000 in
theorem tw_246 : Cond.code y_A_compareProducts b_A_compareProducts 9 (some .int) ∈ lw_w := List.mem_filter.mpr ⟨List.mem_append_right _ (List.mem_of_getElem? (i := 246) rfl), rfl⟩
set_option maxRecDepth 20000 in
theorem tw_247 : Cond.methodLink R_A 82 y_A_highPart ∈ lw_w := List.mem_filter.mpr ⟨List.mem_append_right _ (List.mem_of_getElem? (i := 247) (by decide +kernel)), rfl⟩
set_option maxRecDepth 20000 in
theorem tw_248 : Cond.static y_A_highPart ∈ lw_w := List.mem_filter.mpr ⟨List.mem_append_right _ (List.mem_of_getElem? (i := 248) (by decide +kernel)), rfl⟩
set_option maxRecDepth 20000 in
theorem tw_249 : Cond.code y_A_highPart b_A_highPart 4 (some .long) ∈ lw_w := List.mem_filter.mpr ⟨List.mem_append_right _ (List.mem_of_getElem? (i := 249) rfl), rfl⟩
set_option maxRecDepth 20000 in
theorem tw_250 : Cond.constantLong R_A 89 1048575 ∈ lw_w := List.mem_filter.mpr ⟨List.mem_append_right _ (List.mem_of_getElem? (i := 250) (by decide +kernel)), rfl⟩
set_option maxRecDepth 20000 in
theorem tw_251 : Cond.methodLink R_A 86 y_A_lowPart ∈ lw_w := List.mem_filter.mpr ⟨List.mem_append_right _ (List.mem_of_getElem? (i := 251) (by decide +kernel)), rfl⟩
set_option maxRecDepth 20000 in
theorem tw_252 : Cond.static y_A_lowPart ∈ lw_w := List.mem_filter.mpr ⟨List.mem_append_right _ (List.mem_of_getElem? (i := 252) (by decide +kernel)), rfl⟩
set_option maxRecDepth 20000 in
theorem tw_253 : Cond.code y_A_lowPart b_A_lowPart 4 (some .long) ∈ lw_w := List.mem_filter.mpr ⟨List.mem_append_right _ (List.mem_of_getElem? (i := 253) rfl), rfl⟩
set_option maxRecDepth 20000 in
theorem tw_254 : Cond.methodLink R_L 40 y_S_row ∈ lw_w := List.mem_filter.mpr ⟨List.mem_append_right _ (List.mem_of_getElem? (i := 254) (by decide +kernel)), rfl⟩
set_option maxRecDepth 20000 in
theorem tw_255 : Cond.instanceMethod y_S_row ∈ lw_w := List.mem_filter.mpr ⟨List.mem_append_right _ (List.mem_of_getElem? (i := 255) (by decide +kernel)), rfl⟩
set_option maxRecDepth 20000 in
theorem tw_256 : Cond.selects R_S y_S_row y_S_row ∈ lw_w := List.mem_filter.mpr ⟨List.mem_append_right _ (List.mem_of_getElem? (i := 256) (by decide +kernel)), rfl⟩
set_option maxRecDepth 20000 in
theorem tw_257 : Cond.code y_S_row b_S_row 7 (some .long) ∈ lw_w := List.mem_filter.mpr ⟨List.mem_append_right _ (List.mem_of_getElem? (i := 257) rfl), rfl⟩
set_option maxRecDepth 20000 in
theorem tw_258 : Cond.methodLink R_S 76 y_Y_fill ∈ lw_w := List.mem_filter.mpr ⟨List.mem_append_right _ (List.mem_of_getElem? (i := 258) (by decide +kernel)), rfl⟩
set_option maxRecDepth 20000 in
theorem tw_259 : Cond.static y_Y_fill ∈ lw_w := List.mem_filter.mpr ⟨List.mem_append_right _ (List.mem_of_getElem? (i := 259) (by decide +kernel)), rfl⟩
set_option maxRecDepth 20000 in
theorem tw_260 : Cond.code y_Y_fill b_Y_fill 4 none ∈ lw_w := List.mem_filter.mpr ⟨List.mem_append_right _ (List.mem_of_getElem? (i := 260) rfl), rfl⟩
set_option maxRecDepth 20000 in
theorem tw_261 : Cond.methodLink R_S 82 y_A_mayMeetHeight ∈ lw_w := List.mem_filter.mpr ⟨List.mem_append_right _ (List.mem_of_getElem? (i := 261) (by decide +kernel)), rfl⟩
set_option maxRecDepth 20000 in
theorem tw_262 : Cond.methodLink R_S 85 y_S_addRowTurns ∈ lw_w := List.mem_filter.mpr ⟨List.mem_append_right _ (List.mem_of_getElem? (i := 262) (by decide +kernel)), rfl⟩
set_option maxRecDepth 20000 in
theorem tw_264 : Cond.instanceMethod y_S_addRowTurns ∈ lw_w := List.mem_filter.mpr ⟨List.mem_append_right _ (List.mem_of_getElem? (i := 264) (by decide +kernel)), rfl⟩
set_option maxRecDepth 20000 in
theorem tw_265 : Cond.code y_S_addRowTurns b_S_addRowTurns 7 (some .long) ∈ lw_w := List.mem_filter.mpr ⟨List.mem_append_right _ (List.mem_of_getElem? (i := 265) rfl), rfl⟩
set_option maxRecDepth 20000 in
theorem tw_266 : Cond.methodLink R_L 45 y_S_count ∈ lw_w := List.mem_filter.mpr ⟨List.mem_append_right _ (List.mem_of_getElem? (i := 266) (by decide +kernel)), rfl⟩
set_option maxRecDepth 20000 in
theorem tw_267 : Cond.instanceMethod y_S_count ∈ lw_w := List.mem_filter.mpr ⟨List.mem_append_right _ (List.mem_of_getElem? (i := 267) (by decide +kernel)), rfl⟩
set_option maxRecDepth 20000 in
theorem tw_268 : Cond.selects R_S y_S_count y_S_count ∈ lw_w := List.mem_filter.mpr ⟨List.mem_append_right _ (List.mem_of_getElem? (i := 268) (by decide +kernel)), rfl⟩
set_option maxRecDepth 20000 in
theorem tw_269 : Cond.code y_S_count b_S_count 2 (some .int) ∈ lw_w := List.mem_filter.mpr ⟨List.mem_append_right _ (List.mem_of_getElem? (i := 269) rfl), rfl⟩
set_option maxRecDepth 20000 in
theorem tw_270 : Cond.methodLink R_L 9 y_L_cell ∈ lw_w := List.mem_filter.mpr ⟨List.mem_append_right _ (List.mem_of_getElem? (i := 270) (by decide +kernel)), rfl⟩
set_option maxRecDepth 20000 in
theorem tw_271 : Cond.static y_L_cell ∈ lw_w := List.mem_filter.mpr ⟨List.mem_append_right _ (List.mem_of_getElem? (i := 271) (by decide +kernel)), rfl⟩
set_option maxRecDepth 20000 in
theorem tw_272 : Cond.code y_L_cell b_L_cell 2 (some .int) ∈ lw_w := List.mem_filter.mpr ⟨List.mem_append_right _ (List.mem_of_getElem? (i := 272) rfl), rfl⟩
set_option maxRecDepth 20000 in
theorem tw_273 : Cond.classLink R_L 18 R_M ∈ lw_w := List.mem_filter.mpr ⟨List.mem_append_right _ (List.mem_of_getElem? (i := 273) (by decide +kernel)), rfl⟩
set_option maxRecDepth 20000 in
theorem tw_274 : Cond.instantiable R_M 11 ∈ lw_w := List.mem_filter.mpr ⟨List.mem_append_right _ (List.mem_of_getElem? (i := 274) (by decide +kernel)), rfl⟩
set_option maxRecDepth 20000 in
theorem tw_275 : Cond.methodLink R_L 20 y_M_init ∈ lw_w := List.mem_filter.mpr ⟨List.mem_append_right _ (List.mem_of_getElem? (i := 275) (by decide +kernel)), rfl⟩
set_option maxRecDepth 20000 in
theorem tw_276 : Cond.instanceMethod y_M_init ∈ lw_w := List.mem_filter.mpr ⟨List.mem_append_right _ (List.mem_of_getElem? (i := 276) (by decide +kernel)), rfl⟩
set_option maxRecDepth 20000 in
theorem tw_277 : Cond.code y_M_init b_M_init 2 none ∈ lw_w := List.mem_filter.mpr ⟨List.mem_append_right _ (List.mem_of_getElem? (i := 277) rfl), rfl⟩
set_option maxRecDepth 20000 in
theorem tw_278 : Cond.methodLink R_M 1 objectInit ∈ lw_w := List.mem_filter.mpr ⟨List.mem_append_right _ (List.mem_of_getElem? (i := 278) (by decide +kernel)), rfl⟩
set_option maxRecDepth 20000 in
theorem tw_279 : Cond.fieldLink R_M 30 "CurveScanModel" "width" "I" ∈ lw_w := List.mem_filter.mpr ⟨List.mem_append_right _ (List.mem_of_getElem? (i := 279) (by decide +kernel)), rfl⟩
set_option maxRecDepth 20000 in
theorem tw_280 : Cond.fieldLink R_M 9 "CurveScanModel" "px" "[J" ∈ lw_w := List.mem_filter.mpr ⟨List.mem_append_right _ (List.mem_of_getElem? (i := 280) (by decide +kernel)), rfl⟩
set_option maxRecDepth 20000 in
theorem tw_281 : Cond.fieldLink R_M 13 "CurveScanModel" "py" "[J" ∈ lw_w := List.mem_filter.mpr ⟨List.mem_append_right _ (List.mem_of_getElem? (i := 281) (by decide +kernel)), rfl⟩
set_option maxRecDepth 20000 in
theorem tw_282 : Cond.fieldLink R_M 16 "CurveScanModel" "on" "[Z" ∈ lw_w := List.mem_filter.mpr ⟨List.mem_append_right _ (List.mem_of_getElem? (i := 282) (by decide +kernel)), rfl⟩
set_option maxRecDepth 20000 in
theorem tw_283 : Cond.fieldLink R_M 20 "CurveScanModel" "ends" "[I" ∈ lw_w := List.mem_filter.mpr ⟨List.mem_append_right _ (List.mem_of_getElem? (i := 283) (by decide +kernel)), rfl⟩
set_option maxRecDepth 20000 in
theorem tw_284 : Cond.fieldLink R_M 89 "CurveScanModel" "contours" "I" ∈ lw_w := List.mem_filter.mpr ⟨List.mem_append_right _ (List.mem_of_getElem? (i := 284) (by decide +kernel)), rfl⟩
set_option maxRecDepth 20000 in
theorem tw_285 : Cond.fieldLink R_M 96 "CurveScanModel" "points" "I" ∈ lw_w := List.mem_filter.mpr ⟨List.mem_append_right _ (List.mem_of_getElem? (i := 285) (by decide +kernel)), rfl⟩
set_option maxRecDepth 20000 in
theorem tw_286 : Cond.fieldLink R_M 52 "CurveScanModel" "touches" "Z" ∈ lw_w := List.mem_filter.mpr ⟨List.mem_append_right _ (List.mem_of_getElem? (i := 286) (by decide +kernel)), rfl⟩
set_option maxRecDepth 20000 in
theorem tw_287 : Cond.fieldLink R_M 56 "CurveScanModel" "turns" "I" ∈ lw_w := List.mem_filter.mpr ⟨List.mem_append_right _ (List.mem_of_getElem? (i := 287) (by decide +kernel)), rfl⟩
set_option maxRecDepth 20000 in
theorem tw_288 : Cond.fieldLink R_M 24 "CurveScanModel" "first" "[J" ∈ lw_w := List.mem_filter.mpr ⟨List.mem_append_right _ (List.mem_of_getElem? (i := 288) (by decide +kernel)), rfl⟩
set_option maxRecDepth 20000 in
theorem tw_289 : Cond.fieldLink R_M 27 "CurveScanModel" "second" "[J" ∈ lw_w := List.mem_filter.mpr ⟨List.mem_append_right _ (List.mem_of_getElem? (i := 289) (by decide +kernel)), rfl⟩
set_option maxRecDepth 20000 in
theorem tw_290 : Cond.laysFinal "CurveScanModel" "CurveScanModel" "width" "I" ∈ lw_w := List.mem_filter.mpr ⟨List.mem_append_right _ (List.mem_of_getElem? (i := 290) (by decide +kernel)), rfl⟩
set_option maxRecDepth 20000 in
theorem tw_292 : Cond.laysFinal "CurveScanModel" "CurveScanModel" "px" "[J" ∈ lw_w := List.mem_filter.mpr ⟨List.mem_append_right _ (List.mem_of_getElem? (i := 292) (by decide +kernel)), rfl⟩
set_option maxRecDepth 20000 in
theorem tw_294 : Cond.laysFinal "CurveScanModel" "CurveScanModel" "py" "[J" ∈ lw_w := List.mem_filter.mpr ⟨List.mem_append_right _ (List.mem_of_getElem? (i := 294) (by decide +kernel)), rfl⟩
set_option maxRecDepth 20000 in
theorem tw_296 : Cond.laysFinal "CurveScanModel" "CurveScanModel" "on" "[Z" ∈ lw_w := List.mem_filter.mpr ⟨List.mem_append_right _ (List.mem_of_getElem? (i := 296) (by decide +kernel)), rfl⟩
set_option maxRecDepth 20000 in
theorem tw_298 : Cond.laysFinal "CurveScanModel" "CurveScanModel" "ends" "[I" ∈ lw_w := List.mem_filter.mpr ⟨List.mem_append_right _ (List.mem_of_getElem? (i := 298) (by decide +kernel)), rfl⟩
set_option maxRecDepth 20000 in
theorem tw_300 : Cond.lays "CurveScanModel" "CurveScanModel" "contours" "I" ∈ lw_w := List.mem_filter.mpr ⟨List.mem_append_right _ (List.mem_of_getElem? (i := 300) (by decide +kernel)), rfl⟩
set_option maxRecDepth 20000 in
theorem tw_302 : Cond.lays "CurveScanModel" "CurveScanModel" "points" "I" ∈ lw_w := List.mem_filter.mpr ⟨List.mem_append_right _ (List.mem_of_getElem? (i := 302) (by decide +kernel)), rfl⟩
set_option maxRecDepth 20000 in
theorem tw_304 : Cond.lays "CurveScanModel" "CurveScanModel" "touches" "Z" ∈ lw_w := List.mem_filter.mpr ⟨List.mem_append_right _ (List.mem_of_getElem? (i := 304) (by decide +kernel)), rfl⟩
set_option maxRecDepth 20000 in
theorem tw_306 : Cond.lays "CurveScanModel" "CurveScanModel" "turns" "I" ∈ lw_w := List.mem_filter.mpr ⟨List.mem_append_right _ (List.mem_of_getElem? (i := 306) (by decide +kernel)), rfl⟩
set_option maxRecDepth 20000 in
theorem tw_308 : Cond.laysFinal "CurveScanModel" "CurveScanModel" "first" "[J" ∈ lw_w := List.mem_filter.mpr ⟨List.mem_append_right _ (List.mem_of_getElem? (i := 308) (by decide +kernel)), rfl⟩
set_option maxRecDepth 20000 in
theorem tw_310 : Cond.laysFinal "CurveScanModel" "CurveScanModel" "second" "[J" ∈ lw_w := List.mem_filter.mpr ⟨List.mem_append_right _ (List.mem_of_getElem? (i := 310) (by decide +kernel)), rfl⟩
set_option maxRecDepth 20000 in
theorem tw_312 : Cond.superclass "CurveScanModel" "java/lang/Object" ∈ lw_w := List.mem_filter.mpr ⟨List.mem_append_right _ (List.mem_of_getElem? (i := 312) (by decide +kernel)), rfl⟩
set_option maxRecDepth 20000 in
theorem tw_313 : Cond.arrayClass .long ∈ lw_w := List.mem_filter.mpr ⟨List.mem_append_right _ (List.mem_of_getElem? (i := 313) (by decide +kernel)), rfl⟩
set_option maxRecDepth 20000 in
theorem tw_314 : Cond.methodLink R_L 25 y_M_point ∈ lw_w := List.mem_filter.mpr ⟨List.mem_append_right _ (List.mem_of_getElem? (i := 314) (by decide +kernel)), rfl⟩
set_option maxRecDepth 20000 in
theorem tw_315 : Cond.instanceMethod y_M_point ∈ lw_w := List.mem_filter.mpr ⟨List.mem_append_right _ (List.mem_of_getElem? (i := 315) (by decide +kernel)), rfl⟩
set_option maxRecDepth 20000 in
theorem tw_316 : Cond.selects R_M y_M_point y_M_point ∈ lw_w := List.mem_filter.mpr ⟨List.mem_append_right _ (List.mem_of_getElem? (i := 316) (by decide +kernel)), rfl⟩
set_option maxRecDepth 20000 in
theorem tw_317 : Cond.code y_M_point b_M_point 4 (some .int) ∈ lw_w := List.mem_filter.mpr ⟨List.mem_append_right _ (List.mem_of_getElem? (i := 317) rfl), rfl⟩
set_option maxRecDepth 20000 in
theorem tw_318 : Cond.methodLink R_M 92 y_M_far ∈ lw_w := List.mem_filter.mpr ⟨List.mem_append_right _ (List.mem_of_getElem? (i := 318) (by decide +kernel)), rfl⟩
set_option maxRecDepth 20000 in
theorem tw_319 : Cond.static y_M_far ∈ lw_w := List.mem_filter.mpr ⟨List.mem_append_right _ (List.mem_of_getElem? (i := 319) (by decide +kernel)), rfl⟩
set_option maxRecDepth 20000 in
theorem tw_320 : Cond.code y_M_far b_M_far 1 (some .boolean) ∈ lw_w := List.mem_filter.mpr ⟨List.mem_append_right _ (List.mem_of_getElem? (i := 320) rfl), rfl⟩
set_option maxRecDepth 20000 in
theorem tw_321 : Cond.constantLong R_M 76 2 ∈ lw_w := List.mem_filter.mpr ⟨List.mem_append_right _ (List.mem_of_getElem? (i := 321) (by decide +kernel)), rfl⟩
set_option maxRecDepth 20000 in
theorem tw_322 : Cond.methodLink R_M 99 y_M_begun ∈ lw_w := List.mem_filter.mpr ⟨List.mem_append_right _ (List.mem_of_getElem? (i := 322) (by decide +kernel)), rfl⟩
set_option maxRecDepth 20000 in
theorem tw_324 : Cond.instanceMethod y_M_begun ∈ lw_w := List.mem_filter.mpr ⟨List.mem_append_right _ (List.mem_of_getElem? (i := 324) (by decide +kernel)), rfl⟩
set_option maxRecDepth 20000 in
theorem tw_325 : Cond.code y_M_begun b_M_begun 1 (some .int) ∈ lw_w := List.mem_filter.mpr ⟨List.mem_append_right _ (List.mem_of_getElem? (i := 325) rfl), rfl⟩
set_option maxRecDepth 20000 in
theorem tw_326 : Cond.methodLink R_L 30 y_M_close ∈ lw_w := List.mem_filter.mpr ⟨List.mem_append_right _ (List.mem_of_getElem? (i := 326) (by decide +kernel)), rfl⟩
set_option maxRecDepth 20000 in
theorem tw_327 : Cond.instanceMethod y_M_close ∈ lw_w := List.mem_filter.mpr ⟨List.mem_append_right _ (List.mem_of_getElem? (i := 327) (by decide +kernel)), rfl⟩
set_option maxRecDepth 20000 in
theorem tw_328 : Cond.selects R_M y_M_close y_M_close ∈ lw_w := List.mem_filter.mpr ⟨List.mem_append_right _ (List.mem_of_getElem? (i := 328) (by decide +kernel)), rfl⟩
set_option maxRecDepth 20000 in
theorem tw_329 : Cond.code y_M_close b_M_close 1 (some .int) ∈ lw_w := List.mem_filter.mpr ⟨List.mem_append_right _ (List.mem_of_getElem? (i := 329) rfl), rfl⟩
set_option maxRecDepth 20000 in
theorem tw_330 : Cond.methodLink R_L 34 y_M_clear ∈ lw_w := List.mem_filter.mpr ⟨List.mem_append_right _ (List.mem_of_getElem? (i := 330) (by decide +kernel)), rfl⟩
set_option maxRecDepth 20000 in
theorem tw_331 : Cond.instanceMethod y_M_clear ∈ lw_w := List.mem_filter.mpr ⟨List.mem_append_right _ (List.mem_of_getElem? (i := 331) (by decide +kernel)), rfl⟩
set_option maxRecDepth 20000 in
theorem tw_332 : Cond.selects R_M y_M_clear y_M_clear ∈ lw_w := List.mem_filter.mpr ⟨List.mem_append_right _ (List.mem_of_getElem? (i := 332) (by decide +kernel)), rfl⟩
set_option maxRecDepth 20000 in
theorem tw_333 : Cond.code y_M_clear b_M_clear 2 (some .int) ∈ lw_w := List.mem_filter.mpr ⟨List.mem_append_right _ (List.mem_of_getElem? (i := 333) rfl), rfl⟩
set_option maxRecDepth 20000 in
theorem tw_334 : Cond.methodLink R_L 39 y_M_winding ∈ lw_w := List.mem_filter.mpr ⟨List.mem_append_right _ (List.mem_of_getElem? (i := 334) (by decide +kernel)), rfl⟩
set_option maxRecDepth 20000 in
theorem tw_335 : Cond.instanceMethod y_M_winding ∈ lw_w := List.mem_filter.mpr ⟨List.mem_append_right _ (List.mem_of_getElem? (i := 335) (by decide +kernel)), rfl⟩
set_option maxRecDepth 20000 in
theorem tw_336 : Cond.selects R_M y_M_winding y_M_winding ∈ lw_w := List.mem_filter.mpr ⟨List.mem_append_right _ (List.mem_of_getElem? (i := 336) (by decide +kernel)), rfl⟩
set_option maxRecDepth 20000 in
theorem tw_337 : Cond.code y_M_winding b_M_winding 3 (some .int) ∈ lw_w := List.mem_filter.mpr ⟨List.mem_append_right _ (List.mem_of_getElem? (i := 337) rfl), rfl⟩
set_option maxRecDepth 20000 in
theorem tw_338 : Cond.methodLink R_M 107 y_M_go ∈ lw_w := List.mem_filter.mpr ⟨List.mem_append_right _ (List.mem_of_getElem? (i := 338) (by decide +kernel)), rfl⟩
set_option maxRecDepth 20000 in
theorem tw_340 : Cond.instanceMethod y_M_go ∈ lw_w := List.mem_filter.mpr ⟨List.mem_append_right _ (List.mem_of_getElem? (i := 340) (by decide +kernel)), rfl⟩
set_option maxRecDepth 20000 in
theorem tw_341 : Cond.code y_M_go b_M_go 7 none ∈ lw_w := List.mem_filter.mpr ⟨List.mem_append_right _ (List.mem_of_getElem? (i := 341) rfl), rfl⟩
set_option maxRecDepth 20000 in
theorem tw_342 : Cond.methodLink R_M 103 y_M_around ∈ lw_w := List.mem_filter.mpr ⟨List.mem_append_right _ (List.mem_of_getElem? (i := 342) (by decide +kernel)), rfl⟩
set_option maxRecDepth 20000 in
theorem tw_344 : Cond.instanceMethod y_M_around ∈ lw_w := List.mem_filter.mpr ⟨List.mem_append_right _ (List.mem_of_getElem? (i := 344) (by decide +kernel)), rfl⟩
set_option maxRecDepth 20000 in
theorem tw_345 : Cond.code y_M_around b_M_around 25 none ∈ lw_w := List.mem_filter.mpr ⟨List.mem_append_right _ (List.mem_of_getElem? (i := 345) rfl), rfl⟩
set_option maxRecDepth 20000 in
theorem tw_346 : Cond.methodLink R_M 81 y_M_line ∈ lw_w := List.mem_filter.mpr ⟨List.mem_append_right _ (List.mem_of_getElem? (i := 346) (by decide +kernel)), rfl⟩
set_option maxRecDepth 20000 in
theorem tw_348 : Cond.instanceMethod y_M_line ∈ lw_w := List.mem_filter.mpr ⟨List.mem_append_right _ (List.mem_of_getElem? (i := 348) (by decide +kernel)), rfl⟩
set_option maxRecDepth 20000 in
theorem tw_349 : Cond.code y_M_line b_M_line 11 none ∈ lw_w := List.mem_filter.mpr ⟨List.mem_append_right _ (List.mem_of_getElem? (i := 349) rfl), rfl⟩
set_option maxRecDepth 20000 in
theorem tw_350 : Cond.methodLink R_M 44 y_M_sign ∈ lw_w := List.mem_filter.mpr ⟨List.mem_append_right _ (List.mem_of_getElem? (i := 350) (by decide +kernel)), rfl⟩
set_option maxRecDepth 20000 in
theorem tw_351 : Cond.static y_M_sign ∈ lw_w := List.mem_filter.mpr ⟨List.mem_append_right _ (List.mem_of_getElem? (i := 351) (by decide +kernel)), rfl⟩
set_option maxRecDepth 20000 in
theorem tw_352 : Cond.code y_M_sign b_M_sign 2 (some .int) ∈ lw_w := List.mem_filter.mpr ⟨List.mem_append_right _ (List.mem_of_getElem? (i := 352) rfl), rfl⟩
set_option maxRecDepth 20000 in
theorem tw_353 : Cond.methodLink R_M 59 y_M_cross ∈ lw_w := List.mem_filter.mpr ⟨List.mem_append_right _ (List.mem_of_getElem? (i := 353) (by decide +kernel)), rfl⟩
set_option maxRecDepth 20000 in
theorem tw_355 : Cond.instanceMethod y_M_cross ∈ lw_w := List.mem_filter.mpr ⟨List.mem_append_right _ (List.mem_of_getElem? (i := 355) (by decide +kernel)), rfl⟩
set_option maxRecDepth 20000 in
theorem tw_356 : Cond.code y_M_cross b_M_cross 4 none ∈ lw_w := List.mem_filter.mpr ⟨List.mem_append_right _ (List.mem_of_getElem? (i := 356) rfl), rfl⟩
set_option maxRecDepth 20000 in
theorem tw_357 : Cond.methodLink R_M 85 y_M_curve ∈ lw_w := List.mem_filter.mpr ⟨List.mem_append_right _ (List.mem_of_getElem? (i := 357) (by decide +kernel)), rfl⟩
set_option maxRecDepth 20000 in
theorem tw_359 : Cond.instanceMethod y_M_curve ∈ lw_w := List.mem_filter.mpr ⟨List.mem_append_right _ (List.mem_of_getElem? (i := 359) (by decide +kernel)), rfl⟩
set_option maxRecDepth 20000 in
theorem tw_360 : Cond.code y_M_curve b_M_curve 23 none ∈ lw_w := List.mem_filter.mpr ⟨List.mem_append_right _ (List.mem_of_getElem? (i := 360) rfl), rfl⟩
set_option maxRecDepth 20000 in
theorem tw_361 : Cond.methodLink R_M 63 y_M_zero ∈ lw_w := List.mem_filter.mpr ⟨List.mem_append_right _ (List.mem_of_getElem? (i := 361) (by decide +kernel)), rfl⟩
set_option maxRecDepth 20000 in
theorem tw_362 : Cond.static y_M_zero ∈ lw_w := List.mem_filter.mpr ⟨List.mem_append_right _ (List.mem_of_getElem? (i := 362) (by decide +kernel)), rfl⟩
set_option maxRecDepth 20000 in
theorem tw_363 : Cond.code y_M_zero b_M_zero 6 (some .boolean) ∈ lw_w := List.mem_filter.mpr ⟨List.mem_append_right _ (List.mem_of_getElem? (i := 363) rfl), rfl⟩
set_option maxRecDepth 20000 in
theorem tw_364 : Cond.methodLink R_M 67 y_M_through ∈ lw_w := List.mem_filter.mpr ⟨List.mem_append_right _ (List.mem_of_getElem? (i := 364) (by decide +kernel)), rfl⟩
set_option maxRecDepth 20000 in
theorem tw_366 : Cond.instanceMethod y_M_through ∈ lw_w := List.mem_filter.mpr ⟨List.mem_append_right _ (List.mem_of_getElem? (i := 366) (by decide +kernel)), rfl⟩
set_option maxRecDepth 20000 in
theorem tw_367 : Cond.code y_M_through b_M_through 8 (some .boolean) ∈ lw_w := List.mem_filter.mpr ⟨List.mem_append_right _ (List.mem_of_getElem? (i := 367) rfl), rfl⟩
set_option maxRecDepth 20000 in
theorem tw_368 : Cond.methodLink R_M 34 y_M_product ∈ lw_w := List.mem_filter.mpr ⟨List.mem_append_right _ (List.mem_of_getElem? (i := 368) (by decide +kernel)), rfl⟩
set_option maxRecDepth 20000 in
theorem tw_369 : Cond.static y_M_product ∈ lw_w := List.mem_filter.mpr ⟨List.mem_append_right _ (List.mem_of_getElem? (i := 369) (by decide +kernel)), rfl⟩
set_option maxRecDepth 20000 in
theorem tw_370 : Cond.code y_M_product b_M_product 8 none ∈ lw_w := List.mem_filter.mpr ⟨List.mem_append_right _ (List.mem_of_getElem? (i := 370) rfl), rfl⟩
set_option maxRecDepth 20000 in
theorem tw_371 : Cond.methodLink R_M 38 y_M_times ∈ lw_w := List.mem_filter.mpr ⟨List.mem_append_right _ (List.mem_of_getElem? (i := 371) (by decide +kernel)), rfl⟩
set_option maxRecDepth 20000 in
theorem tw_372 : Cond.static y_M_times ∈ lw_w := List.mem_filter.mpr ⟨List.mem_append_right _ (List.mem_of_getElem? (i := 372) (by decide +kernel)), rfl⟩
set_option maxRecDepth 20000 in
theorem tw_373 : Cond.code y_M_times b_M_times 20 none ∈ lw_w := List.mem_filter.mpr ⟨List.mem_append_right _ (List.mem_of_getElem? (i := 373) rfl), rfl⟩
set_option maxRecDepth 20000 in
theorem tw_374 : Cond.constantLong R_M 42 4294967295 ∈ lw_w := List.mem_filter.mpr ⟨List.mem_append_right _ (List.mem_of_getElem? (i := 374) (by decide +kernel)), rfl⟩
set_option maxRecDepth 20000 in
theorem tw_375 : Cond.constantLong R_M 74 4 ∈ lw_w := List.mem_filter.mpr ⟨List.mem_append_right _ (List.mem_of_getElem? (i := 375) (by decide +kernel)), rfl⟩
set_option maxRecDepth 20000 in
theorem tw_376 : Cond.methodLink R_M 70 y_M_side ∈ lw_w := List.mem_filter.mpr ⟨List.mem_append_right _ (List.mem_of_getElem? (i := 376) (by decide +kernel)), rfl⟩
set_option maxRecDepth 20000 in
theorem tw_378 : Cond.instanceMethod y_M_side ∈ lw_w := List.mem_filter.mpr ⟨List.mem_append_right _ (List.mem_of_getElem? (i := 378) (by decide +kernel)), rfl⟩
set_option maxRecDepth 20000 in
theorem tw_379 : Cond.code y_M_side b_M_side 26 (some .int) ∈ lw_w := List.mem_filter.mpr ⟨List.mem_append_right _ (List.mem_of_getElem? (i := 379) rfl), rfl⟩
set_option maxRecDepth 20000 in
theorem tw_380 : Cond.methodLink R_M 78 y_M_signOf ∈ lw_w := List.mem_filter.mpr ⟨List.mem_append_right _ (List.mem_of_getElem? (i := 380) (by decide +kernel)), rfl⟩
set_option maxRecDepth 20000 in
theorem tw_382 : Cond.instanceMethod y_M_signOf ∈ lw_w := List.mem_filter.mpr ⟨List.mem_append_right _ (List.mem_of_getElem? (i := 382) (by decide +kernel)), rfl⟩
set_option maxRecDepth 20000 in
theorem tw_383 : Cond.code y_M_signOf b_M_signOf 10 (some .int) ∈ lw_w := List.mem_filter.mpr ⟨List.mem_append_right _ (List.mem_of_getElem? (i := 383) rfl), rfl⟩
set_option maxRecDepth 20000 in
theorem tw_384 : Cond.methodLink R_M 48 y_M_compare ∈ lw_w := List.mem_filter.mpr ⟨List.mem_append_right _ (List.mem_of_getElem? (i := 384) (by decide +kernel)), rfl⟩
set_option maxRecDepth 20000 in
theorem tw_386 : Cond.instanceMethod y_M_compare ∈ lw_w := List.mem_filter.mpr ⟨List.mem_append_right _ (List.mem_of_getElem? (i := 386) (by decide +kernel)), rfl⟩
set_option maxRecDepth 20000 in
theorem tw_387 : Cond.code y_M_compare b_M_compare 8 (some .int) ∈ lw_w := List.mem_filter.mpr ⟨List.mem_append_right _ (List.mem_of_getElem? (i := 387) rfl), rfl⟩
set_option maxRecDepth 20000 in
theorem tw_388 : Cond.methodLink R_L 44 y_M_row ∈ lw_w := List.mem_filter.mpr ⟨List.mem_append_right _ (List.mem_of_getElem? (i := 388) (by decide +kernel)), rfl⟩
set_option maxRecDepth 20000 in
theorem tw_389 : Cond.instanceMethod y_M_row ∈ lw_w := List.mem_filter.mpr ⟨List.mem_append_right _ (List.mem_of_getElem? (i := 389) (by decide +kernel)), rfl⟩
set_option maxRecDepth 20000 in
theorem tw_390 : Cond.selects R_M y_M_row y_M_row ∈ lw_w := List.mem_filter.mpr ⟨List.mem_append_right _ (List.mem_of_getElem? (i := 390) (by decide +kernel)), rfl⟩
set_option maxRecDepth 20000 in
theorem tw_391 : Cond.code y_M_row b_M_row 5 (some .long) ∈ lw_w := List.mem_filter.mpr ⟨List.mem_append_right _ (List.mem_of_getElem? (i := 391) rfl), rfl⟩
set_option maxRecDepth 20000 in
theorem tw_392 : Cond.constantLong R_M 111 128 ∈ lw_w := List.mem_filter.mpr ⟨List.mem_append_right _ (List.mem_of_getElem? (i := 392) (by decide +kernel)), rfl⟩
set_option maxRecDepth 20000 in
theorem tw_393 : Cond.constantLong R_M 113 64 ∈ lw_w := List.mem_filter.mpr ⟨List.mem_append_right _ (List.mem_of_getElem? (i := 393) (by decide +kernel)), rfl⟩
set_option maxRecDepth 20000 in
theorem tw_394 : Cond.methodLink R_L 49 y_M_count ∈ lw_w := List.mem_filter.mpr ⟨List.mem_append_right _ (List.mem_of_getElem? (i := 394) (by decide +kernel)), rfl⟩
set_option maxRecDepth 20000 in
theorem tw_395 : Cond.instanceMethod y_M_count ∈ lw_w := List.mem_filter.mpr ⟨List.mem_append_right _ (List.mem_of_getElem? (i := 395) (by decide +kernel)), rfl⟩
set_option maxRecDepth 20000 in
theorem tw_396 : Cond.selects R_M y_M_count y_M_count ∈ lw_w := List.mem_filter.mpr ⟨List.mem_append_right _ (List.mem_of_getElem? (i := 396) (by decide +kernel)), rfl⟩
set_option maxRecDepth 20000 in
theorem tw_397 : Cond.code y_M_count b_M_count 2 (some .int) ∈ lw_w := List.mem_filter.mpr ⟨List.mem_append_right _ (List.mem_of_getElem? (i := 397) rfl), rfl⟩
set_option maxRecDepth 20000 in
theorem tw_399 : Cond.sameMethod "[Ljava/lang/Object;" "java/lang/Object" "getClass" "()Ljava/lang/Class;" ∈ lw_w := List.mem_filter.mpr ⟨List.mem_append_right _ (List.mem_of_getElem? (i := 399) (by decide +kernel)), rfl⟩
set_option maxRecDepth 20000 in
theorem tw_400 : Cond.selects "[Ljava/lang/Object;" ⟨"java/lang/Object", "getClass", "()Ljava/lang/Class;"⟩ ⟨"java/lang/Object", "getClass", "()Ljava/lang/Class;"⟩ ∈ lw_w := List.mem_filter.mpr ⟨List.mem_append_right _ (List.mem_of_getElem? (i := 400) (by decide +kernel)), rfl⟩
