def R_S : String := "CurveScan"
def R_A : String := "CurveScan$Arc"
def R_M : String := "CurveScanModel"
def R_L : String := "CurveScanLaw"
def R_T : String := "java/util/ArrayList"
def R_U : String := "java/util/AbstractList"
def R_V : String := "java/util/AbstractCollection"
def R_Y : String := "java/util/Arrays"
def R_P : String := "jdk/internal/util/ArraysSupport"
def R_O : String := "java/util/Objects"
def R_Q : String := "jdk/internal/util/Preconditions"
def R_J : String := "java/lang/Long"
def R_I : String := "java/lang/Integer"
def R_H : String := "java/lang/Math"
def R_B : String := "java/lang/Object"
def R_Z : String := "java/lang/System"
def F_S : u_T := fun k => match k with
  | 0 => ("CurveScan", "width", "I", true)
  | 1 => ("CurveScan", "pointX", "[I", true)
  | 2 => ("CurveScan", "pointY", "[I", true)
  | 3 => ("CurveScan", "pointOn", "[Z", true)
  | 4 => ("CurveScan", "rowTurns", "[I", true)
  | 5 => ("CurveScan", "arcs", "Ljava/util/ArrayList;", true)
  | 6 => ("CurveScan", "made", "I", false)
  | 7 => ("CurveScan", "closedPoints", "I", false)
  | _ => ("CurveScan", "closedContours", "I", false)
def tf_S : Nat → FieldType := fun k => match k with
  | 0 => .int
  | 1 => (.array .int)
  | 2 => (.array .int)
  | 3 => (.array .boolean)
  | 4 => (.array .int)
  | 5 => (.object "java/util/ArrayList")
  | 6 => .int
  | 7 => .int
  | _ => .int
theorem n_S : ∀ a, a < 9 → ∀ b, b < 9 → a ≠ b → (F_S a).2.1 ≠ (F_S b).2.1 := by decide +kernel
theorem tok_S : ∀ k, k < 9 → parseFieldDescriptor (F_S k).2.2.1 = some (tf_S k) := by decide +kernel
def F_A : u_T := fun k => match k with
  | 0 => ("CurveScan$Arc", "startX", "I", true)
  | 1 => ("CurveScan$Arc", "startY", "I", true)
  | 2 => ("CurveScan$Arc", "bendX", "I", true)
  | 3 => ("CurveScan$Arc", "bendY", "I", true)
  | 4 => ("CurveScan$Arc", "endX", "I", true)
  | _ => ("CurveScan$Arc", "endY", "I", true)
def tf_A : Nat → FieldType := fun k => match k with
  | 0 => .int
  | 1 => .int
  | 2 => .int
  | 3 => .int
  | 4 => .int
  | _ => .int
theorem n_A : ∀ a, a < 6 → ∀ b, b < 6 → a ≠ b → (F_A a).2.1 ≠ (F_A b).2.1 := by decide +kernel
theorem tok_A : ∀ k, k < 6 → parseFieldDescriptor (F_A k).2.2.1 = some (tf_A k) := by decide +kernel
def F_M : u_T := fun k => match k with
  | 0 => ("CurveScanModel", "width", "I", true)
  | 1 => ("CurveScanModel", "px", "[J", true)
  | 2 => ("CurveScanModel", "py", "[J", true)
  | 3 => ("CurveScanModel", "on", "[Z", true)
  | 4 => ("CurveScanModel", "ends", "[I", true)
  | 5 => ("CurveScanModel", "contours", "I", false)
  | 6 => ("CurveScanModel", "points", "I", false)
  | 7 => ("CurveScanModel", "touches", "Z", false)
  | 8 => ("CurveScanModel", "turns", "I", false)
  | 9 => ("CurveScanModel", "first", "[J", true)
  | _ => ("CurveScanModel", "second", "[J", true)
def tf_M : Nat → FieldType := fun k => match k with
  | 0 => .int
  | 1 => (.array .long)
  | 2 => (.array .long)
  | 3 => (.array .boolean)
  | 4 => (.array .int)
  | 5 => .int
  | 6 => .int
  | 7 => .boolean
  | 8 => .int
  | 9 => (.array .long)
  | _ => (.array .long)
theorem n_M : ∀ a, a < 11 → ∀ b, b < 11 → a ≠ b → (F_M a).2.1 ≠ (F_M b).2.1 := by decide +kernel
theorem tok_M : ∀ k, k < 11 → parseFieldDescriptor (F_M k).2.2.1 = some (tf_M k) := by decide +kernel
def F_T : u_T := fun k => match k with
  | 0 => ("java/util/AbstractList", "modCount", "I", false)
  | 1 => ("java/util/ArrayList", "elementData", "[Ljava/lang/Object;", false)
  | _ => ("java/util/ArrayList", "size", "I", false)
def tf_T : Nat → FieldType := fun k => match k with
  | 0 => .int
  | 1 => (.array (.object "java/lang/Object"))
  | _ => .int
theorem n_T : ∀ a, a < 3 → ∀ b, b < 3 → a ≠ b → (F_T a).2.1 ≠ (F_T b).2.1 := by decide +kernel
theorem tok_T : ∀ k, k < 3 → parseFieldDescriptor (F_T k).2.2.1 = some (tf_T k) := by decide +kernel
abbrev cls9 : List vw_C := [(R_S, F_S, 9), (R_A, F_A, 6), (R_M, F_M, 11), (R_T, F_T, 3)]
abbrev b_S_init : ByteArray := prog_1_method_1_code
def y_S_init : MethodName := ⟨R_S, "<init>", "(I)V"⟩
abbrev b_H_min : ByteArray := prog_10_method_69_code
def y_H_min : MethodName := ⟨R_H, "min", "(II)I"⟩
abbrev b_H_max : ByteArray := prog_10_method_65_code
def y_H_max : MethodName := ⟨R_H, "max", "(II)I"⟩
abbrev b_T_init : ByteArray := prog_14_method_2_code
def y_T_init : MethodName := ⟨R_T, "<init>", "()V"⟩
abbrev b_U_init : ByteArray := prog_13_method_1_code
def y_U_init : MethodName := ⟨R_U, "<init>", "()V"⟩
abbrev b_V_init : ByteArray := prog_12_method_1_code
def y_V_init : MethodName := ⟨R_V, "<init>", "()V"⟩
abbrev b_S_point : ByteArray := prog_1_method_2_code
def y_S_point : MethodName := ⟨R_S, "point", "(IIZ)I"⟩
abbrev b_S_inReach : ByteArray := prog_1_method_8_code
def y_S_inReach : MethodName := ⟨R_S, "inReach", "(I)Z"⟩
abbrev b_S_close : ByteArray := prog_1_method_3_code
def y_S_close : MethodName := ⟨R_S, "close", "()I"⟩
abbrev b_S_addArcOf : ByteArray := prog_1_method_9_code
def y_S_addArcOf : MethodName := ⟨R_S, "addArcOf", "(I)V"⟩
abbrev b_S_joint : ByteArray := prog_1_method_10_code
def y_S_joint : MethodName := ⟨R_S, "joint", "([III)I"⟩
abbrev b_A_init : ByteArray := prog_2_method_1_code
def y_A_init : MethodName := ⟨R_A, "<init>", "(IIIIII)V"⟩
abbrev b_T_add1 : ByteArray := prog_14_method_25_code
def y_T_add1 : MethodName := ⟨R_T, "add", "(Ljava/lang/Object;)Z"⟩
abbrev b_T_add2 : ByteArray := prog_14_method_24_code
def y_T_add2 : MethodName := ⟨R_T, "add", "(Ljava/lang/Object;[Ljava/lang/Object;I)V"⟩
abbrev b_T_grow1 : ByteArray := prog_14_method_7_code
def y_T_grow1 : MethodName := ⟨R_T, "grow", "()[Ljava/lang/Object;"⟩
abbrev b_T_grow2 : ByteArray := prog_14_method_6_code
def y_T_grow2 : MethodName := ⟨R_T, "grow", "(I)[Ljava/lang/Object;"⟩
abbrev b_P_newLength : ByteArray := prog_21_method_27_code
def y_P_newLength : MethodName := ⟨R_P, "newLength", "(III)I"⟩
abbrev b_P_hugeLength : ByteArray := prog_21_method_28_code
def y_P_hugeLength : MethodName := ⟨R_P, "hugeLength", "(II)I"⟩
abbrev b_Y_copyOf1 : ByteArray := prog_15_method_119_code
def y_Y_copyOf1 : MethodName := ⟨R_Y, "copyOf", "([Ljava/lang/Object;I)[Ljava/lang/Object;"⟩
abbrev b_Y_copyOf2 : ByteArray := prog_15_method_120_code
def y_Y_copyOf2 : MethodName := ⟨R_Y, "copyOf", "([Ljava/lang/Object;ILjava/lang/Class;)[Ljava/lang/Object;"⟩
abbrev b_S_clear : ByteArray := prog_1_method_4_code
def y_S_clear : MethodName := ⟨R_S, "clear", "()I"⟩
abbrev b_T_clear : ByteArray := prog_14_method_40_code
def y_T_clear : MethodName := ⟨R_T, "clear", "()V"⟩
abbrev b_S_winding : ByteArray := prog_1_method_5_code
def y_S_winding : MethodName := ⟨R_S, "winding", "(II)I"⟩
abbrev b_T_size : ByteArray := prog_14_method_8_code
def y_T_size : MethodName := ⟨R_T, "size", "()I"⟩
abbrev b_T_get : ByteArray := prog_14_method_20_code
def y_T_get : MethodName := ⟨R_T, "get", "(I)Ljava/lang/Object;"⟩
abbrev b_O_checkIndex : ByteArray := prog_18_method_17_code
def y_O_checkIndex : MethodName := ⟨R_O, "checkIndex", "(II)I"⟩
abbrev b_Q_checkIndex : ByteArray := prog_22_method_11_code
def y_Q_checkIndex : MethodName := ⟨R_Q, "checkIndex", "(IILjava/util/function/BiFunction;)I"⟩
abbrev b_T_elementData : ByteArray := prog_14_method_18_code
def y_T_elementData : MethodName := ⟨R_T, "elementData", "(I)Ljava/lang/Object;"⟩
abbrev b_A_turnsAround : ByteArray := prog_2_method_3_code
def y_A_turnsAround : MethodName := ⟨R_A, "turnsAround", "(II)I"⟩
abbrev b_A_mayMeetHeight : ByteArray := prog_2_method_2_code
def y_A_mayMeetHeight : MethodName := ⟨R_A, "mayMeetHeight", "(I)Z"⟩
abbrev b_A_turn : ByteArray := prog_2_method_4_code
def y_A_turn : MethodName := ⟨R_A, "turn", "(JJJJ)J"⟩
abbrev b_J_compare : ByteArray := prog_9_method_42_code
def y_J_compare : MethodName := ⟨R_J, "compare", "(JJ)I"⟩
abbrev b_A_sideOfChord : ByteArray := prog_2_method_5_code
def y_A_sideOfChord : MethodName := ⟨R_A, "sideOfChord", "(J)I"⟩
abbrev b_I_compare : ByteArray := prog_7_method_40_code
def y_I_compare : MethodName := ⟨R_I, "compare", "(II)I"⟩
abbrev b_A_chordShare : ByteArray := prog_2_method_6_code
def y_A_chordShare : MethodName := ⟨R_A, "chordShare", "(II)I"⟩
abbrev b_A_onStraightArc : ByteArray := prog_2_method_7_code
def y_A_onStraightArc : MethodName := ⟨R_A, "onStraightArc", "(II)Z"⟩
abbrev b_A_reachesZero : ByteArray := prog_2_method_8_code
def y_A_reachesZero : MethodName := ⟨R_A, "reachesZero", "(JJJ)Z"⟩
abbrev b_H_abs : ByteArray := prog_10_method_61_code
def y_H_abs : MethodName := ⟨R_H, "abs", "(J)J"⟩
abbrev b_A_compareProducts : ByteArray := prog_2_method_9_code
def y_A_compareProducts : MethodName := ⟨R_A, "compareProducts", "(JJJJ)I"⟩
abbrev b_A_highPart : ByteArray := prog_2_method_10_code
def y_A_highPart : MethodName := ⟨R_A, "highPart", "(JJ)J"⟩
abbrev b_A_lowPart : ByteArray := prog_2_method_11_code
def y_A_lowPart : MethodName := ⟨R_A, "lowPart", "(JJ)J"⟩
abbrev b_S_row : ByteArray := prog_1_method_6_code
def y_S_row : MethodName := ⟨R_S, "row", "(I)J"⟩
abbrev b_Y_fill : ByteArray := prog_15_method_103_code
def y_Y_fill : MethodName := ⟨R_Y, "fill", "([II)V"⟩
abbrev b_S_addRowTurns : ByteArray := prog_1_method_11_code
def y_S_addRowTurns : MethodName := ⟨R_S, "addRowTurns", "(LCurveScan$Arc;I)J"⟩
abbrev b_S_count : ByteArray := prog_1_method_7_code
def y_S_count : MethodName := ⟨R_S, "count", "(I)I"⟩
abbrev b_L_cell : ByteArray := method_2_code
def y_L_cell : MethodName := ⟨R_L, "cell", "([II)I"⟩
abbrev b_M_init : ByteArray := prog_4_method_1_code
def y_M_init : MethodName := ⟨R_M, "<init>", "(I)V"⟩
abbrev b_M_point : ByteArray := prog_4_method_16_code
def y_M_point : MethodName := ⟨R_M, "point", "(IIZ)I"⟩
abbrev b_M_far : ByteArray := prog_4_method_14_code
def y_M_far : MethodName := ⟨R_M, "far", "(I)Z"⟩
abbrev b_M_begun : ByteArray := prog_4_method_15_code
def y_M_begun : MethodName := ⟨R_M, "begun", "()I"⟩
abbrev b_M_close : ByteArray := prog_4_method_17_code
def y_M_close : MethodName := ⟨R_M, "close", "()I"⟩
abbrev b_M_clear : ByteArray := prog_4_method_18_code
def y_M_clear : MethodName := ⟨R_M, "clear", "()I"⟩
abbrev b_M_winding : ByteArray := prog_4_method_20_code
def y_M_winding : MethodName := ⟨R_M, "winding", "(II)I"⟩
abbrev b_M_go : ByteArray := prog_4_method_19_code
def y_M_go : MethodName := ⟨R_M, "go", "(JJ)V"⟩
abbrev b_M_around : ByteArray := prog_4_method_13_code
def y_M_around : MethodName := ⟨R_M, "around", "(IIIJJ)V"⟩
abbrev b_M_line : ByteArray := prog_4_method_8_code
def y_M_line : MethodName := ⟨R_M, "line", "(JJJJ)V"⟩
abbrev b_M_sign : ByteArray := prog_4_method_2_code
def y_M_sign : MethodName := ⟨R_M, "sign", "(J)I"⟩
abbrev b_M_cross : ByteArray := prog_4_method_7_code
def y_M_cross : MethodName := ⟨R_M, "cross", "(ZZI)V"⟩
abbrev b_M_curve : ByteArray := prog_4_method_10_code
def y_M_curve : MethodName := ⟨R_M, "curve", "(JJJJJJ)V"⟩
abbrev b_M_zero : ByteArray := prog_4_method_9_code
def y_M_zero : MethodName := ⟨R_M, "zero", "(JJJ)Z"⟩
abbrev b_M_through : ByteArray := prog_4_method_11_code
def y_M_through : MethodName := ⟨R_M, "through", "(JJJ)Z"⟩
abbrev b_M_product : ByteArray := prog_4_method_4_code
def y_M_product : MethodName := ⟨R_M, "product", "([JJJJ)V"⟩
abbrev b_M_times : ByteArray := prog_4_method_5_code
def y_M_times : MethodName := ⟨R_M, "times", "([JJ)V"⟩
abbrev b_M_side : ByteArray := prog_4_method_12_code
def y_M_side : MethodName := ⟨R_M, "side", "(JJJJJJI)I"⟩
abbrev b_M_signOf : ByteArray := prog_4_method_6_code
def y_M_signOf : MethodName := ⟨R_M, "signOf", "(JJJ)I"⟩
abbrev b_M_compare : ByteArray := prog_4_method_3_code
def y_M_compare : MethodName := ⟨R_M, "compare", "(JJJ)I"⟩
abbrev b_M_row : ByteArray := prog_4_method_21_code
def y_M_row : MethodName := ⟨R_M, "row", "(I)J"⟩
abbrev b_M_count : ByteArray := prog_4_method_22_code
def y_M_count : MethodName := ⟨R_M, "count", "(I)I"⟩
abbrev b_L_law : ByteArray := code
def y_L_law : MethodName := ⟨R_L, "law", "([I)Z"⟩
/-- the words that every method here takes: those of the tables that a callee keeps -/
def lw_w : List Cond := lw_tbl.filter goodWord
theorem gi_w {ws : List Cond} (h : ∀ w ∈ ws, w ∈ lw_w) : GoodIn lw_w ws := fun w hw => ⟨h w hw, good_of_word (List.mem_filter.mp (h w hw)).2⟩
theorem gi_c {y : MethodName} {b : ByteArray} {n : Nat} {r : Option FieldType} (h : Cond.code y b n r ∈ lw_w) : GoodIn lw_w (.code y b n r :: lw_w) := gi_w (fun w hw => by
  rcases List.mem_cons.mp hw with h1 | h1
  · rw [h1]; exact h
  · exact h1)
theorem gi_V {own C : String} {idx : Nat} {y : MethodName} {b : ByteArray} {n : Nat} {r : Option FieldType} (h1 : Cond.methodLink own idx y ∈ lw_w) (h2 : Cond.instanceMethod y ∈ lw_w) (h3 : Cond.selects C y y ∈ lw_w) (h4 : Cond.initialized C ∈ lw_w) (h5 : Cond.code y b n r ∈ lw_w) : GoodIn lw_w (wsV own idx C y (.code y b n r :: lw_w)) := gi_w (fun w hw => by
  rcases List.mem_append.mp hw with hw | hw
  · simp only [List.mem_cons, List.not_mem_nil, or_false] at hw
    rcases hw with e | e | e | e <;> rw [e] <;> assumption
  · rcases List.mem_cons.mp hw with e | e
    · rw [e]; exact h5
    · exact e)
theorem gi_S {own : String} {idx : Nat} {y : MethodName} {b : ByteArray} {n : Nat} {r : Option FieldType} (h1 : Cond.methodLink own idx y ∈ lw_w) (h2 : Cond.static y ∈ lw_w) (h3 : Cond.initialized y.cls ∈ lw_w) (h5 : Cond.code y b n r ∈ lw_w) : GoodIn lw_w (va_wsS own idx y (.code y b n r :: lw_w)) := gi_w (fun w hw => by
  rcases List.mem_append.mp hw with hw | hw
  · simp only [List.mem_cons, List.not_mem_nil, or_false] at hw
    rcases hw with e | e | e <;> rw [e] <;> assumption
  · rcases List.mem_cons.mp hw with e | e
    · rw [e]; exact h5
    · exact e)
def w_S_init : List Cond := .code y_S_init b_S_init 2 none :: lw_w
def w_H_min : List Cond := .code y_H_min b_H_min 2 (some .int) :: lw_w
def w_H_max : List Cond := .code y_H_max b_H_max 2 (some .int) :: lw_w
def w_T_init : List Cond := .code y_T_init b_T_init 1 none :: lw_w
def w_U_init : List Cond := .code y_U_init b_U_init 1 none :: lw_w
def w_V_init : List Cond := .code y_V_init b_V_init 1 none :: lw_w
def w_S_point : List Cond := .code y_S_point b_S_point 4 (some .int) :: lw_w
def w_S_inReach : List Cond := .code y_S_inReach b_S_inReach 1 (some .boolean) :: lw_w
def w_S_close : List Cond := .code y_S_close b_S_close 2 (some .int) :: lw_w
def w_S_addArcOf : List Cond := .code y_S_addArcOf b_S_addArcOf 4 none :: lw_w
def w_S_joint : List Cond := .code y_S_joint b_S_joint 4 (some .int) :: lw_w
def w_A_init : List Cond := .code y_A_init b_A_init 7 none :: lw_w
def w_T_add1 : List Cond := .code y_T_add1 b_T_add1 2 (some .boolean) :: lw_w
def w_T_add2 : List Cond := .code y_T_add2 b_T_add2 4 none :: lw_w
def w_T_grow1 : List Cond := .code y_T_grow1 b_T_grow1 1 (some (.array (.object "java/lang/Object"))) :: lw_w
def w_T_grow2 : List Cond := .code y_T_grow2 b_T_grow2 4 (some (.array (.object "java/lang/Object"))) :: lw_w
def w_P_newLength : List Cond := .code y_P_newLength b_P_newLength 4 (some .int) :: lw_w
def w_P_hugeLength : List Cond := .code y_P_hugeLength b_P_hugeLength 3 (some .int) :: lw_w
def w_Y_copyOf1 : List Cond := .code y_Y_copyOf1 b_Y_copyOf1 2 (some (.array (.object "java/lang/Object"))) :: lw_w
def w_Y_copyOf2 : List Cond := .code y_Y_copyOf2 b_Y_copyOf2 4 (some (.array (.object "java/lang/Object"))) :: lw_w
def w_S_clear : List Cond := .code y_S_clear b_S_clear 2 (some .int) :: lw_w
def w_T_clear : List Cond := .code y_T_clear b_T_clear 4 none :: lw_w
def w_S_winding : List Cond := .code y_S_winding b_S_winding 6 (some .int) :: lw_w
def w_T_size : List Cond := .code y_T_size b_T_size 1 (some .int) :: lw_w
def w_T_get : List Cond := .code y_T_get b_T_get 2 (some (.object "java/lang/Object")) :: lw_w
def w_O_checkIndex : List Cond := .code y_O_checkIndex b_O_checkIndex 2 (some .int) :: lw_w
def w_Q_checkIndex : List Cond := .code y_Q_checkIndex b_Q_checkIndex 3 (some .int) :: lw_w
def w_T_elementData : List Cond := .code y_T_elementData b_T_elementData 2 (some (.object "java/lang/Object")) :: lw_w
def w_A_turnsAround : List Cond := .code y_A_turnsAround b_A_turnsAround 13 (some .int) :: lw_w
def w_A_mayMeetHeight : List Cond := .code y_A_mayMeetHeight b_A_mayMeetHeight 2 (some .boolean) :: lw_w
def w_A_turn : List Cond := .code y_A_turn b_A_turn 8 (some .long) :: lw_w
def w_J_compare : List Cond := .code y_J_compare b_J_compare 4 (some .int) :: lw_w
def w_A_sideOfChord : List Cond := .code y_A_sideOfChord b_A_sideOfChord 3 (some .int) :: lw_w
def w_I_compare : List Cond := .code y_I_compare b_I_compare 2 (some .int) :: lw_w
def w_A_chordShare : List Cond := .code y_A_chordShare b_A_chordShare 5 (some .int) :: lw_w
def w_A_onStraightArc : List Cond := .code y_A_onStraightArc b_A_onStraightArc 3 (some .boolean) :: lw_w
def w_A_reachesZero : List Cond := .code y_A_reachesZero b_A_reachesZero 7 (some .boolean) :: lw_w
def w_H_abs : List Cond := .code y_H_abs b_H_abs 2 (some .long) :: lw_w
def w_A_compareProducts : List Cond := .code y_A_compareProducts b_A_compareProducts 9 (some .int) :: lw_w
def w_A_highPart : List Cond := .code y_A_highPart b_A_highPart 4 (some .long) :: lw_w
def w_A_lowPart : List Cond := .code y_A_lowPart b_A_lowPart 4 (some .long) :: lw_w
def w_S_row : List Cond := .code y_S_row b_S_row 7 (some .long) :: lw_w
def w_Y_fill : List Cond := .code y_Y_fill b_Y_fill 4 none :: lw_w
def w_S_addRowTurns : List Cond := .code y_S_addRowTurns b_S_addRowTurns 7 (some .long) :: lw_w
def w_S_count : List Cond := .code y_S_count b_S_count 2 (some .int) :: lw_w
def w_L_cell : List Cond := .code y_L_cell b_L_cell 2 (some .int) :: lw_w
def w_M_init : List Cond := .code y_M_init b_M_init 2 none :: lw_w
def w_M_point : List Cond := .code y_M_point b_M_point 4 (some .int) :: lw_w
def w_M_far : List Cond := .code y_M_far b_M_far 1 (some .boolean) :: lw_w
def w_M_begun : List Cond := .code y_M_begun b_M_begun 1 (some .int) :: lw_w
def w_M_close : List Cond := .code y_M_close b_M_close 1 (some .int) :: lw_w
def w_M_clear : List Cond := .code y_M_clear b_M_clear 2 (some .int) :: lw_w
def w_M_winding : List Cond := .code y_M_winding b_M_winding 3 (some .int) :: lw_w
def w_M_go : List Cond := .code y_M_go b_M_go 7 none :: lw_w
def w_M_around : List Cond := .code y_M_around b_M_around 25 none :: lw_w
def w_M_line : List Cond := .code y_M_line b_M_line 11 none :: lw_w
def w_M_sign : List Cond := .code y_M_sign b_M_sign 2 (some .int) :: lw_w
def w_M_cross : List Cond := .code y_M_cross b_M_cross 4 none :: lw_w
def w_M_curve : List Cond := .code y_M_curve b_M_curve 23 none :: lw_w
def w_M_zero : List Cond := .code y_M_zero b_M_zero 6 (some .boolean) :: lw_w
def w_M_through : List Cond := .code y_M_through b_M_through 8 (some .boolean) :: lw_w
def w_M_product : List Cond := .code y_M_product b_M_product 8 none :: lw_w
def w_M_times : List Cond := .code y_M_times b_M_times 20 none :: lw_w
def w_M_side : List Cond := .code y_M_side b_M_side 26 (some .int) :: lw_w
def w_M_signOf : List Cond := .code y_M_signOf b_M_signOf 10 (some .int) :: lw_w
def w_M_compare : List Cond := .code y_M_compare b_M_compare 8 (some .int) :: lw_w
def w_M_row : List Cond := .code y_M_row b_M_row 5 (some .long) :: lw_w
def w_M_count : List Cond := .code y_M_count b_M_count 2 (some .int) :: lw_w
