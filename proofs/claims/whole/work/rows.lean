section
-- ===== PART A: goes FIRST, ahead of the names: the tables' words, and 'selects' of the private methods out of them =====
/-- a private method of a class that the tables say can be made, by its rows of tables_1 -/
def lw_okq (q : MethodName × Nat) : Prop := (q.1.cls ≠ "java/lang/invoke/MethodHandle" ∧ q.1.cls ≠ "java/lang/invoke/VarHandle") ∧ Cond.instantiable q.1.cls q.2 ∈ tables_1 ∧ Cond.privateMethod q.1 ∈ tables_1 ∧ Cond.instanceMethod q.1 ∈ tables_1
theorem lw_p0 : lw_okq (⟨"CurveScan", "addArcOf", "(I)V"⟩, 9) := ⟨⟨by decide +kernel, by decide +kernel⟩, List.mem_of_getElem? (i := 16) (by decide +kernel), List.mem_of_getElem? (i := 97) (by decide +kernel), List.mem_of_getElem? (i := 98) (by decide +kernel)⟩
theorem lw_p1 : lw_okq (⟨"CurveScan", "joint", "([III)I"⟩, 9) := ⟨⟨by decide +kernel, by decide +kernel⟩, List.mem_of_getElem? (i := 16) (by decide +kernel), List.mem_of_getElem? (i := 103) (by decide +kernel), List.mem_of_getElem? (i := 104) (by decide +kernel)⟩
theorem lw_p2 : lw_okq (⟨"java/util/ArrayList", "add", "(Ljava/lang/Object;[Ljava/lang/Object;I)V"⟩, 3) := ⟨⟨by decide +kernel, by decide +kernel⟩, List.mem_of_getElem? (i := 30) (by decide +kernel), List.mem_of_getElem? (i := 134) (by decide +kernel), List.mem_of_getElem? (i := 135) (by decide +kernel)⟩
theorem lw_p3 : lw_okq (⟨"java/util/ArrayList", "grow", "()[Ljava/lang/Object;"⟩, 3) := ⟨⟨by decide +kernel, by decide +kernel⟩, List.mem_of_getElem? (i := 30) (by decide +kernel), List.mem_of_getElem? (i := 138) (by decide +kernel), List.mem_of_getElem? (i := 139) (by decide +kernel)⟩
theorem lw_p4 : lw_okq (⟨"java/util/ArrayList", "grow", "(I)[Ljava/lang/Object;"⟩, 3) := ⟨⟨by decide +kernel, by decide +kernel⟩, List.mem_of_getElem? (i := 30) (by decide +kernel), List.mem_of_getElem? (i := 142) (by decide +kernel), List.mem_of_getElem? (i := 143) (by decide +kernel)⟩
theorem lw_p5 : lw_okq (⟨"CurveScan$Arc", "sideOfChord", "(J)I"⟩, 6) := ⟨⟨by decide +kernel, by decide +kernel⟩, List.mem_of_getElem? (i := 101) (by decide +kernel), List.mem_of_getElem? (i := 223) (by decide +kernel), List.mem_of_getElem? (i := 224) (by decide +kernel)⟩
theorem lw_p6 : lw_okq (⟨"CurveScan$Arc", "chordShare", "(II)I"⟩, 6) := ⟨⟨by decide +kernel, by decide +kernel⟩, List.mem_of_getElem? (i := 101) (by decide +kernel), List.mem_of_getElem? (i := 230) (by decide +kernel), List.mem_of_getElem? (i := 231) (by decide +kernel)⟩
theorem lw_p7 : lw_okq (⟨"CurveScan$Arc", "onStraightArc", "(II)Z"⟩, 6) := ⟨⟨by decide +kernel, by decide +kernel⟩, List.mem_of_getElem? (i := 101) (by decide +kernel), List.mem_of_getElem? (i := 234) (by decide +kernel), List.mem_of_getElem? (i := 235) (by decide +kernel)⟩
theorem lw_p8 : lw_okq (⟨"CurveScan", "addRowTurns", "(LCurveScan$Arc;I)J"⟩, 9) := ⟨⟨by decide +kernel, by decide +kernel⟩, List.mem_of_getElem? (i := 16) (by decide +kernel), List.mem_of_getElem? (i := 263) (by decide +kernel), List.mem_of_getElem? (i := 264) (by decide +kernel)⟩
theorem lw_p9 : lw_okq (⟨"CurveScanModel", "begun", "()I"⟩, 11) := ⟨⟨by decide +kernel, by decide +kernel⟩, List.mem_of_getElem? (i := 274) (by decide +kernel), List.mem_of_getElem? (i := 323) (by decide +kernel), List.mem_of_getElem? (i := 324) (by decide +kernel)⟩
theorem lw_p10 : lw_okq (⟨"CurveScanModel", "go", "(JJ)V"⟩, 11) := ⟨⟨by decide +kernel, by decide +kernel⟩, List.mem_of_getElem? (i := 274) (by decide +kernel), List.mem_of_getElem? (i := 339) (by decide +kernel), List.mem_of_getElem? (i := 340) (by decide +kernel)⟩
theorem lw_p11 : lw_okq (⟨"CurveScanModel", "around", "(IIIJJ)V"⟩, 11) := ⟨⟨by decide +kernel, by decide +kernel⟩, List.mem_of_getElem? (i := 274) (by decide +kernel), List.mem_of_getElem? (i := 343) (by decide +kernel), List.mem_of_getElem? (i := 344) (by decide +kernel)⟩
theorem lw_p12 : lw_okq (⟨"CurveScanModel", "line", "(JJJJ)V"⟩, 11) := ⟨⟨by decide +kernel, by decide +kernel⟩, List.mem_of_getElem? (i := 274) (by decide +kernel), List.mem_of_getElem? (i := 347) (by decide +kernel), List.mem_of_getElem? (i := 348) (by decide +kernel)⟩
theorem lw_p13 : lw_okq (⟨"CurveScanModel", "cross", "(ZZI)V"⟩, 11) := ⟨⟨by decide +kernel, by decide +kernel⟩, List.mem_of_getElem? (i := 274) (by decide +kernel), List.mem_of_getElem? (i := 354) (by decide +kernel), List.mem_of_getElem? (i := 355) (by decide +kernel)⟩
theorem lw_p14 : lw_okq (⟨"CurveScanModel", "curve", "(JJJJJJ)V"⟩, 11) := ⟨⟨by decide +kernel, by decide +kernel⟩, List.mem_of_getElem? (i := 274) (by decide +kernel), List.mem_of_getElem? (i := 358) (by decide +kernel), List.mem_of_getElem? (i := 359) (by decide +kernel)⟩
theorem lw_p15 : lw_okq (⟨"CurveScanModel", "through", "(JJJ)Z"⟩, 11) := ⟨⟨by decide +kernel, by decide +kernel⟩, List.mem_of_getElem? (i := 274) (by decide +kernel), List.mem_of_getElem? (i := 365) (by decide +kernel), List.mem_of_getElem? (i := 366) (by decide +kernel)⟩
def lw_privs_1 : List (MethodName × Nat) := [(⟨"CurveScan", "addArcOf", "(I)V"⟩, 9), (⟨"CurveScan", "joint", "([III)I"⟩, 9), (⟨"java/util/ArrayList", "add", "(Ljava/lang/Object;[Ljava/lang/Object;I)V"⟩, 3), (⟨"java/util/ArrayList", "grow", "()[Ljava/lang/Object;"⟩, 3), (⟨"java/util/ArrayList", "grow", "(I)[Ljava/lang/Object;"⟩, 3), (⟨"CurveScan$Arc", "sideOfChord", "(J)I"⟩, 6), (⟨"CurveScan$Arc", "chordShare", "(II)I"⟩, 6), (⟨"CurveScan$Arc", "onStraightArc", "(II)Z"⟩, 6), (⟨"CurveScan", "addRowTurns", "(LCurveScan$Arc;I)J"⟩, 9), (⟨"CurveScanModel", "begun", "()I"⟩, 11), (⟨"CurveScanModel", "go", "(JJ)V"⟩, 11), (⟨"CurveScanModel", "around", "(IIIJJ)V"⟩, 11), (⟨"CurveScanModel", "line", "(JJJJ)V"⟩, 11), (⟨"CurveScanModel", "cross", "(ZZI)V"⟩, 11), (⟨"CurveScanModel", "curve", "(JJJJJJ)V"⟩, 11), (⟨"CurveScanModel", "through", "(JJJ)Z"⟩, 11)]
theorem lw_r1 : ∀ q ∈ lw_privs_1, lw_okq q := List.forall_mem_cons.mpr ⟨lw_p0, List.forall_mem_cons.mpr ⟨lw_p1, List.forall_mem_cons.mpr ⟨lw_p2, List.forall_mem_cons.mpr ⟨lw_p3, List.forall_mem_cons.mpr ⟨lw_p4, List.forall_mem_cons.mpr ⟨lw_p5, List.forall_mem_cons.mpr ⟨lw_p6, List.forall_mem_cons.mpr ⟨lw_p7, List.forall_mem_cons.mpr ⟨lw_p8, List.forall_mem_cons.mpr ⟨lw_p9, List.forall_mem_cons.mpr ⟨lw_p10, List.forall_mem_cons.mpr ⟨lw_p11, List.forall_mem_cons.mpr ⟨lw_p12, List.forall_mem_cons.mpr ⟨lw_p13, List.forall_mem_cons.mpr ⟨lw_p14, List.forall_mem_cons.mpr ⟨lw_p15, fun _ h => absurd h List.not_mem_nil⟩⟩⟩⟩⟩⟩⟩⟩⟩⟩⟩⟩⟩⟩⟩⟩
theorem lw_p16 : lw_okq (⟨"CurveScanModel", "side", "(JJJJJJI)I"⟩, 11) := ⟨⟨by decide +kernel, by decide +kernel⟩, List.mem_of_getElem? (i := 274) (by decide +kernel), List.mem_of_getElem? (i := 377) (by decide +kernel), List.mem_of_getElem? (i := 378) (by decide +kernel)⟩
theorem lw_p17 : lw_okq (⟨"CurveScanModel", "signOf", "(JJJ)I"⟩, 11) := ⟨⟨by decide +kernel, by decide +kernel⟩, List.mem_of_getElem? (i := 274) (by decide +kernel), List.mem_of_getElem? (i := 381) (by decide +kernel), List.mem_of_getElem? (i := 382) (by decide +kernel)⟩
theorem lw_p18 : lw_okq (⟨"CurveScanModel", "compare", "(JJJ)I"⟩, 11) := ⟨⟨by decide +kernel, by decide +kernel⟩, List.mem_of_getElem? (i := 274) (by decide +kernel), List.mem_of_getElem? (i := 385) (by decide +kernel), List.mem_of_getElem? (i := 386) (by decide +kernel)⟩
def lw_privs_2 : List (MethodName × Nat) := [(⟨"CurveScanModel", "side", "(JJJJJJI)I"⟩, 11), (⟨"CurveScanModel", "signOf", "(JJJ)I"⟩, 11), (⟨"CurveScanModel", "compare", "(JJJ)I"⟩, 11)]
theorem lw_r2 : ∀ q ∈ lw_privs_2, lw_okq q := List.forall_mem_cons.mpr ⟨lw_p16, List.forall_mem_cons.mpr ⟨lw_p17, List.forall_mem_cons.mpr ⟨lw_p18, fun _ h => absurd h List.not_mem_nil⟩⟩⟩
def lw_privs : List (MethodName × Nat) := lw_privs_1 ++ (lw_privs_2)
def lw_tbl : List Cond := k2_sels lw_privs ++ tables_1
theorem lw_privs_ok : ∀ q ∈ lw_privs, lw_okq q := by
  show ∀ q ∈ lw_privs_1 ++ (lw_privs_2), lw_okq q
  exact List.forall_mem_append.mpr ⟨lw_r1, lw_r2⟩
end
section
def R_S : String := "CurveScan"
def R_A : String := "CurveScan$Arc"
def R_M : String := "CurveScanModel"
def R_L : String := "CurveScanLaw"
def R_T : String := "java/util/ArrayList"
def R_U : String := "java/util/AbstractList"
def R_V : String := "java/util/AbstractCollection"
def R_Y : String := "java/util/Arrays"
def R_P : String := "jdk/internal/util/ArraysSupport"
def R_O : String := "java/util/Objects"
def R_Q : String := "jdk/internal/util/Preconditions"
def R_J : String := "java/lang/Long"
def R_I : String := "java/lang/Integer"
def R_H : String := "java/lang/Math"
def R_B : String := "java/lang/Object"
def R_Z : String := "java/lang/System"
def F_S : u_T := fun k => match k with
  | 0 => ("CurveScan", "width", "I", true)
  | 1 => ("CurveScan", "pointX", "[I", true)
  | 2 => ("CurveScan", "pointY", "[I", true)
  | 3 => ("CurveScan", "pointOn", "[Z", true)
  | 4 => ("CurveScan", "rowTurns", "[I", true)
  | 5 => ("CurveScan", "arcs", "Ljava/util/ArrayList;", true)
  | 6 => ("CurveScan", "made", "I", false)
  | 7 => ("CurveScan", "closedPoints", "I", false)
  | _ => ("CurveScan", "closedContours", "I", false)
def tf_S : Nat → FieldType := fun k => match k with
  | 0 => .int
  | 1 => (.array .int)
  | 2 => (.array .int)
  | 3 => (.array .boolean)
  | 4 => (.array .int)
  | 5 => (.object "java/util/ArrayList")
  | 6 => .int
  | 7 => .int
  | _ => .int
theorem n_S : ∀ a, a < 9 → ∀ b, b < 9 → a ≠ b → (F_S a).2.1 ≠ (F_S b).2.1 := by decide +kernel
theorem tok_S : ∀ k, k < 9 → parseFieldDescriptor (F_S k).2.2.1 = some (tf_S k) := by decide +kernel
def F_A : u_T := fun k => match k with
  | 0 => ("CurveScan$Arc", "startX", "I", true)
  | 1 => ("CurveScan$Arc", "startY", "I", true)
  | 2 => ("CurveScan$Arc", "bendX", "I", true)
  | 3 => ("CurveScan$Arc", "bendY", "I", true)
  | 4 => ("CurveScan$Arc", "endX", "I", true)
  | _ => ("CurveScan$Arc", "endY", "I", true)
def tf_A : Nat → FieldType := fun k => match k with
  | 0 => .int
  | 1 => .int
  | 2 => .int
  | 3 => .int
  | 4 => .int
  | _ => .int
theorem n_A : ∀ a, a < 6 → ∀ b, b < 6 → a ≠ b → (F_A a).2.1 ≠ (F_A b).2.1 := by decide +kernel
theorem tok_A : ∀ k, k < 6 → parseFieldDescriptor (F_A k).2.2.1 = some (tf_A k) := by decide +kernel
def F_M : u_T := fun k => match k with
  | 0 => ("CurveScanModel", "width", "I", true)
  | 1 => ("CurveScanModel", "px", "[J", true)
  | 2 => ("CurveScanModel", "py", "[J", true)
  | 3 => ("CurveScanModel", "on", "[Z", true)
  | 4 => ("CurveScanModel", "ends", "[I", true)
  | 5 => ("CurveScanModel", "contours", "I", false)
  | 6 => ("CurveScanModel", "points", "I", false)
  | 7 => ("CurveScanModel", "touches", "Z", false)
  | 8 => ("CurveScanModel", "turns", "I", false)
  | 9 => ("CurveScanModel", "first", "[J", true)
  | _ => ("CurveScanModel", "second", "[J", true)
def tf_M : Nat → FieldType := fun k => match k with
  | 0 => .int
  | 1 => (.array .long)
  | 2 => (.array .long)
  | 3 => (.array .boolean)
  | 4 => (.array .int)
  | 5 => .int
  | 6 => .int
  | 7 => .boolean
  | 8 => .int
  | 9 => (.array .long)
  | _ => (.array .long)
theorem n_M : ∀ a, a < 11 → ∀ b, b < 11 → a ≠ b → (F_M a).2.1 ≠ (F_M b).2.1 := by decide +kernel
theorem tok_M : ∀ k, k < 11 → parseFieldDescriptor (F_M k).2.2.1 = some (tf_M k) := by decide +kernel
def F_T : u_T := fun k => match k with
  | 0 => ("java/util/AbstractList", "modCount", "I", false)
  | 1 => ("java/util/ArrayList", "elementData", "[Ljava/lang/Object;", false)
  | _ => ("java/util/ArrayList", "size", "I", false)
def tf_T : Nat → FieldType := fun k => match k with
  | 0 => .int
  | 1 => (.array (.object "java/lang/Object"))
  | _ => .int
theorem n_T : ∀ a, a < 3 → ∀ b, b < 3 → a ≠ b → (F_T a).2.1 ≠ (F_T b).2.1 := by decide +kernel
theorem tok_T : ∀ k, k < 3 → parseFieldDescriptor (F_T k).2.2.1 = some (tf_T k) := by decide +kernel
abbrev cls9 : List vw_C := [(R_S, F_S, 9), (R_A, F_A, 6), (R_M, F_M, 11), (R_T, F_T, 3)]
abbrev b_S_init : ByteArray := prog_1_method_1_code
def y_S_init : MethodName := ⟨R_S, "<init>", "(I)V"⟩
abbrev b_H_min : ByteArray := prog_10_method_69_code
def y_H_min : MethodName := ⟨R_H, "min", "(II)I"⟩
abbrev b_H_max : ByteArray := prog_10_method_65_code
def y_H_max : MethodName := ⟨R_H, "max", "(II)I"⟩
abbrev b_T_init : ByteArray := prog_14_method_2_code
def y_T_init : MethodName := ⟨R_T, "<init>", "()V"⟩
abbrev b_U_init : ByteArray := prog_13_method_1_code
def y_U_init : MethodName := ⟨R_U, "<init>", "()V"⟩
abbrev b_V_init : ByteArray := prog_12_method_1_code
def y_V_init : MethodName := ⟨R_V, "<init>", "()V"⟩
abbrev b_S_point : ByteArray := prog_1_method_2_code
def y_S_point : MethodName := ⟨R_S, "point", "(IIZ)I"⟩
abbrev b_S_inReach : ByteArray := prog_1_method_8_code
def y_S_inReach : MethodName := ⟨R_S, "inReach", "(I)Z"⟩
abbrev b_S_close : ByteArray := prog_1_method_3_code
def y_S_close : MethodName := ⟨R_S, "close", "()I"⟩
abbrev b_S_addArcOf : ByteArray := prog_1_method_9_code
def y_S_addArcOf : MethodName := ⟨R_S, "addArcOf", "(I)V"⟩
abbrev b_S_joint : ByteArray := prog_1_method_10_code
def y_S_joint : MethodName := ⟨R_S, "joint", "([III)I"⟩
abbrev b_A_init : ByteArray := prog_2_method_1_code
def y_A_init : MethodName := ⟨R_A, "<init>", "(IIIIII)V"⟩
abbrev b_T_add1 : ByteArray := prog_14_method_25_code
def y_T_add1 : MethodName := ⟨R_T, "add", "(Ljava/lang/Object;)Z"⟩
abbrev b_T_add2 : ByteArray := prog_14_method_24_code
def y_T_add2 : MethodName := ⟨R_T, "add", "(Ljava/lang/Object;[Ljava/lang/Object;I)V"⟩
abbrev b_T_grow1 : ByteArray := prog_14_method_7_code
def y_T_grow1 : MethodName := ⟨R_T, "grow", "()[Ljava/lang/Object;"⟩
abbrev b_T_grow2 : ByteArray := prog_14_method_6_code
def y_T_grow2 : MethodName := ⟨R_T, "grow", "(I)[Ljava/lang/Object;"⟩
abbrev b_P_newLength : ByteArray := prog_21_method_27_code
def y_P_newLength : MethodName := ⟨R_P, "newLength", "(III)I"⟩
abbrev b_P_hugeLength : ByteArray := prog_21_method_28_code
def y_P_hugeLength : MethodName := ⟨R_P, "hugeLength", "(II)I"⟩
abbrev b_Y_copyOf1 : ByteArray := prog_15_method_119_code
def y_Y_copyOf1 : MethodName := ⟨R_Y, "copyOf", "([Ljava/lang/Object;I)[Ljava/lang/Object;"⟩
abbrev b_Y_copyOf2 : ByteArray := prog_15_method_120_code
def y_Y_copyOf2 : MethodName := ⟨R_Y, "copyOf", "([Ljava/lang/Object;ILjava/lang/Class;)[Ljava/lang/Object;"⟩
abbrev b_S_clear : ByteArray := prog_1_method_4_code
def y_S_clear : MethodName := ⟨R_S, "clear", "()I"⟩
abbrev b_T_clear : ByteArray := prog_14_method_40_code
def y_T_clear : MethodName := ⟨R_T, "clear", "()V"⟩
abbrev b_S_winding : ByteArray := prog_1_method_5_code
def y_S_winding : MethodName := ⟨R_S, "winding", "(II)I"⟩
abbrev b_T_size : ByteArray := prog_14_method_8_code
def y_T_size : MethodName := ⟨R_T, "size", "()I"⟩
abbrev b_T_get : ByteArray := prog_14_method_20_code
def y_T_get : MethodName := ⟨R_T, "get", "(I)Ljava/lang/Object;"⟩
abbrev b_O_checkIndex : ByteArray := prog_18_method_17_code
def y_O_checkIndex : MethodName := ⟨R_O, "checkIndex", "(II)I"⟩
abbrev b_Q_checkIndex : ByteArray := prog_22_method_11_code
def y_Q_checkIndex : MethodName := ⟨R_Q, "checkIndex", "(IILjava/util/function/BiFunction;)I"⟩
abbrev b_T_elementData : ByteArray := prog_14_method_18_code
def y_T_elementData : MethodName := ⟨R_T, "elementData", "(I)Ljava/lang/Object;"⟩
abbrev b_A_turnsAround : ByteArray := prog_2_method_3_code
def y_A_turnsAround : MethodName := ⟨R_A, "turnsAround", "(II)I"⟩
abbrev b_A_mayMeetHeight : ByteArray := prog_2_method_2_code
def y_A_mayMeetHeight : MethodName := ⟨R_A, "mayMeetHeight", "(I)Z"⟩
abbrev b_A_turn : ByteArray := prog_2_method_4_code
def y_A_turn : MethodName := ⟨R_A, "turn", "(JJJJ)J"⟩
abbrev b_J_compare : ByteArray := prog_9_method_42_code
def y_J_compare : MethodName := ⟨R_J, "compare", "(JJ)I"⟩
abbrev b_A_sideOfChord : ByteArray := prog_2_method_5_code
def y_A_sideOfChord : MethodName := ⟨R_A, "sideOfChord", "(J)I"⟩
abbrev b_I_compare : ByteArray := prog_7_method_40_code
def y_I_compare : MethodName := ⟨R_I, "compare", "(II)I"⟩
abbrev b_A_chordShare : ByteArray := prog_2_method_6_code
def y_A_chordShare : MethodName := ⟨R_A, "chordShare", "(II)I"⟩
abbrev b_A_onStraightArc : ByteArray := prog_2_method_7_code
def y_A_onStraightArc : MethodName := ⟨R_A, "onStraightArc", "(II)Z"⟩
abbrev b_A_reachesZero : ByteArray := prog_2_method_8_code
def y_A_reachesZero : MethodName := ⟨R_A, "reachesZero", "(JJJ)Z"⟩
abbrev b_H_abs : ByteArray := prog_10_method_61_code
def y_H_abs : MethodName := ⟨R_H, "abs", "(J)J"⟩
abbrev b_A_compareProducts : ByteArray := prog_2_method_9_code
def y_A_compareProducts : MethodName := ⟨R_A, "compareProducts", "(JJJJ)I"⟩
abbrev b_A_highPart : ByteArray := prog_2_method_10_code
def y_A_highPart : MethodName := ⟨R_A, "highPart", "(JJ)J"⟩
abbrev b_A_lowPart : ByteArray := prog_2_method_11_code
def y_A_lowPart : MethodName := ⟨R_A, "lowPart", "(JJ)J"⟩
abbrev b_S_row : ByteArray := prog_1_method_6_code
def y_S_row : MethodName := ⟨R_S, "row", "(I)J"⟩
abbrev b_Y_fill : ByteArray := prog_15_method_103_code
def y_Y_fill : MethodName := ⟨R_Y, "fill", "([II)V"⟩
abbrev b_S_addRowTurns : ByteArray := prog_1_method_11_code
def y_S_addRowTurns : MethodName := ⟨R_S, "addRowTurns", "(LCurveScan$Arc;I)J"⟩
abbrev b_S_count : ByteArray := prog_1_method_7_code
def y_S_count : MethodName := ⟨R_S, "count", "(I)I"⟩
abbrev b_L_cell : ByteArray := method_2_code
def y_L_cell : MethodName := ⟨R_L, "cell", "([II)I"⟩
abbrev b_M_init : ByteArray := prog_4_method_1_code
def y_M_init : MethodName := ⟨R_M, "<init>", "(I)V"⟩
abbrev b_M_point : ByteArray := prog_4_method_16_code
def y_M_point : MethodName := ⟨R_M, "point", "(IIZ)I"⟩
abbrev b_M_far : ByteArray := prog_4_method_14_code
def y_M_far : MethodName := ⟨R_M, "far", "(I)Z"⟩
abbrev b_M_begun : ByteArray := prog_4_method_15_code
def y_M_begun : MethodName := ⟨R_M, "begun", "()I"⟩
abbrev b_M_close : ByteArray := prog_4_method_17_code
def y_M_close : MethodName := ⟨R_M, "close", "()I"⟩
abbrev b_M_clear : ByteArray := prog_4_method_18_code
def y_M_clear : MethodName := ⟨R_M, "clear", "()I"⟩
abbrev b_M_winding : ByteArray := prog_4_method_20_code
def y_M_winding : MethodName := ⟨R_M, "winding", "(II)I"⟩
abbrev b_M_go : ByteArray := prog_4_method_19_code
def y_M_go : MethodName := ⟨R_M, "go", "(JJ)V"⟩
abbrev b_M_around : ByteArray := prog_4_method_13_code
def y_M_around : MethodName := ⟨R_M, "around", "(IIIJJ)V"⟩
abbrev b_M_line : ByteArray := prog_4_method_8_code
def y_M_line : MethodName := ⟨R_M, "line", "(JJJJ)V"⟩
abbrev b_M_sign : ByteArray := prog_4_method_2_code
def y_M_sign : MethodName := ⟨R_M, "sign", "(J)I"⟩
abbrev b_M_cross : ByteArray := prog_4_method_7_code
def y_M_cross : MethodName := ⟨R_M, "cross", "(ZZI)V"⟩
abbrev b_M_curve : ByteArray := prog_4_method_10_code
def y_M_curve : MethodName := ⟨R_M, "curve", "(JJJJJJ)V"⟩
abbrev b_M_zero : ByteArray := prog_4_method_9_code
def y_M_zero : MethodName := ⟨R_M, "zero", "(JJJ)Z"⟩
abbrev b_M_through : ByteArray := prog_4_method_11_code
def y_M_through : MethodName := ⟨R_M, "through", "(JJJ)Z"⟩
abbrev b_M_product : ByteArray := prog_4_method_4_code
def y_M_product : MethodName := ⟨R_M, "product", "([JJJJ)V"⟩
abbrev b_M_times : ByteArray := prog_4_method_5_code
def y_M_times : MethodName := ⟨R_M, "times", "([JJ)V"⟩
abbrev b_M_side : ByteArray := prog_4_method_12_code
def y_M_side : MethodName := ⟨R_M, "side", "(JJJJJJI)I"⟩
abbrev b_M_signOf : ByteArray := prog_4_method_6_code
def y_M_signOf : MethodName := ⟨R_M, "signOf", "(JJJ)I"⟩
abbrev b_M_compare : ByteArray := prog_4_method_3_code
def y_M_compare : MethodName := ⟨R_M, "compare", "(JJJ)I"⟩
abbrev b_M_row : ByteArray := prog_4_method_21_code
def y_M_row : MethodName := ⟨R_M, "row", "(I)J"⟩
abbrev b_M_count : ByteArray := prog_4_method_22_code
def y_M_count : MethodName := ⟨R_M, "count", "(I)I"⟩
abbrev b_L_law : ByteArray := code
def y_L_law : MethodName := ⟨R_L, "law", "([I)Z"⟩
/-- the words that every method here takes: those of the tables that a callee keeps -/
def lw_w : List Cond := lw_tbl.filter goodWord
theorem gi_w {ws : List Cond} (h : ∀ w ∈ ws, w ∈ lw_w) : GoodIn lw_w ws := fun w hw => ⟨h w hw, good_of_word (List.mem_filter.mp (h w hw)).2⟩
theorem gi_c {y : MethodName} {b : ByteArray} {n : Nat} {r : Option FieldType} (h : Cond.code y b n r ∈ lw_w) : GoodIn lw_w (.code y b n r :: lw_w) := gi_w (fun w hw => by
  rcases List.mem_cons.mp hw with h1 | h1
  · rw [h1]; exact h
  · exact h1)
theorem gi_V {own C : String} {idx : Nat} {y : MethodName} {b : ByteArray} {n : Nat} {r : Option FieldType} (h1 : Cond.methodLink own idx y ∈ lw_w) (h2 : Cond.instanceMethod y ∈ lw_w) (h3 : Cond.selects C y y ∈ lw_w) (h4 : Cond.initialized C ∈ lw_w) (h5 : Cond.code y b n r ∈ lw_w) : GoodIn lw_w (wsV own idx C y (.code y b n r :: lw_w)) := gi_w (fun w hw => by
  rcases List.mem_append.mp hw with hw | hw
  · simp only [List.mem_cons, List.not_mem_nil, or_false] at hw
    rcases hw with e | e | e | e <;> rw [e] <;> assumption
  · rcases List.mem_cons.mp hw with e | e
    · rw [e]; exact h5
    · exact e)
theorem gi_S {own : String} {idx : Nat} {y : MethodName} {b : ByteArray} {n : Nat} {r : Option FieldType} (h1 : Cond.methodLink own idx y ∈ lw_w) (h2 : Cond.static y ∈ lw_w) (h3 : Cond.initialized y.cls ∈ lw_w) (h5 : Cond.code y b n r ∈ lw_w) : GoodIn lw_w (va_wsS own idx y (.code y b n r :: lw_w)) := gi_w (fun w hw => by
  rcases List.mem_append.mp hw with hw | hw
  · simp only [List.mem_cons, List.not_mem_nil, or_false] at hw
    rcases hw with e | e | e <;> rw [e] <;> assumption
  · rcases List.mem_cons.mp hw with e | e
    · rw [e]; exact h5
    · exact e)
def w_S_init : List Cond := .code y_S_init b_S_init 2 none :: lw_w
def w_H_min : List Cond := .code y_H_min b_H_min 2 (some .int) :: lw_w
def w_H_max : List Cond := .code y_H_max b_H_max 2 (some .int) :: lw_w
def w_T_init : List Cond := .code y_T_init b_T_init 1 none :: lw_w
def w_U_init : List Cond := .code y_U_init b_U_init 1 none :: lw_w
def w_V_init : List Cond := .code y_V_init b_V_init 1 none :: lw_w
def w_S_point : List Cond := .code y_S_point b_S_point 4 (some .int) :: lw_w
def w_S_inReach : List Cond := .code y_S_inReach b_S_inReach 1 (some .boolean) :: lw_w
def w_S_close : List Cond := .code y_S_close b_S_close 2 (some .int) :: lw_w
def w_S_addArcOf : List Cond := .code y_S_addArcOf b_S_addArcOf 4 none :: lw_w
def w_S_joint : List Cond := .code y_S_joint b_S_joint 4 (some .int) :: lw_w
def w_A_init : List Cond := .code y_A_init b_A_init 7 none :: lw_w
def w_T_add1 : List Cond := .code y_T_add1 b_T_add1 2 (some .boolean) :: lw_w
def w_T_add2 : List Cond := .code y_T_add2 b_T_add2 4 none :: lw_w
def w_T_grow1 : List Cond := .code y_T_grow1 b_T_grow1 1 (some (.array (.object "java/lang/Object"))) :: lw_w
def w_T_grow2 : List Cond := .code y_T_grow2 b_T_grow2 4 (some (.array (.object "java/lang/Object"))) :: lw_w
def w_P_newLength : List Cond := .code y_P_newLength b_P_newLength 4 (some .int) :: lw_w
def w_P_hugeLength : List Cond := .code y_P_hugeLength b_P_hugeLength 3 (some .int) :: lw_w
def w_Y_copyOf1 : List Cond := .code y_Y_copyOf1 b_Y_copyOf1 2 (some (.array (.object "java/lang/Object"))) :: lw_w
def w_Y_copyOf2 : List Cond := .code y_Y_copyOf2 b_Y_copyOf2 4 (some (.array (.object "java/lang/Object"))) :: lw_w
def w_S_clear : List Cond := .code y_S_clear b_S_clear 2 (some .int) :: lw_w
def w_T_clear : List Cond := .code y_T_clear b_T_clear 4 none :: lw_w
def w_S_winding : List Cond := .code y_S_winding b_S_winding 6 (some .int) :: lw_w
def w_T_size : List Cond := .code y_T_size b_T_size 1 (some .int) :: lw_w
def w_T_get : List Cond := .code y_T_get b_T_get 2 (some (.object "java/lang/Object")) :: lw_w
def w_O_checkIndex : List Cond := .code y_O_checkIndex b_O_checkIndex 2 (some .int) :: lw_w
def w_Q_checkIndex : List Cond := .code y_Q_checkIndex b_Q_checkIndex 3 (some .int) :: lw_w
def w_T_elementData : List Cond := .code y_T_elementData b_T_elementData 2 (some (.object "java/lang/Object")) :: lw_w
def w_A_turnsAround : List Cond := .code y_A_turnsAround b_A_turnsAround 13 (some .int) :: lw_w
def w_A_mayMeetHeight : List Cond := .code y_A_mayMeetHeight b_A_mayMeetHeight 2 (some .boolean) :: lw_w
def w_A_turn : List Cond := .code y_A_turn b_A_turn 8 (some .long) :: lw_w
def w_J_compare : List Cond := .code y_J_compare b_J_compare 4 (some .int) :: lw_w
def w_A_sideOfChord : List Cond := .code y_A_sideOfChord b_A_sideOfChord 3 (some .int) :: lw_w
def w_I_compare : List Cond := .code y_I_compare b_I_compare 2 (some .int) :: lw_w
def w_A_chordShare : List Cond := .code y_A_chordShare b_A_chordShare 5 (some .int) :: lw_w
def w_A_onStraightArc : List Cond := .code y_A_onStraightArc b_A_onStraightArc 3 (some .boolean) :: lw_w
def w_A_reachesZero : List Cond := .code y_A_reachesZero b_A_reachesZero 7 (some .boolean) :: lw_w
def w_H_abs : List Cond := .code y_H_abs b_H_abs 2 (some .long) :: lw_w
def w_A_compareProducts : List Cond := .code y_A_compareProducts b_A_compareProducts 9 (some .int) :: lw_w
def w_A_highPart : List Cond := .code y_A_highPart b_A_highPart 4 (some .long) :: lw_w
def w_A_lowPart : List Cond := .code y_A_lowPart b_A_lowPart 4 (some .long) :: lw_w
def w_S_row : List Cond := .code y_S_row b_S_row 7 (some .long) :: lw_w
def w_Y_fill : List Cond := .code y_Y_fill b_Y_fill 4 none :: lw_w
def w_S_addRowTurns : List Cond := .code y_S_addRowTurns b_S_addRowTurns 7 (some .long) :: lw_w
def w_S_count : List Cond := .code y_S_count b_S_count 2 (some .int) :: lw_w
def w_L_cell : List Cond := .code y_L_cell b_L_cell 2 (some .int) :: lw_w
def w_M_init : List Cond := .code y_M_init b_M_init 2 none :: lw_w
def w_M_point : List Cond := .code y_M_point b_M_point 4 (some .int) :: lw_w
def w_M_far : List Cond := .code y_M_far b_M_far 1 (some .boolean) :: lw_w
def w_M_begun : List Cond := .code y_M_begun b_M_begun 1 (some .int) :: lw_w
def w_M_close : List Cond := .code y_M_close b_M_close 1 (some .int) :: lw_w
def w_M_clear : List Cond := .code y_M_clear b_M_clear 2 (some .int) :: lw_w
def w_M_winding : List Cond := .code y_M_winding b_M_winding 3 (some .int) :: lw_w
def w_M_go : List Cond := .code y_M_go b_M_go 7 none :: lw_w
def w_M_around : List Cond := .code y_M_around b_M_around 25 none :: lw_w
def w_M_line : List Cond := .code y_M_line b_M_line 11 none :: lw_w
def w_M_sign : List Cond := .code y_M_sign b_M_sign 2 (some .int) :: lw_w
def w_M_cross : List Cond := .code y_M_cross b_M_cross 4 none :: lw_w
def w_M_curve : List Cond := .code y_M_curve b_M_curve 23 none :: lw_w
def w_M_zero : List Cond := .code y_M_zero b_M_zero 6 (some .boolean) :: lw_w
def w_M_through : List Cond := .code y_M_through b_M_through 8 (some .boolean) :: lw_w
def w_M_product : List Cond := .code y_M_product b_M_product 8 none :: lw_w
def w_M_times : List Cond := .code y_M_times b_M_times 20 none :: lw_w
def w_M_side : List Cond := .code y_M_side b_M_side 26 (some .int) :: lw_w
def w_M_signOf : List Cond := .code y_M_signOf b_M_signOf 10 (some .int) :: lw_w
def w_M_compare : List Cond := .code y_M_compare b_M_compare 8 (some .int) :: lw_w
def w_M_row : List Cond := .code y_M_row b_M_row 5 (some .long) :: lw_w
def w_M_count : List Cond := .code y_M_count b_M_count 2 (some .int) :: lw_w
end
section
set_option maxRecDepth 20000 in
theorem ts_0 : Cond.selects R_S y_S_addArcOf y_S_addArcOf ∈ lw_w := List.mem_filter.mpr ⟨List.mem_append_left _ (List.mem_of_getElem? (i := 0) (by decide +kernel)), rfl⟩
set_option maxRecDepth 20000 in
theorem ts_1 : Cond.selects R_S y_S_joint y_S_joint ∈ lw_w := List.mem_filter.mpr ⟨List.mem_append_left _ (List.mem_of_getElem? (i := 1) (by decide +kernel)), rfl⟩
set_option maxRecDepth 20000 in
theorem ts_2 : Cond.selects R_T y_T_add2 y_T_add2 ∈ lw_w := List.mem_filter.mpr ⟨List.mem_append_left _ (List.mem_of_getElem? (i := 2) (by decide +kernel)), rfl⟩
set_option maxRecDepth 20000 in
theorem ts_3 : Cond.selects R_T y_T_grow1 y_T_grow1 ∈ lw_w := List.mem_filter.mpr ⟨List.mem_append_left _ (List.mem_of_getElem? (i := 3) (by decide +kernel)), rfl⟩
set_option maxRecDepth 20000 in
theorem ts_4 : Cond.selects R_T y_T_grow2 y_T_grow2 ∈ lw_w := List.mem_filter.mpr ⟨List.mem_append_left _ (List.mem_of_getElem? (i := 4) (by decide +kernel)), rfl⟩
set_option maxRecDepth 20000 in
theorem ts_5 : Cond.selects R_A y_A_sideOfChord y_A_sideOfChord ∈ lw_w := List.mem_filter.mpr ⟨List.mem_append_left _ (List.mem_of_getElem? (i := 5) (by decide +kernel)), rfl⟩
set_option maxRecDepth 20000 in
theorem ts_6 : Cond.selects R_A y_A_chordShare y_A_chordShare ∈ lw_w := List.mem_filter.mpr ⟨List.mem_append_left _ (List.mem_of_getElem? (i := 6) (by decide +kernel)), rfl⟩
set_option maxRecDepth 20000 in
theorem ts_7 : Cond.selects R_A y_A_onStraightArc y_A_onStraightArc ∈ lw_w := List.mem_filter.mpr ⟨List.mem_append_left _ (List.mem_of_getElem? (i := 7) (by decide +kernel)), rfl⟩
set_option maxRecDepth 20000 in
theorem ts_8 : Cond.selects R_S y_S_addRowTurns y_S_addRowTurns ∈ lw_w := List.mem_filter.mpr ⟨List.mem_append_left _ (List.mem_of_getElem? (i := 8) (by decide +kernel)), rfl⟩
set_option maxRecDepth 20000 in
theorem ts_9 : Cond.selects R_M y_M_begun y_M_begun ∈ lw_w := List.mem_filter.mpr ⟨List.mem_append_left _ (List.mem_of_getElem? (i := 9) (by decide +kernel)), rfl⟩
set_option maxRecDepth 20000 in
theorem ts_10 : Cond.selects R_M y_M_go y_M_go ∈ lw_w := List.mem_filter.mpr ⟨List.mem_append_left _ (List.mem_of_getElem? (i := 10) (by decide +kernel)), rfl⟩
set_option maxRecDepth 20000 in
theorem ts_11 : Cond.selects R_M y_M_around y_M_around ∈ lw_w := List.mem_filter.mpr ⟨List.mem_append_left _ (List.mem_of_getElem? (i := 11) (by decide +kernel)), rfl⟩
set_option maxRecDepth 20000 in
theorem ts_12 : Cond.selects R_M y_M_line y_M_line ∈ lw_w := List.mem_filter.mpr ⟨List.mem_append_left _ (List.mem_of_getElem? (i := 12) (by decide +kernel)), rfl⟩
set_option maxRecDepth 20000 in
theorem ts_13 : Cond.selects R_M y_M_cross y_M_cross ∈ lw_w := List.mem_filter.mpr ⟨List.mem_append_left _ (List.mem_of_getElem? (i := 13) (by decide +kernel)), rfl⟩
set_option maxRecDepth 20000 in
theorem ts_14 : Cond.selects R_M y_M_curve y_M_curve ∈ lw_w := List.mem_filter.mpr ⟨List.mem_append_left _ (List.mem_of_getElem? (i := 14) (by decide +kernel)), rfl⟩
set_option maxRecDepth 20000 in
theorem ts_15 : Cond.selects R_M y_M_through y_M_through ∈ lw_w := List.mem_filter.mpr ⟨List.mem_append_left _ (List.mem_of_getElem? (i := 15) (by decide +kernel)), rfl⟩
set_option maxRecDepth 20000 in
theorem ts_16 : Cond.selects R_M y_M_side y_M_side ∈ lw_w := List.mem_filter.mpr ⟨List.mem_append_left _ (List.mem_of_getElem? (i := 16) (by decide +kernel)), rfl⟩
set_option maxRecDepth 20000 in
theorem ts_17 : Cond.selects R_M y_M_signOf y_M_signOf ∈ lw_w := List.mem_filter.mpr ⟨List.mem_append_left _ (List.mem_of_getElem? (i := 17) (by decide +kernel)), rfl⟩
set_option maxRecDepth 20000 in
theorem ts_18 : Cond.selects R_M y_M_compare y_M_compare ∈ lw_w := List.mem_filter.mpr ⟨List.mem_append_left _ (List.mem_of_getElem? (i := 18) (by decide +kernel)), rfl⟩
set_option maxRecDepth 20000 in
theorem tw_0 : Cond.initialized R_L ∈ lw_w := List.mem_filter.mpr ⟨List.mem_append_right _ (List.mem_of_getElem? (i := 0) (by decide +kernel)), rfl⟩
set_option maxRecDepth 20000 in
theorem tw_1 : Cond.initialized R_S ∈ lw_w := List.mem_filter.mpr ⟨List.mem_append_right _ (List.mem_of_getElem? (i := 1) (by decide +kernel)), rfl⟩
set_option maxRecDepth 20000 in
theorem tw_2 : Cond.initialized R_H ∈ lw_w := List.mem_filter.mpr ⟨List.mem_append_right _ (List.mem_of_getElem? (i := 2) (by decide +kernel)), rfl⟩
set_option maxRecDepth 20000 in
theorem tw_3 : Cond.initialized R_V ∈ lw_w := List.mem_filter.mpr ⟨List.mem_append_right _ (List.mem_of_getElem? (i := 3) (by decide +kernel)), rfl⟩
set_option maxRecDepth 20000 in
theorem tw_4 : Cond.initialized R_U ∈ lw_w := List.mem_filter.mpr ⟨List.mem_append_right _ (List.mem_of_getElem? (i := 4) (by decide +kernel)), rfl⟩
set_option maxRecDepth 20000 in
theorem tw_5 : Cond.initialized R_T ∈ lw_w := List.mem_filter.mpr ⟨List.mem_append_right _ (List.mem_of_getElem? (i := 5) (by decide +kernel)), rfl⟩
set_option maxRecDepth 20000 in
theorem tw_6 : Cond.initialized R_M ∈ lw_w := List.mem_filter.mpr ⟨List.mem_append_right _ (List.mem_of_getElem? (i := 6) (by decide +kernel)), rfl⟩
set_option maxRecDepth 20000 in
theorem tw_7 : Cond.initialized R_A ∈ lw_w := List.mem_filter.mpr ⟨List.mem_append_right _ (List.mem_of_getElem? (i := 7) (by decide +kernel)), rfl⟩
set_option maxRecDepth 20000 in
theorem tw_8 : Cond.initialized R_P ∈ lw_w := List.mem_filter.mpr ⟨List.mem_append_right _ (List.mem_of_getElem? (i := 8) (by decide +kernel)), rfl⟩
set_option maxRecDepth 20000 in
theorem tw_9 : Cond.initialized R_Y ∈ lw_w := List.mem_filter.mpr ⟨List.mem_append_right _ (List.mem_of_getElem? (i := 9) (by decide +kernel)), rfl⟩
set_option maxRecDepth 20000 in
theorem tw_10 : Cond.initialized R_Z ∈ lw_w := List.mem_filter.mpr ⟨List.mem_append_right _ (List.mem_of_getElem? (i := 10) (by decide +kernel)), rfl⟩
set_option maxRecDepth 20000 in
theorem tw_11 : Cond.initialized R_O ∈ lw_w := List.mem_filter.mpr ⟨List.mem_append_right _ (List.mem_of_getElem? (i := 11) (by decide +kernel)), rfl⟩
set_option maxRecDepth 20000 in
theorem tw_12 : Cond.initialized R_Q ∈ lw_w := List.mem_filter.mpr ⟨List.mem_append_right _ (List.mem_of_getElem? (i := 12) (by decide +kernel)), rfl⟩
set_option maxRecDepth 20000 in
theorem tw_13 : Cond.initialized R_J ∈ lw_w := List.mem_filter.mpr ⟨List.mem_append_right _ (List.mem_of_getElem? (i := 13) (by decide +kernel)), rfl⟩
set_option maxRecDepth 20000 in
theorem tw_14 : Cond.initialized R_I ∈ lw_w := List.mem_filter.mpr ⟨List.mem_append_right _ (List.mem_of_getElem? (i := 14) (by decide +kernel)), rfl⟩
set_option maxRecDepth 20000 in
theorem tw_15 : Cond.classLink R_L 7 R_S ∈ lw_w := List.mem_filter.mpr ⟨List.mem_append_right _ (List.mem_of_getElem? (i := 15) (by decide +kernel)), rfl⟩
set_option maxRecDepth 20000 in
theorem tw_16 : Cond.instantiable R_S 9 ∈ lw_w := List.mem_filter.mpr ⟨List.mem_append_right _ (List.mem_of_getElem? (i := 16) (by decide +kernel)), rfl⟩
set_option maxRecDepth 20000 in
theorem tw_17 : Cond.methodLink R_L 15 y_S_init ∈ lw_w := List.mem_filter.mpr ⟨List.mem_append_right _ (List.mem_of_getElem? (i := 17) (by decide +kernel)), rfl⟩
set_option maxRecDepth 20000 in
theorem tw_18 : Cond.instanceMethod y_S_init ∈ lw_w := List.mem_filter.mpr ⟨List.mem_append_right _ (List.mem_of_getElem? (i := 18) (by decide +kernel)), rfl⟩
set_option maxRecDepth 20000 in
theorem tw_19 : Cond.code y_S_init b_S_init 2 none ∈ lw_w := List.mem_filter.mpr ⟨List.mem_append_right _ (List.mem_of_getElem? (i := 19) rfl), rfl⟩
set_option maxRecDepth 20000 in
theorem tw_20 : Cond.methodLink R_S 1 objectInit ∈ lw_w := List.mem_filter.mpr ⟨List.mem_append_right _ (List.mem_of_getElem? (i := 20) (by decide +kernel)), rfl⟩
set_option maxRecDepth 20000 in
theorem tw_21 : Cond.instanceMethod objectInit ∈ lw_w := List.mem_filter.mpr ⟨List.mem_append_right _ (List.mem_of_getElem? (i := 21) (by decide +kernel)), rfl⟩
set_option maxRecDepth 20000 in
theorem tw_22 : Cond.code objectInit ⟨#[0xb1]⟩ 1 none ∈ lw_w := List.mem_filter.mpr ⟨List.mem_append_right _ (List.mem_of_getElem? (i := 22) rfl), rfl⟩
set_option maxRecDepth 20000 in
theorem tw_23 : Cond.methodLink R_S 9 y_H_min ∈ lw_w := List.mem_filter.mpr ⟨List.mem_append_right _ (List.mem_of_getElem? (i := 23) (by decide +kernel)), rfl⟩
set_option maxRecDepth 20000 in
theorem tw_24 : Cond.static y_H_min ∈ lw_w := List.mem_filter.mpr ⟨List.mem_append_right _ (List.mem_of_getElem? (i := 24) (by decide +kernel)), rfl⟩
set_option maxRecDepth 20000 in
theorem tw_25 : Cond.code y_H_min b_H_min 2 (some .int) ∈ lw_w := List.mem_filter.mpr ⟨List.mem_append_right _ (List.mem_of_getElem? (i := 25) rfl), rfl⟩
set_option maxRecDepth 20000 in
theorem tw_26 : Cond.methodLink R_S 15 y_H_max ∈ lw_w := List.mem_filter.mpr ⟨List.mem_append_right _ (List.mem_of_getElem? (i := 26) (by decide +kernel)), rfl⟩
set_option maxRecDepth 20000 in
theorem tw_27 : Cond.static y_H_max ∈ lw_w := List.mem_filter.mpr ⟨List.mem_append_right _ (List.mem_of_getElem? (i := 27) (by decide +kernel)), rfl⟩
set_option maxRecDepth 20000 in
theorem tw_28 : Cond.code y_H_max b_H_max 2 (some .int) ∈ lw_w := List.mem_filter.mpr ⟨List.mem_append_right _ (List.mem_of_getElem? (i := 28) rfl), rfl⟩
set_option maxRecDepth 20000 in
theorem tw_29 : Cond.classLink R_S 36 R_T ∈ lw_w := List.mem_filter.mpr ⟨List.mem_append_right _ (List.mem_of_getElem? (i := 29) (by decide +kernel)), rfl⟩
set_option maxRecDepth 20000 in
theorem tw_30 : Cond.instantiable R_T 3 ∈ lw_w := List.mem_filter.mpr ⟨List.mem_append_right _ (List.mem_of_getElem? (i := 30) (by decide +kernel)), rfl⟩
set_option maxRecDepth 20000 in
theorem tw_31 : Cond.methodLink R_S 38 y_T_init ∈ lw_w := List.mem_filter.mpr ⟨List.mem_append_right _ (List.mem_of_getElem? (i := 31) (by decide +kernel)), rfl⟩
set_option maxRecDepth 20000 in
theorem tw_32 : Cond.instanceMethod y_T_init ∈ lw_w := List.mem_filter.mpr ⟨List.mem_append_right _ (List.mem_of_getElem? (i := 32) (by decide +kernel)), rfl⟩
set_option maxRecDepth 20000 in
theorem tw_33 : Cond.code y_T_init b_T_init 1 none ∈ lw_w := List.mem_filter.mpr ⟨List.mem_append_right _ (List.mem_of_getElem? (i := 33) rfl), rfl⟩
set_option maxRecDepth 20000 in
theorem tw_34 : Cond.methodLink R_T 1 y_U_init ∈ lw_w := List.mem_filter.mpr ⟨List.mem_append_right _ (List.mem_of_getElem? (i := 34) (by decide +kernel)), rfl⟩
set_option maxRecDepth 20000 in
theorem tw_35 : Cond.instanceMethod y_U_init ∈ lw_w := List.mem_filter.mpr ⟨List.mem_append_right _ (List.mem_of_getElem? (i := 35) (by decide +kernel)), rfl⟩
set_option maxRecDepth 20000 in
theorem tw_36 : Cond.code y_U_init b_U_init 1 none ∈ lw_w := List.mem_filter.mpr ⟨List.mem_append_right _ (List.mem_of_getElem? (i := 36) rfl), rfl⟩
set_option maxRecDepth 20000 in
theorem tw_37 : Cond.methodLink R_U 1 y_V_init ∈ lw_w := List.mem_filter.mpr ⟨List.mem_append_right _ (List.mem_of_getElem? (i := 37) (by decide +kernel)), rfl⟩
set_option maxRecDepth 20000 in
theorem tw_38 : Cond.instanceMethod y_V_init ∈ lw_w := List.mem_filter.mpr ⟨List.mem_append_right _ (List.mem_of_getElem? (i := 38) (by decide +kernel)), rfl⟩
set_option maxRecDepth 20000 in
theorem tw_39 : Cond.code y_V_init b_V_init 1 none ∈ lw_w := List.mem_filter.mpr ⟨List.mem_append_right _ (List.mem_of_getElem? (i := 39) rfl), rfl⟩
set_option maxRecDepth 20000 in
theorem tw_40 : Cond.methodLink R_V 1 objectInit ∈ lw_w := List.mem_filter.mpr ⟨List.mem_append_right _ (List.mem_of_getElem? (i := 40) (by decide +kernel)), rfl⟩
set_option maxRecDepth 20000 in
theorem tw_41 : Cond.fieldLink R_T 39 "java/util/ArrayList" "DEFAULTCAPACITY_EMPTY_ELEMENTDATA" "[Ljava/lang/Object;" ∈ lw_w := List.mem_filter.mpr ⟨List.mem_append_right _ (List.mem_of_getElem? (i := 41) (by decide +kernel)), rfl⟩
set_option maxRecDepth 20000 in
theorem tw_43 : Cond.fieldLink R_T 9 "java/util/ArrayList" "elementData" "[Ljava/lang/Object;" ∈ lw_w := List.mem_filter.mpr ⟨List.mem_append_right _ (List.mem_of_getElem? (i := 43) (by decide +kernel)), rfl⟩
set_option maxRecDepth 20000 in
theorem tw_44 : Cond.fieldLink R_T 48 "java/util/ArrayList" "size" "I" ∈ lw_w := List.mem_filter.mpr ⟨List.mem_append_right _ (List.mem_of_getElem? (i := 44) (by decide +kernel)), rfl⟩
set_option maxRecDepth 20000 in
theorem tw_45 : Cond.fieldLink R_U 7 "java/util/AbstractList" "modCount" "I" ∈ lw_w := List.mem_filter.mpr ⟨List.mem_append_right _ (List.mem_of_getElem? (i := 45) (by decide +kernel)), rfl⟩
set_option maxRecDepth 20000 in
theorem tw_46 : Cond.fieldLink R_T 63 "java/util/ArrayList" "modCount" "I" ∈ lw_w := List.mem_filter.mpr ⟨List.mem_append_right _ (List.mem_of_getElem? (i := 46) (by decide +kernel)), rfl⟩
set_option maxRecDepth 20000 in
theorem tw_47 : Cond.sameField "java/util/ArrayList" "java/util/AbstractList" "modCount" "I" ∈ lw_w := List.mem_filter.mpr ⟨List.mem_append_right _ (List.mem_of_getElem? (i := 47) (by decide +kernel)), rfl⟩
set_option maxRecDepth 20000 in
theorem tw_48 : Cond.lays "java/util/ArrayList" "java/util/ArrayList" "elementData" "[Ljava/lang/Object;" ∈ lw_w := List.mem_filter.mpr ⟨List.mem_append_right _ (List.mem_of_getElem? (i := 48) (by decide +kernel)), rfl⟩
set_option maxRecDepth 20000 in
theorem tw_50 : Cond.lays "java/util/ArrayList" "java/util/ArrayList" "size" "I" ∈ lw_w := List.mem_filter.mpr ⟨List.mem_append_right _ (List.mem_of_getElem? (i := 50) (by decide +kernel)), rfl⟩
set_option maxRecDepth 20000 in
theorem tw_52 : Cond.lays "java/util/ArrayList" "java/util/AbstractList" "modCount" "I" ∈ lw_w := List.mem_filter.mpr ⟨List.mem_append_right _ (List.mem_of_getElem? (i := 52) (by decide +kernel)), rfl⟩
set_option maxRecDepth 20000 in
theorem tw_54 : Cond.superclass "java/util/ArrayList" "java/util/AbstractList" ∈ lw_w := List.mem_filter.mpr ⟨List.mem_append_right _ (List.mem_of_getElem? (i := 54) (by decide +kernel)), rfl⟩
set_option maxRecDepth 20000 in
theorem tw_55 : Cond.arrayClass .int ∈ lw_w := List.mem_filter.mpr ⟨List.mem_append_right _ (List.mem_of_getElem? (i := 55) (by decide +kernel)), rfl⟩
set_option maxRecDepth 20000 in
theorem tw_56 : Cond.arrayClass .boolean ∈ lw_w := List.mem_filter.mpr ⟨List.mem_append_right _ (List.mem_of_getElem? (i := 56) (by decide +kernel)), rfl⟩
set_option maxRecDepth 20000 in
theorem tw_57 : Cond.fieldLink R_S 18 "CurveScan" "width" "I" ∈ lw_w := List.mem_filter.mpr ⟨List.mem_append_right _ (List.mem_of_getElem? (i := 57) (by decide +kernel)), rfl⟩
set_option maxRecDepth 20000 in
theorem tw_58 : Cond.fieldLink R_S 22 "CurveScan" "pointX" "[I" ∈ lw_w := List.mem_filter.mpr ⟨List.mem_append_right _ (List.mem_of_getElem? (i := 58) (by decide +kernel)), rfl⟩
set_option maxRecDepth 20000 in
theorem tw_59 : Cond.fieldLink R_S 26 "CurveScan" "pointY" "[I" ∈ lw_w := List.mem_filter.mpr ⟨List.mem_append_right _ (List.mem_of_getElem? (i := 59) (by decide +kernel)), rfl⟩
set_option maxRecDepth 20000 in
theorem tw_60 : Cond.fieldLink R_S 29 "CurveScan" "pointOn" "[Z" ∈ lw_w := List.mem_filter.mpr ⟨List.mem_append_right _ (List.mem_of_getElem? (i := 60) (by decide +kernel)), rfl⟩
set_option maxRecDepth 20000 in
theorem tw_61 : Cond.fieldLink R_S 33 "CurveScan" "rowTurns" "[I" ∈ lw_w := List.mem_filter.mpr ⟨List.mem_append_right _ (List.mem_of_getElem? (i := 61) (by decide +kernel)), rfl⟩
set_option maxRecDepth 20000 in
theorem tw_62 : Cond.fieldLink R_S 39 "CurveScan" "arcs" "Ljava/util/ArrayList;" ∈ lw_w := List.mem_filter.mpr ⟨List.mem_append_right _ (List.mem_of_getElem? (i := 62) (by decide +kernel)), rfl⟩
set_option maxRecDepth 20000 in
theorem tw_63 : Cond.fieldLink R_S 50 "CurveScan" "made" "I" ∈ lw_w := List.mem_filter.mpr ⟨List.mem_append_right _ (List.mem_of_getElem? (i := 63) (by decide +kernel)), rfl⟩
set_option maxRecDepth 20000 in
theorem tw_64 : Cond.fieldLink R_S 47 "CurveScan" "closedPoints" "I" ∈ lw_w := List.mem_filter.mpr ⟨List.mem_append_right _ (List.mem_of_getElem? (i := 64) (by decide +kernel)), rfl⟩
set_option maxRecDepth 20000 in
theorem tw_65 : Cond.fieldLink R_S 57 "CurveScan" "closedContours" "I" ∈ lw_w := List.mem_filter.mpr ⟨List.mem_append_right _ (List.mem_of_getElem? (i := 65) (by decide +kernel)), rfl⟩
set_option maxRecDepth 20000 in
theorem tw_66 : Cond.laysFinal "CurveScan" "CurveScan" "width" "I" ∈ lw_w := List.mem_filter.mpr ⟨List.mem_append_right _ (List.mem_of_getElem? (i := 66) (by decide +kernel)), rfl⟩
set_option maxRecDepth 20000 in
theorem tw_68 : Cond.laysFinal "CurveScan" "CurveScan" "pointX" "[I" ∈ lw_w := List.mem_filter.mpr ⟨List.mem_append_right _ (List.mem_of_getElem? (i := 68) (by decide +kernel)), rfl⟩
set_option maxRecDepth 20000 in
theorem tw_70 : Cond.laysFinal "CurveScan" "CurveScan" "pointY" "[I" ∈ lw_w := List.mem_filter.mpr ⟨List.mem_append_right _ (List.mem_of_getElem? (i := 70) (by decide +kernel)), rfl⟩
set_option maxRecDepth 20000 in
theorem tw_72 : Cond.laysFinal "CurveScan" "CurveScan" "pointOn" "[Z" ∈ lw_w := List.mem_filter.mpr ⟨List.mem_append_right _ (List.mem_of_getElem? (i := 72) (by decide +kernel)), rfl⟩
set_option maxRecDepth 20000 in
theorem tw_74 : Cond.laysFinal "CurveScan" "CurveScan" "rowTurns" "[I" ∈ lw_w := List.mem_filter.mpr ⟨List.mem_append_right _ (List.mem_of_getElem? (i := 74) (by decide +kernel)), rfl⟩
set_option maxRecDepth 20000 in
theorem tw_76 : Cond.laysFinal "CurveScan" "CurveScan" "arcs" "Ljava/util/ArrayList;" ∈ lw_w := List.mem_filter.mpr ⟨List.mem_append_right _ (List.mem_of_getElem? (i := 76) (by decide +kernel)), rfl⟩
set_option maxRecDepth 20000 in
theorem tw_78 : Cond.lays "CurveScan" "CurveScan" "made" "I" ∈ lw_w := List.mem_filter.mpr ⟨List.mem_append_right _ (List.mem_of_getElem? (i := 78) (by decide +kernel)), rfl⟩
set_option maxRecDepth 20000 in
theorem tw_80 : Cond.lays "CurveScan" "CurveScan" "closedPoints" "I" ∈ lw_w := List.mem_filter.mpr ⟨List.mem_append_right _ (List.mem_of_getElem? (i := 80) (by decide +kernel)), rfl⟩
set_option maxRecDepth 20000 in
theorem tw_82 : Cond.lays "CurveScan" "CurveScan" "closedContours" "I" ∈ lw_w := List.mem_filter.mpr ⟨List.mem_append_right _ (List.mem_of_getElem? (i := 82) (by decide +kernel)), rfl⟩
set_option maxRecDepth 20000 in
theorem tw_84 : Cond.superclass "CurveScan" "java/lang/Object" ∈ lw_w := List.mem_filter.mpr ⟨List.mem_append_right _ (List.mem_of_getElem? (i := 84) (by decide +kernel)), rfl⟩
set_option maxRecDepth 20000 in
theorem tw_85 : Cond.methodLink R_L 21 y_S_point ∈ lw_w := List.mem_filter.mpr ⟨List.mem_append_right _ (List.mem_of_getElem? (i := 85) (by decide +kernel)), rfl⟩
set_option maxRecDepth 20000 in
theorem tw_86 : Cond.instanceMethod y_S_point ∈ lw_w := List.mem_filter.mpr ⟨List.mem_append_right _ (List.mem_of_getElem? (i := 86) (by decide +kernel)), rfl⟩
set_option maxRecDepth 20000 in
theorem tw_87 : Cond.selects R_S y_S_point y_S_point ∈ lw_w := List.mem_filter.mpr ⟨List.mem_append_right _ (List.mem_of_getElem? (i := 87) (by decide +kernel)), rfl⟩
set_option maxRecDepth 20000 in
theorem tw_88 : Cond.code y_S_point b_S_point 4 (some .int) ∈ lw_w := List.mem_filter.mpr ⟨List.mem_append_right _ (List.mem_of_getElem? (i := 88) rfl), rfl⟩
set_option maxRecDepth 20000 in
theorem tw_89 : Cond.methodLink R_S 43 y_S_inReach ∈ lw_w := List.mem_filter.mpr ⟨List.mem_append_right _ (List.mem_of_getElem? (i := 89) (by decide +kernel)), rfl⟩
set_option maxRecDepth 20000 in
theorem tw_90 : Cond.static y_S_inReach ∈ lw_w := List.mem_filter.mpr ⟨List.mem_append_right _ (List.mem_of_getElem? (i := 90) (by decide +kernel)), rfl⟩
set_option maxRecDepth 20000 in
theorem tw_91 : Cond.code y_S_inReach b_S_inReach 1 (some .boolean) ∈ lw_w := List.mem_filter.mpr ⟨List.mem_append_right _ (List.mem_of_getElem? (i := 91) rfl), rfl⟩
set_option maxRecDepth 20000 in
theorem tw_92 : Cond.methodLink R_L 26 y_S_close ∈ lw_w := List.mem_filter.mpr ⟨List.mem_append_right _ (List.mem_of_getElem? (i := 92) (by decide +kernel)), rfl⟩
set_option maxRecDepth 20000 in
theorem tw_93 : Cond.instanceMethod y_S_close ∈ lw_w := List.mem_filter.mpr ⟨List.mem_append_right _ (List.mem_of_getElem? (i := 93) (by decide +kernel)), rfl⟩
set_option maxRecDepth 20000 in
theorem tw_94 : Cond.selects R_S y_S_close y_S_close ∈ lw_w := List.mem_filter.mpr ⟨List.mem_append_right _ (List.mem_of_getElem? (i := 94) (by decide +kernel)), rfl⟩
set_option maxRecDepth 20000 in
theorem tw_95 : Cond.code y_S_close b_S_close 2 (some .int) ∈ lw_w := List.mem_filter.mpr ⟨List.mem_append_right _ (List.mem_of_getElem? (i := 95) rfl), rfl⟩
set_option maxRecDepth 20000 in
theorem tw_96 : Cond.methodLink R_S 53 y_S_addArcOf ∈ lw_w := List.mem_filter.mpr ⟨List.mem_append_right _ (List.mem_of_getElem? (i := 96) (by decide +kernel)), rfl⟩
set_option maxRecDepth 20000 in
theorem tw_98 : Cond.instanceMethod y_S_addArcOf ∈ lw_w := List.mem_filter.mpr ⟨List.mem_append_right _ (List.mem_of_getElem? (i := 98) (by decide +kernel)), rfl⟩
set_option maxRecDepth 20000 in
theorem tw_99 : Cond.code y_S_addArcOf b_S_addArcOf 4 none ∈ lw_w := List.mem_filter.mpr ⟨List.mem_append_right _ (List.mem_of_getElem? (i := 99) rfl), rfl⟩
set_option maxRecDepth 20000 in
theorem tw_100 : Cond.classLink R_S 71 R_A ∈ lw_w := List.mem_filter.mpr ⟨List.mem_append_right _ (List.mem_of_getElem? (i := 100) (by decide +kernel)), rfl⟩
set_option maxRecDepth 20000 in
theorem tw_101 : Cond.instantiable R_A 6 ∈ lw_w := List.mem_filter.mpr ⟨List.mem_append_right _ (List.mem_of_getElem? (i := 101) (by decide +kernel)), rfl⟩
set_option maxRecDepth 20000 in
theorem tw_102 : Cond.methodLink R_S 89 y_S_joint ∈ lw_w := List.mem_filter.mpr ⟨List.mem_append_right _ (List.mem_of_getElem? (i := 102) (by decide +kernel)), rfl⟩
set_option maxRecDepth 20000 in
theorem tw_104 : Cond.instanceMethod y_S_joint ∈ lw_w := List.mem_filter.mpr ⟨List.mem_append_right _ (List.mem_of_getElem? (i := 104) (by decide +kernel)), rfl⟩
set_option maxRecDepth 20000 in
theorem tw_105 : Cond.code y_S_joint b_S_joint 4 (some .int) ∈ lw_w := List.mem_filter.mpr ⟨List.mem_append_right _ (List.mem_of_getElem? (i := 105) rfl), rfl⟩
set_option maxRecDepth 20000 in
theorem tw_106 : Cond.methodLink R_S 93 y_A_init ∈ lw_w := List.mem_filter.mpr ⟨List.mem_append_right _ (List.mem_of_getElem? (i := 106) (by decide +kernel)), rfl⟩
set_option maxRecDepth 20000 in
theorem tw_107 : Cond.instanceMethod y_A_init ∈ lw_w := List.mem_filter.mpr ⟨List.mem_append_right _ (List.mem_of_getElem? (i := 107) (by decide +kernel)), rfl⟩
set_option maxRecDepth 20000 in
theorem tw_108 : Cond.code y_A_init b_A_init 7 none ∈ lw_w := List.mem_filter.mpr ⟨List.mem_append_right _ (List.mem_of_getElem? (i := 108) rfl), rfl⟩
set_option maxRecDepth 20000 in
theorem tw_109 : Cond.methodLink R_A 5 objectInit ∈ lw_w := List.mem_filter.mpr ⟨List.mem_append_right _ (List.mem_of_getElem? (i := 109) (by decide +kernel)), rfl⟩
set_option maxRecDepth 20000 in
theorem tw_110 : Cond.fieldLink R_A 11 "CurveScan$Arc" "startX" "I" ∈ lw_w := List.mem_filter.mpr ⟨List.mem_append_right _ (List.mem_of_getElem? (i := 110) (by decide +kernel)), rfl⟩
set_option maxRecDepth 20000 in
theorem tw_111 : Cond.fieldLink R_A 15 "CurveScan$Arc" "startY" "I" ∈ lw_w := List.mem_filter.mpr ⟨List.mem_append_right _ (List.mem_of_getElem? (i := 111) (by decide +kernel)), rfl⟩
set_option maxRecDepth 20000 in
theorem tw_112 : Cond.fieldLink R_A 18 "CurveScan$Arc" "bendX" "I" ∈ lw_w := List.mem_filter.mpr ⟨List.mem_append_right _ (List.mem_of_getElem? (i := 112) (by decide +kernel)), rfl⟩
set_option maxRecDepth 20000 in
theorem tw_113 : Cond.fieldLink R_A 21 "CurveScan$Arc" "bendY" "I" ∈ lw_w := List.mem_filter.mpr ⟨List.mem_append_right _ (List.mem_of_getElem? (i := 113) (by decide +kernel)), rfl⟩
set_option maxRecDepth 20000 in
theorem tw_114 : Cond.fieldLink R_A 24 "CurveScan$Arc" "endX" "I" ∈ lw_w := List.mem_filter.mpr ⟨List.mem_append_right _ (List.mem_of_getElem? (i := 114) (by decide +kernel)), rfl⟩
set_option maxRecDepth 20000 in
theorem tw_115 : Cond.fieldLink R_A 27 "CurveScan$Arc" "endY" "I" ∈ lw_w := List.mem_filter.mpr ⟨List.mem_append_right _ (List.mem_of_getElem? (i := 115) (by decide +kernel)), rfl⟩
set_option maxRecDepth 20000 in
theorem tw_116 : Cond.laysFinal "CurveScan$Arc" "CurveScan$Arc" "startX" "I" ∈ lw_w := List.mem_filter.mpr ⟨List.mem_append_right _ (List.mem_of_getElem? (i := 116) (by decide +kernel)), rfl⟩
set_option maxRecDepth 20000 in
theorem tw_118 : Cond.laysFinal "CurveScan$Arc" "CurveScan$Arc" "startY" "I" ∈ lw_w := List.mem_filter.mpr ⟨List.mem_append_right _ (List.mem_of_getElem? (i := 118) (by decide +kernel)), rfl⟩
set_option maxRecDepth 20000 in
theorem tw_120 : Cond.laysFinal "CurveScan$Arc" "CurveScan$Arc" "bendX" "I" ∈ lw_w := List.mem_filter.mpr ⟨List.mem_append_right _ (List.mem_of_getElem? (i := 120) (by decide +kernel)), rfl⟩
set_option maxRecDepth 20000 in
theorem tw_122 : Cond.laysFinal "CurveScan$Arc" "CurveScan$Arc" "bendY" "I" ∈ lw_w := List.mem_filter.mpr ⟨List.mem_append_right _ (List.mem_of_getElem? (i := 122) (by decide +kernel)), rfl⟩
set_option maxRecDepth 20000 in
theorem tw_124 : Cond.laysFinal "CurveScan$Arc" "CurveScan$Arc" "endX" "I" ∈ lw_w := List.mem_filter.mpr ⟨List.mem_append_right _ (List.mem_of_getElem? (i := 124) (by decide +kernel)), rfl⟩
set_option maxRecDepth 20000 in
theorem tw_126 : Cond.laysFinal "CurveScan$Arc" "CurveScan$Arc" "endY" "I" ∈ lw_w := List.mem_filter.mpr ⟨List.mem_append_right _ (List.mem_of_getElem? (i := 126) (by decide +kernel)), rfl⟩
set_option maxRecDepth 20000 in
theorem tw_128 : Cond.superclass "CurveScan$Arc" "java/lang/Object" ∈ lw_w := List.mem_filter.mpr ⟨List.mem_append_right _ (List.mem_of_getElem? (i := 128) (by decide +kernel)), rfl⟩
set_option maxRecDepth 20000 in
theorem tw_129 : Cond.methodLink R_S 96 y_T_add1 ∈ lw_w := List.mem_filter.mpr ⟨List.mem_append_right _ (List.mem_of_getElem? (i := 129) (by decide +kernel)), rfl⟩
set_option maxRecDepth 20000 in
theorem tw_130 : Cond.instanceMethod y_T_add1 ∈ lw_w := List.mem_filter.mpr ⟨List.mem_append_right _ (List.mem_of_getElem? (i := 130) (by decide +kernel)), rfl⟩
set_option maxRecDepth 20000 in
theorem tw_131 : Cond.selects R_T y_T_add1 y_T_add1 ∈ lw_w := List.mem_filter.mpr ⟨List.mem_append_right _ (List.mem_of_getElem? (i := 131) (by decide +kernel)), rfl⟩
set_option maxRecDepth 20000 in
theorem tw_132 : Cond.code y_T_add1 b_T_add1 2 (some .boolean) ∈ lw_w := List.mem_filter.mpr ⟨List.mem_append_right _ (List.mem_of_getElem? (i := 132) rfl), rfl⟩
set_option maxRecDepth 20000 in
theorem tw_133 : Cond.methodLink R_T 131 y_T_add2 ∈ lw_w := List.mem_filter.mpr ⟨List.mem_append_right _ (List.mem_of_getElem? (i := 133) (by decide +kernel)), rfl⟩
set_option maxRecDepth 20000 in
theorem tw_135 : Cond.instanceMethod y_T_add2 ∈ lw_w := List.mem_filter.mpr ⟨List.mem_append_right _ (List.mem_of_getElem? (i := 135) (by decide +kernel)), rfl⟩
set_option maxRecDepth 20000 in
theorem tw_136 : Cond.code y_T_add2 b_T_add2 4 none ∈ lw_w := List.mem_filter.mpr ⟨List.mem_append_right _ (List.mem_of_getElem? (i := 136) rfl), rfl⟩
set_option maxRecDepth 20000 in
theorem tw_137 : Cond.methodLink R_T 129 y_T_grow1 ∈ lw_w := List.mem_filter.mpr ⟨List.mem_append_right _ (List.mem_of_getElem? (i := 137) (by decide +kernel)), rfl⟩
set_option maxRecDepth 20000 in
theorem tw_139 : Cond.instanceMethod y_T_grow1 ∈ lw_w := List.mem_filter.mpr ⟨List.mem_append_right _ (List.mem_of_getElem? (i := 139) (by decide +kernel)), rfl⟩
set_option maxRecDepth 20000 in
theorem tw_140 : Cond.code y_T_grow1 b_T_grow1 1 (some (.array (.object "java/lang/Object"))) ∈ lw_w := List.mem_filter.mpr ⟨List.mem_append_right _ (List.mem_of_getElem? (i := 140) rfl), rfl⟩
set_option maxRecDepth 20000 in
theorem tw_141 : Cond.methodLink R_T 69 y_T_grow2 ∈ lw_w := List.mem_filter.mpr ⟨List.mem_append_right _ (List.mem_of_getElem? (i := 141) (by decide +kernel)), rfl⟩
set_option maxRecDepth 20000 in
theorem tw_143 : Cond.instanceMethod y_T_grow2 ∈ lw_w := List.mem_filter.mpr ⟨List.mem_append_right _ (List.mem_of_getElem? (i := 143) (by decide +kernel)), rfl⟩
set_option maxRecDepth 20000 in
theorem tw_144 : Cond.code y_T_grow2 b_T_grow2 4 (some (.array (.object "java/lang/Object"))) ∈ lw_w := List.mem_filter.mpr ⟨List.mem_append_right _ (List.mem_of_getElem? (i := 144) rfl), rfl⟩
set_option maxRecDepth 20000 in
theorem tw_145 : Cond.methodLink R_T 73 y_P_newLength ∈ lw_w := List.mem_filter.mpr ⟨List.mem_append_right _ (List.mem_of_getElem? (i := 145) (by decide +kernel)), rfl⟩
set_option maxRecDepth 20000 in
theorem tw_146 : Cond.static y_P_newLength ∈ lw_w := List.mem_filter.mpr ⟨List.mem_append_right _ (List.mem_of_getElem? (i := 146) (by decide +kernel)), rfl⟩
set_option maxRecDepth 20000 in
theorem tw_147 : Cond.code y_P_newLength b_P_newLength 4 (some .int) ∈ lw_w := List.mem_filter.mpr ⟨List.mem_append_right _ (List.mem_of_getElem? (i := 147) rfl), rfl⟩
set_option maxRecDepth 20000 in
theorem tw_148 : Cond.methodLink R_P 194 y_H_max ∈ lw_w := List.mem_filter.mpr ⟨List.mem_append_right _ (List.mem_of_getElem? (i := 148) (by decide +kernel)), rfl⟩
set_option maxRecDepth 20000 in
theorem tw_149 : Cond.constant R_P 200 2147483639 ∈ lw_w := List.mem_filter.mpr ⟨List.mem_append_right _ (List.mem_of_getElem? (i := 149) (by decide +kernel)), rfl⟩
set_option maxRecDepth 20000 in
theorem tw_150 : Cond.methodLink R_P 201 y_P_hugeLength ∈ lw_w := List.mem_filter.mpr ⟨List.mem_append_right _ (List.mem_of_getElem? (i := 150) (by decide +kernel)), rfl⟩
set_option maxRecDepth 20000 in
theorem tw_151 : Cond.static y_P_hugeLength ∈ lw_w := List.mem_filter.mpr ⟨List.mem_append_right _ (List.mem_of_getElem? (i := 151) (by decide +kernel)), rfl⟩
set_option maxRecDepth 20000 in
theorem tw_152 : Cond.code y_P_hugeLength b_P_hugeLength 3 (some .int) ∈ lw_w := List.mem_filter.mpr ⟨List.mem_append_right _ (List.mem_of_getElem? (i := 152) rfl), rfl⟩
set_option maxRecDepth 20000 in
theorem tw_153 : Cond.methodLink R_T 66 y_Y_copyOf1 ∈ lw_w := List.mem_filter.mpr ⟨List.mem_append_right _ (List.mem_of_getElem? (i := 153) (by decide +kernel)), rfl⟩
set_option maxRecDepth 20000 in
theorem tw_154 : Cond.static y_Y_copyOf1 ∈ lw_w := List.mem_filter.mpr ⟨List.mem_append_right _ (List.mem_of_getElem? (i := 154) (by decide +kernel)), rfl⟩
set_option maxRecDepth 20000 in
theorem tw_155 : Cond.code y_Y_copyOf1 b_Y_copyOf1 2 (some (.array (.object "java/lang/Object"))) ∈ lw_w := List.mem_filter.mpr ⟨List.mem_append_right _ (List.mem_of_getElem? (i := 155) rfl), rfl⟩
set_option maxRecDepth 20000 in
theorem tw_156 : Cond.methodLink R_Y 86 ⟨"java/lang/Object", "getClass", "()Ljava/lang/Class;"⟩ ∈ lw_w := List.mem_filter.mpr ⟨List.mem_append_right _ (List.mem_of_getElem? (i := 156) (by decide +kernel)), rfl⟩
set_option maxRecDepth 20000 in
theorem tw_157 : Cond.instanceMethod ⟨"java/lang/Object", "getClass", "()Ljava/lang/Class;"⟩ ∈ lw_w := List.mem_filter.mpr ⟨List.mem_append_right _ (List.mem_of_getElem? (i := 157) (by decide +kernel)), rfl⟩
set_option maxRecDepth 20000 in
theorem tw_158 : Cond.sameMethod "java/lang/Object" "java/lang/Object" "getClass" "()Ljava/lang/Class;" ∈ lw_w := List.mem_filter.mpr ⟨List.mem_append_right _ (List.mem_of_getElem? (i := 158) (by decide +kernel)), rfl⟩
set_option maxRecDepth 20000 in
theorem tw_159 : Cond.selects R_S ⟨"java/lang/Object", "getClass", "()Ljava/lang/Class;"⟩ ⟨"java/lang/Object", "getClass", "()Ljava/lang/Class;"⟩ ∈ lw_w := List.mem_filter.mpr ⟨List.mem_append_right _ (List.mem_of_getElem? (i := 159) (by decide +kernel)), rfl⟩
set_option maxRecDepth 20000 in
theorem tw_160 : Cond.selects R_A ⟨"java/lang/Object", "getClass", "()Ljava/lang/Class;"⟩ ⟨"java/lang/Object", "getClass", "()Ljava/lang/Class;"⟩ ∈ lw_w := List.mem_filter.mpr ⟨List.mem_append_right _ (List.mem_of_getElem? (i := 160) (by decide +kernel)), rfl⟩
set_option maxRecDepth 20000 in
theorem tw_161 : Cond.selects R_M ⟨"java/lang/Object", "getClass", "()Ljava/lang/Class;"⟩ ⟨"java/lang/Object", "getClass", "()Ljava/lang/Class;"⟩ ∈ lw_w := List.mem_filter.mpr ⟨List.mem_append_right _ (List.mem_of_getElem? (i := 161) (by decide +kernel)), rfl⟩
set_option maxRecDepth 20000 in
theorem tw_162 : Cond.selects R_T ⟨"java/lang/Object", "getClass", "()Ljava/lang/Class;"⟩ ⟨"java/lang/Object", "getClass", "()Ljava/lang/Class;"⟩ ∈ lw_w := List.mem_filter.mpr ⟨List.mem_append_right _ (List.mem_of_getElem? (i := 162) (by decide +kernel)), rfl⟩
set_option maxRecDepth 20000 in
theorem tw_163 : Cond.native ⟨"java/lang/Object", "getClass", "()Ljava/lang/Class;"⟩ ∈ lw_w := List.mem_filter.mpr ⟨List.mem_append_right _ (List.mem_of_getElem? (i := 163) (by decide +kernel)), rfl⟩
set_option maxRecDepth 20000 in
theorem tw_164 : Cond.methodLink R_Y 300 y_Y_copyOf2 ∈ lw_w := List.mem_filter.mpr ⟨List.mem_append_right _ (List.mem_of_getElem? (i := 164) (by decide +kernel)), rfl⟩
set_option maxRecDepth 20000 in
theorem tw_165 : Cond.static y_Y_copyOf2 ∈ lw_w := List.mem_filter.mpr ⟨List.mem_append_right _ (List.mem_of_getElem? (i := 165) (by decide +kernel)), rfl⟩
set_option maxRecDepth 20000 in
theorem tw_166 : Cond.code y_Y_copyOf2 b_Y_copyOf2 4 (some (.array (.object "java/lang/Object"))) ∈ lw_w := List.mem_filter.mpr ⟨List.mem_append_right _ (List.mem_of_getElem? (i := 166) rfl), rfl⟩
set_option maxRecDepth 20000 in
theorem tw_167 : Cond.classLink R_Y 110 "[Ljava/lang/Object;" ∈ lw_w := List.mem_filter.mpr ⟨List.mem_append_right _ (List.mem_of_getElem? (i := 167) (by decide +kernel)), rfl⟩
set_option maxRecDepth 20000 in
theorem tw_169 : Cond.classLink R_Y 2 R_B ∈ lw_w := List.mem_filter.mpr ⟨List.mem_append_right _ (List.mem_of_getElem? (i := 169) (by decide +kernel)), rfl⟩
set_option maxRecDepth 20000 in
theorem tw_170 : Cond.methodLink R_Y 304 y_H_min ∈ lw_w := List.mem_filter.mpr ⟨List.mem_append_right _ (List.mem_of_getElem? (i := 170) (by decide +kernel)), rfl⟩
set_option maxRecDepth 20000 in
theorem tw_171 : Cond.methodLink R_Y 150 ⟨"java/lang/System", "arraycopy", "(Ljava/lang/Object;ILjava/lang/Object;II)V"⟩ ∈ lw_w := List.mem_filter.mpr ⟨List.mem_append_right _ (List.mem_of_getElem? (i := 171) (by decide +kernel)), rfl⟩
set_option maxRecDepth 20000 in
theorem tw_172 : Cond.static ⟨"java/lang/System", "arraycopy", "(Ljava/lang/Object;ILjava/lang/Object;II)V"⟩ ∈ lw_w := List.mem_filter.mpr ⟨List.mem_append_right _ (List.mem_of_getElem? (i := 172) (by decide +kernel)), rfl⟩
set_option maxRecDepth 20000 in
theorem tw_173 : Cond.native ⟨"java/lang/System", "arraycopy", "(Ljava/lang/Object;ILjava/lang/Object;II)V"⟩ ∈ lw_w := List.mem_filter.mpr ⟨List.mem_append_right _ (List.mem_of_getElem? (i := 173) (by decide +kernel)), rfl⟩
set_option maxRecDepth 20000 in
theorem tw_174 : Cond.methodLink R_T 79 y_H_max ∈ lw_w := List.mem_filter.mpr ⟨List.mem_append_right _ (List.mem_of_getElem? (i := 174) (by decide +kernel)), rfl⟩
set_option maxRecDepth 20000 in
theorem tw_175 : Cond.classLink R_T 7 R_B ∈ lw_w := List.mem_filter.mpr ⟨List.mem_append_right _ (List.mem_of_getElem? (i := 175) (by decide +kernel)), rfl⟩
set_option maxRecDepth 20000 in
theorem tw_176 : Cond.methodLink R_L 31 y_S_clear ∈ lw_w := List.mem_filter.mpr ⟨List.mem_append_right _ (List.mem_of_getElem? (i := 176) (by decide +kernel)), rfl⟩
set_option maxRecDepth 20000 in
theorem tw_177 : Cond.instanceMethod y_S_clear ∈ lw_w := List.mem_filter.mpr ⟨List.mem_append_right _ (List.mem_of_getElem? (i := 177) (by decide +kernel)), rfl⟩
set_option maxRecDepth 20000 in
theorem tw_178 : Cond.selects R_S y_S_clear y_S_clear ∈ lw_w := List.mem_filter.mpr ⟨List.mem_append_right _ (List.mem_of_getElem? (i := 178) (by decide +kernel)), rfl⟩
set_option maxRecDepth 20000 in
theorem tw_179 : Cond.code y_S_clear b_S_clear 2 (some .int) ∈ lw_w := List.mem_filter.mpr ⟨List.mem_append_right _ (List.mem_of_getElem? (i := 179) rfl), rfl⟩
set_option maxRecDepth 20000 in
theorem tw_180 : Cond.methodLink R_S 60 y_T_clear ∈ lw_w := List.mem_filter.mpr ⟨List.mem_append_right _ (List.mem_of_getElem? (i := 180) (by decide +kernel)), rfl⟩
set_option maxRecDepth 20000 in
theorem tw_181 : Cond.instanceMethod y_T_clear ∈ lw_w := List.mem_filter.mpr ⟨List.mem_append_right _ (List.mem_of_getElem? (i := 181) (by decide +kernel)), rfl⟩
set_option maxRecDepth 20000 in
theorem tw_182 : Cond.selects R_T y_T_clear y_T_clear ∈ lw_w := List.mem_filter.mpr ⟨List.mem_append_right _ (List.mem_of_getElem? (i := 182) (by decide +kernel)), rfl⟩
set_option maxRecDepth 20000 in
theorem tw_183 : Cond.code y_T_clear b_T_clear 4 none ∈ lw_w := List.mem_filter.mpr ⟨List.mem_append_right _ (List.mem_of_getElem? (i := 183) rfl), rfl⟩
set_option maxRecDepth 20000 in
theorem tw_184 : Cond.methodLink R_L 35 y_S_winding ∈ lw_w := List.mem_filter.mpr ⟨List.mem_append_right _ (List.mem_of_getElem? (i := 184) (by decide +kernel)), rfl⟩
set_option maxRecDepth 20000 in
theorem tw_185 : Cond.instanceMethod y_S_winding ∈ lw_w := List.mem_filter.mpr ⟨List.mem_append_right _ (List.mem_of_getElem? (i := 185) (by decide +kernel)), rfl⟩
set_option maxRecDepth 20000 in
theorem tw_186 : Cond.selects R_S y_S_winding y_S_winding ∈ lw_w := List.mem_filter.mpr ⟨List.mem_append_right _ (List.mem_of_getElem? (i := 186) (by decide +kernel)), rfl⟩
set_option maxRecDepth 20000 in
theorem tw_187 : Cond.code y_S_winding b_S_winding 6 (some .int) ∈ lw_w := List.mem_filter.mpr ⟨List.mem_append_right _ (List.mem_of_getElem? (i := 187) rfl), rfl⟩
set_option maxRecDepth 20000 in
theorem tw_188 : Cond.methodLink R_S 63 y_T_size ∈ lw_w := List.mem_filter.mpr ⟨List.mem_append_right _ (List.mem_of_getElem? (i := 188) (by decide +kernel)), rfl⟩
set_option maxRecDepth 20000 in
theorem tw_189 : Cond.instanceMethod y_T_size ∈ lw_w := List.mem_filter.mpr ⟨List.mem_append_right _ (List.mem_of_getElem? (i := 189) (by decide +kernel)), rfl⟩
set_option maxRecDepth 20000 in
theorem tw_190 : Cond.selects R_T y_T_size y_T_size ∈ lw_w := List.mem_filter.mpr ⟨List.mem_append_right _ (List.mem_of_getElem? (i := 190) (by decide +kernel)), rfl⟩
set_option maxRecDepth 20000 in
theorem tw_191 : Cond.code y_T_size b_T_size 1 (some .int) ∈ lw_w := List.mem_filter.mpr ⟨List.mem_append_right _ (List.mem_of_getElem? (i := 191) rfl), rfl⟩
set_option maxRecDepth 20000 in
theorem tw_192 : Cond.methodLink R_S 67 y_T_get ∈ lw_w := List.mem_filter.mpr ⟨List.mem_append_right _ (List.mem_of_getElem? (i := 192) (by decide +kernel)), rfl⟩
set_option maxRecDepth 20000 in
theorem tw_193 : Cond.instanceMethod y_T_get ∈ lw_w := List.mem_filter.mpr ⟨List.mem_append_right _ (List.mem_of_getElem? (i := 193) (by decide +kernel)), rfl⟩
set_option maxRecDepth 20000 in
theorem tw_194 : Cond.selects R_T y_T_get y_T_get ∈ lw_w := List.mem_filter.mpr ⟨List.mem_append_right _ (List.mem_of_getElem? (i := 194) (by decide +kernel)), rfl⟩
set_option maxRecDepth 20000 in
theorem tw_195 : Cond.code y_T_get b_T_get 2 (some (.object "java/lang/Object")) ∈ lw_w := List.mem_filter.mpr ⟨List.mem_append_right _ (List.mem_of_getElem? (i := 195) rfl), rfl⟩
set_option maxRecDepth 20000 in
theorem tw_196 : Cond.methodLink R_T 118 y_O_checkIndex ∈ lw_w := List.mem_filter.mpr ⟨List.mem_append_right _ (List.mem_of_getElem? (i := 196) (by decide +kernel)), rfl⟩
set_option maxRecDepth 20000 in
theorem tw_197 : Cond.static y_O_checkIndex ∈ lw_w := List.mem_filter.mpr ⟨List.mem_append_right _ (List.mem_of_getElem? (i := 197) (by decide +kernel)), rfl⟩
set_option maxRecDepth 20000 in
theorem tw_198 : Cond.code y_O_checkIndex b_O_checkIndex 2 (some .int) ∈ lw_w := List.mem_filter.mpr ⟨List.mem_append_right _ (List.mem_of_getElem? (i := 198) rfl), rfl⟩
set_option maxRecDepth 20000 in
theorem tw_199 : Cond.methodLink R_O 105 y_Q_checkIndex ∈ lw_w := List.mem_filter.mpr ⟨List.mem_append_right _ (List.mem_of_getElem? (i := 199) (by decide +kernel)), rfl⟩
set_option maxRecDepth 20000 in
theorem tw_200 : Cond.static y_Q_checkIndex ∈ lw_w := List.mem_filter.mpr ⟨List.mem_append_right _ (List.mem_of_getElem? (i := 200) (by decide +kernel)), rfl⟩
set_option maxRecDepth 20000 in
theorem tw_201 : Cond.code y_Q_checkIndex b_Q_checkIndex 3 (some .int) ∈ lw_w := List.mem_filter.mpr ⟨List.mem_append_right _ (List.mem_of_getElem? (i := 201) rfl), rfl⟩
set_option maxRecDepth 20000 in
theorem tw_202 : Cond.methodLink R_T 123 y_T_elementData ∈ lw_w := List.mem_filter.mpr ⟨List.mem_append_right _ (List.mem_of_getElem? (i := 202) (by decide +kernel)), rfl⟩
set_option maxRecDepth 20000 in
theorem tw_203 : Cond.instanceMethod y_T_elementData ∈ lw_w := List.mem_filter.mpr ⟨List.mem_append_right _ (List.mem_of_getElem? (i := 203) (by decide +kernel)), rfl⟩
set_option maxRecDepth 20000 in
theorem tw_204 : Cond.selects R_T y_T_elementData y_T_elementData ∈ lw_w := List.mem_filter.mpr ⟨List.mem_append_right _ (List.mem_of_getElem? (i := 204) (by decide +kernel)), rfl⟩
set_option maxRecDepth 20000 in
theorem tw_205 : Cond.code y_T_elementData b_T_elementData 2 (some (.object "java/lang/Object")) ∈ lw_w := List.mem_filter.mpr ⟨List.mem_append_right _ (List.mem_of_getElem? (i := 205) rfl), rfl⟩
set_option maxRecDepth 20000 in
theorem tw_206 : Cond.methodLink R_S 73 y_A_turnsAround ∈ lw_w := List.mem_filter.mpr ⟨List.mem_append_right _ (List.mem_of_getElem? (i := 206) (by decide +kernel)), rfl⟩
set_option maxRecDepth 20000 in
theorem tw_207 : Cond.instanceMethod y_A_turnsAround ∈ lw_w := List.mem_filter.mpr ⟨List.mem_append_right _ (List.mem_of_getElem? (i := 207) (by decide +kernel)), rfl⟩
set_option maxRecDepth 20000 in
theorem tw_208 : Cond.selects R_A y_A_turnsAround y_A_turnsAround ∈ lw_w := List.mem_filter.mpr ⟨List.mem_append_right _ (List.mem_of_getElem? (i := 208) (by decide +kernel)), rfl⟩
set_option maxRecDepth 20000 in
theorem tw_209 : Cond.code y_A_turnsAround b_A_turnsAround 13 (some .int) ∈ lw_w := List.mem_filter.mpr ⟨List.mem_append_right _ (List.mem_of_getElem? (i := 209) rfl), rfl⟩
set_option maxRecDepth 20000 in
theorem tw_210 : Cond.methodLink R_A 39 y_A_mayMeetHeight ∈ lw_w := List.mem_filter.mpr ⟨List.mem_append_right _ (List.mem_of_getElem? (i := 210) (by decide +kernel)), rfl⟩
set_option maxRecDepth 20000 in
theorem tw_211 : Cond.instanceMethod y_A_mayMeetHeight ∈ lw_w := List.mem_filter.mpr ⟨List.mem_append_right _ (List.mem_of_getElem? (i := 211) (by decide +kernel)), rfl⟩
set_option maxRecDepth 20000 in
theorem tw_212 : Cond.selects R_A y_A_mayMeetHeight y_A_mayMeetHeight ∈ lw_w := List.mem_filter.mpr ⟨List.mem_append_right _ (List.mem_of_getElem? (i := 212) (by decide +kernel)), rfl⟩
set_option maxRecDepth 20000 in
theorem tw_213 : Cond.code y_A_mayMeetHeight b_A_mayMeetHeight 2 (some .boolean) ∈ lw_w := List.mem_filter.mpr ⟨List.mem_append_right _ (List.mem_of_getElem? (i := 213) rfl), rfl⟩
set_option maxRecDepth 20000 in
theorem tw_214 : Cond.methodLink R_A 30 y_H_min ∈ lw_w := List.mem_filter.mpr ⟨List.mem_append_right _ (List.mem_of_getElem? (i := 214) (by decide +kernel)), rfl⟩
set_option maxRecDepth 20000 in
theorem tw_215 : Cond.methodLink R_A 36 y_H_max ∈ lw_w := List.mem_filter.mpr ⟨List.mem_append_right _ (List.mem_of_getElem? (i := 215) (by decide +kernel)), rfl⟩
set_option maxRecDepth 20000 in
theorem tw_216 : Cond.methodLink R_A 43 y_A_turn ∈ lw_w := List.mem_filter.mpr ⟨List.mem_append_right _ (List.mem_of_getElem? (i := 216) (by decide +kernel)), rfl⟩
set_option maxRecDepth 20000 in
theorem tw_217 : Cond.static y_A_turn ∈ lw_w := List.mem_filter.mpr ⟨List.mem_append_right _ (List.mem_of_getElem? (i := 217) (by decide +kernel)), rfl⟩
set_option maxRecDepth 20000 in
theorem tw_218 : Cond.code y_A_turn b_A_turn 8 (some .long) ∈ lw_w := List.mem_filter.mpr ⟨List.mem_append_right _ (List.mem_of_getElem? (i := 218) rfl), rfl⟩
set_option maxRecDepth 20000 in
theorem tw_219 : Cond.methodLink R_A 47 y_J_compare ∈ lw_w := List.mem_filter.mpr ⟨List.mem_append_right _ (List.mem_of_getElem? (i := 219) (by decide +kernel)), rfl⟩
set_option maxRecDepth 20000 in
theorem tw_220 : Cond.static y_J_compare ∈ lw_w := List.mem_filter.mpr ⟨List.mem_append_right _ (List.mem_of_getElem? (i := 220) (by decide +kernel)), rfl⟩
set_option maxRecDepth 20000 in
theorem tw_221 : Cond.code y_J_compare b_J_compare 4 (some .int) ∈ lw_w := List.mem_filter.mpr ⟨List.mem_append_right _ (List.mem_of_getElem? (i := 221) rfl), rfl⟩
set_option maxRecDepth 20000 in
theorem tw_222 : Cond.methodLink R_A 53 y_A_sideOfChord ∈ lw_w := List.mem_filter.mpr ⟨List.mem_append_right _ (List.mem_of_getElem? (i := 222) (by decide +kernel)), rfl⟩
set_option maxRecDepth 20000 in
theorem tw_224 : Cond.instanceMethod y_A_sideOfChord ∈ lw_w := List.mem_filter.mpr ⟨List.mem_append_right _ (List.mem_of_getElem? (i := 224) (by decide +kernel)), rfl⟩
set_option maxRecDepth 20000 in
theorem tw_225 : Cond.code y_A_sideOfChord b_A_sideOfChord 3 (some .int) ∈ lw_w := List.mem_filter.mpr ⟨List.mem_append_right _ (List.mem_of_getElem? (i := 225) rfl), rfl⟩
set_option maxRecDepth 20000 in
theorem tw_226 : Cond.methodLink R_A 74 y_I_compare ∈ lw_w := List.mem_filter.mpr ⟨List.mem_append_right _ (List.mem_of_getElem? (i := 226) (by decide +kernel)), rfl⟩
set_option maxRecDepth 20000 in
theorem tw_227 : Cond.static y_I_compare ∈ lw_w := List.mem_filter.mpr ⟨List.mem_append_right _ (List.mem_of_getElem? (i := 227) (by decide +kernel)), rfl⟩
set_option maxRecDepth 20000 in
theorem tw_228 : Cond.code y_I_compare b_I_compare 2 (some .int) ∈ lw_w := List.mem_filter.mpr ⟨List.mem_append_right _ (List.mem_of_getElem? (i := 228) rfl), rfl⟩
set_option maxRecDepth 20000 in
theorem tw_229 : Cond.methodLink R_A 57 y_A_chordShare ∈ lw_w := List.mem_filter.mpr ⟨List.mem_append_right _ (List.mem_of_getElem? (i := 229) (by decide +kernel)), rfl⟩
set_option maxRecDepth 20000 in
theorem tw_231 : Cond.instanceMethod y_A_chordShare ∈ lw_w := List.mem_filter.mpr ⟨List.mem_append_right _ (List.mem_of_getElem? (i := 231) (by decide +kernel)), rfl⟩
set_option maxRecDepth 20000 in
theorem tw_232 : Cond.code y_A_chordShare b_A_chordShare 5 (some .int) ∈ lw_w := List.mem_filter.mpr ⟨List.mem_append_right _ (List.mem_of_getElem? (i := 232) rfl), rfl⟩
set_option maxRecDepth 20000 in
theorem tw_233 : Cond.methodLink R_A 60 y_A_onStraightArc ∈ lw_w := List.mem_filter.mpr ⟨List.mem_append_right _ (List.mem_of_getElem? (i := 233) (by decide +kernel)), rfl⟩
set_option maxRecDepth 20000 in
theorem tw_235 : Cond.instanceMethod y_A_onStraightArc ∈ lw_w := List.mem_filter.mpr ⟨List.mem_append_right _ (List.mem_of_getElem? (i := 235) (by decide +kernel)), rfl⟩
set_option maxRecDepth 20000 in
theorem tw_236 : Cond.code y_A_onStraightArc b_A_onStraightArc 3 (some .boolean) ∈ lw_w := List.mem_filter.mpr ⟨List.mem_append_right _ (List.mem_of_getElem? (i := 236) rfl), rfl⟩
set_option maxRecDepth 20000 in
theorem tw_237 : Cond.methodLink R_A 78 y_A_reachesZero ∈ lw_w := List.mem_filter.mpr ⟨List.mem_append_right _ (List.mem_of_getElem? (i := 237) (by decide +kernel)), rfl⟩
set_option maxRecDepth 20000 in
theorem tw_238 : Cond.static y_A_reachesZero ∈ lw_w := List.mem_filter.mpr ⟨List.mem_append_right _ (List.mem_of_getElem? (i := 238) (by decide +kernel)), rfl⟩
set_option maxRecDepth 20000 in
theorem tw_239 : Cond.code y_A_reachesZero b_A_reachesZero 7 (some .boolean) ∈ lw_w := List.mem_filter.mpr ⟨List.mem_append_right _ (List.mem_of_getElem? (i := 239) rfl), rfl⟩
set_option maxRecDepth 20000 in
theorem tw_240 : Cond.methodLink R_A 64 y_H_abs ∈ lw_w := List.mem_filter.mpr ⟨List.mem_append_right _ (List.mem_of_getElem? (i := 240) (by decide +kernel)), rfl⟩
set_option maxRecDepth 20000 in
theorem tw_241 : Cond.static y_H_abs ∈ lw_w := List.mem_filter.mpr ⟨List.mem_append_right _ (List.mem_of_getElem? (i := 241) (by decide +kernel)), rfl⟩
set_option maxRecDepth 20000 in
theorem tw_242 : Cond.code y_H_abs b_H_abs 2 (some .long) ∈ lw_w := List.mem_filter.mpr ⟨List.mem_append_right _ (List.mem_of_getElem? (i := 242) rfl), rfl⟩
set_option maxRecDepth 20000 in
theorem tw_243 : Cond.constantLong R_A 68 4 ∈ lw_w := List.mem_filter.mpr ⟨List.mem_append_right _ (List.mem_of_getElem? (i := 243) (by decide +kernel)), rfl⟩
set_option maxRecDepth 20000 in
theorem tw_244 : Cond.methodLink R_A 70 y_A_compareProducts ∈ lw_w := List.mem_filter.mpr ⟨List.mem_append_right _ (List.mem_of_getElem? (i := 244) (by decide +kernel)), rfl⟩
set_option maxRecDepth 20000 in
theorem tw_245 : Cond.static y_A_compareProducts ∈ lw_w := List.mem_filter.mpr ⟨List.mem_append_right _ (List.mem_of_getElem? (i := 245) (by decide +kernel)), rfl⟩
set_option maxRecDepth 20000 in
theorem tw_246 : Cond.code y_A_compareProducts b_A_compareProducts 9 (some .int) ∈ lw_w := List.mem_filter.mpr ⟨List.mem_append_right _ (List.mem_of_getElem? (i := 246) rfl), rfl⟩
set_option maxRecDepth 20000 in
theorem tw_247 : Cond.methodLink R_A 82 y_A_highPart ∈ lw_w := List.mem_filter.mpr ⟨List.mem_append_right _ (List.mem_of_getElem? (i := 247) (by decide +kernel)), rfl⟩
set_option maxRecDepth 20000 in
theorem tw_248 : Cond.static y_A_highPart ∈ lw_w := List.mem_filter.mpr ⟨List.mem_append_right _ (List.mem_of_getElem? (i := 248) (by decide +kernel)), rfl⟩
set_option maxRecDepth 20000 in
theorem tw_249 : Cond.code y_A_highPart b_A_highPart 4 (some .long) ∈ lw_w := List.mem_filter.mpr ⟨List.mem_append_right _ (List.mem_of_getElem? (i := 249) rfl), rfl⟩
set_option maxRecDepth 20000 in
theorem tw_250 : Cond.constantLong R_A 89 1048575 ∈ lw_w := List.mem_filter.mpr ⟨List.mem_append_right _ (List.mem_of_getElem? (i := 250) (by decide +kernel)), rfl⟩
set_option maxRecDepth 20000 in
theorem tw_251 : Cond.methodLink R_A 86 y_A_lowPart ∈ lw_w := List.mem_filter.mpr ⟨List.mem_append_right _ (List.mem_of_getElem? (i := 251) (by decide +kernel)), rfl⟩
set_option maxRecDepth 20000 in
theorem tw_252 : Cond.static y_A_lowPart ∈ lw_w := List.mem_filter.mpr ⟨List.mem_append_right _ (List.mem_of_getElem? (i := 252) (by decide +kernel)), rfl⟩
set_option maxRecDepth 20000 in
theorem tw_253 : Cond.code y_A_lowPart b_A_lowPart 4 (some .long) ∈ lw_w := List.mem_filter.mpr ⟨List.mem_append_right _ (List.mem_of_getElem? (i := 253) rfl), rfl⟩
set_option maxRecDepth 20000 in
theorem tw_254 : Cond.methodLink R_L 40 y_S_row ∈ lw_w := List.mem_filter.mpr ⟨List.mem_append_right _ (List.mem_of_getElem? (i := 254) (by decide +kernel)), rfl⟩
set_option maxRecDepth 20000 in
theorem tw_255 : Cond.instanceMethod y_S_row ∈ lw_w := List.mem_filter.mpr ⟨List.mem_append_right _ (List.mem_of_getElem? (i := 255) (by decide +kernel)), rfl⟩
set_option maxRecDepth 20000 in
theorem tw_256 : Cond.selects R_S y_S_row y_S_row ∈ lw_w := List.mem_filter.mpr ⟨List.mem_append_right _ (List.mem_of_getElem? (i := 256) (by decide +kernel)), rfl⟩
set_option maxRecDepth 20000 in
theorem tw_257 : Cond.code y_S_row b_S_row 7 (some .long) ∈ lw_w := List.mem_filter.mpr ⟨List.mem_append_right _ (List.mem_of_getElem? (i := 257) rfl), rfl⟩
set_option maxRecDepth 20000 in
theorem tw_258 : Cond.methodLink R_S 76 y_Y_fill ∈ lw_w := List.mem_filter.mpr ⟨List.mem_append_right _ (List.mem_of_getElem? (i := 258) (by decide +kernel)), rfl⟩
set_option maxRecDepth 20000 in
theorem tw_259 : Cond.static y_Y_fill ∈ lw_w := List.mem_filter.mpr ⟨List.mem_append_right _ (List.mem_of_getElem? (i := 259) (by decide +kernel)), rfl⟩
set_option maxRecDepth 20000 in
theorem tw_260 : Cond.code y_Y_fill b_Y_fill 4 none ∈ lw_w := List.mem_filter.mpr ⟨List.mem_append_right _ (List.mem_of_getElem? (i := 260) rfl), rfl⟩
set_option maxRecDepth 20000 in
theorem tw_261 : Cond.methodLink R_S 82 y_A_mayMeetHeight ∈ lw_w := List.mem_filter.mpr ⟨List.mem_append_right _ (List.mem_of_getElem? (i := 261) (by decide +kernel)), rfl⟩
set_option maxRecDepth 20000 in
theorem tw_262 : Cond.methodLink R_S 85 y_S_addRowTurns ∈ lw_w := List.mem_filter.mpr ⟨List.mem_append_right _ (List.mem_of_getElem? (i := 262) (by decide +kernel)), rfl⟩
set_option maxRecDepth 20000 in
theorem tw_264 : Cond.instanceMethod y_S_addRowTurns ∈ lw_w := List.mem_filter.mpr ⟨List.mem_append_right _ (List.mem_of_getElem? (i := 264) (by decide +kernel)), rfl⟩
set_option maxRecDepth 20000 in
theorem tw_265 : Cond.code y_S_addRowTurns b_S_addRowTurns 7 (some .long) ∈ lw_w := List.mem_filter.mpr ⟨List.mem_append_right _ (List.mem_of_getElem? (i := 265) rfl), rfl⟩
set_option maxRecDepth 20000 in
theorem tw_266 : Cond.methodLink R_L 45 y_S_count ∈ lw_w := List.mem_filter.mpr ⟨List.mem_append_right _ (List.mem_of_getElem? (i := 266) (by decide +kernel)), rfl⟩
set_option maxRecDepth 20000 in
theorem tw_267 : Cond.instanceMethod y_S_count ∈ lw_w := List.mem_filter.mpr ⟨List.mem_append_right _ (List.mem_of_getElem? (i := 267) (by decide +kernel)), rfl⟩
set_option maxRecDepth 20000 in
theorem tw_268 : Cond.selects R_S y_S_count y_S_count ∈ lw_w := List.mem_filter.mpr ⟨List.mem_append_right _ (List.mem_of_getElem? (i := 268) (by decide +kernel)), rfl⟩
set_option maxRecDepth 20000 in
theorem tw_269 : Cond.code y_S_count b_S_count 2 (some .int) ∈ lw_w := List.mem_filter.mpr ⟨List.mem_append_right _ (List.mem_of_getElem? (i := 269) rfl), rfl⟩
set_option maxRecDepth 20000 in
theorem tw_270 : Cond.methodLink R_L 9 y_L_cell ∈ lw_w := List.mem_filter.mpr ⟨List.mem_append_right _ (List.mem_of_getElem? (i := 270) (by decide +kernel)), rfl⟩
set_option maxRecDepth 20000 in
theorem tw_271 : Cond.static y_L_cell ∈ lw_w := List.mem_filter.mpr ⟨List.mem_append_right _ (List.mem_of_getElem? (i := 271) (by decide +kernel)), rfl⟩
set_option maxRecDepth 20000 in
theorem tw_272 : Cond.code y_L_cell b_L_cell 2 (some .int) ∈ lw_w := List.mem_filter.mpr ⟨List.mem_append_right _ (List.mem_of_getElem? (i := 272) rfl), rfl⟩
set_option maxRecDepth 20000 in
theorem tw_273 : Cond.classLink R_L 18 R_M ∈ lw_w := List.mem_filter.mpr ⟨List.mem_append_right _ (List.mem_of_getElem? (i := 273) (by decide +kernel)), rfl⟩
set_option maxRecDepth 20000 in
theorem tw_274 : Cond.instantiable R_M 11 ∈ lw_w := List.mem_filter.mpr ⟨List.mem_append_right _ (List.mem_of_getElem? (i := 274) (by decide +kernel)), rfl⟩
set_option maxRecDepth 20000 in
theorem tw_275 : Cond.methodLink R_L 20 y_M_init ∈ lw_w := List.mem_filter.mpr ⟨List.mem_append_right _ (List.mem_of_getElem? (i := 275) (by decide +kernel)), rfl⟩
set_option maxRecDepth 20000 in
theorem tw_276 : Cond.instanceMethod y_M_init ∈ lw_w := List.mem_filter.mpr ⟨List.mem_append_right _ (List.mem_of_getElem? (i := 276) (by decide +kernel)), rfl⟩
set_option maxRecDepth 20000 in
theorem tw_277 : Cond.code y_M_init b_M_init 2 none ∈ lw_w := List.mem_filter.mpr ⟨List.mem_append_right _ (List.mem_of_getElem? (i := 277) rfl), rfl⟩
set_option maxRecDepth 20000 in
theorem tw_278 : Cond.methodLink R_M 1 objectInit ∈ lw_w := List.mem_filter.mpr ⟨List.mem_append_right _ (List.mem_of_getElem? (i := 278) (by decide +kernel)), rfl⟩
set_option maxRecDepth 20000 in
theorem tw_279 : Cond.fieldLink R_M 30 "CurveScanModel" "width" "I" ∈ lw_w := List.mem_filter.mpr ⟨List.mem_append_right _ (List.mem_of_getElem? (i := 279) (by decide +kernel)), rfl⟩
set_option maxRecDepth 20000 in
theorem tw_280 : Cond.fieldLink R_M 9 "CurveScanModel" "px" "[J" ∈ lw_w := List.mem_filter.mpr ⟨List.mem_append_right _ (List.mem_of_getElem? (i := 280) (by decide +kernel)), rfl⟩
set_option maxRecDepth 20000 in
theorem tw_281 : Cond.fieldLink R_M 13 "CurveScanModel" "py" "[J" ∈ lw_w := List.mem_filter.mpr ⟨List.mem_append_right _ (List.mem_of_getElem? (i := 281) (by decide +kernel)), rfl⟩
set_option maxRecDepth 20000 in
theorem tw_282 : Cond.fieldLink R_M 16 "CurveScanModel" "on" "[Z" ∈ lw_w := List.mem_filter.mpr ⟨List.mem_append_right _ (List.mem_of_getElem? (i := 282) (by decide +kernel)), rfl⟩
set_option maxRecDepth 20000 in
theorem tw_283 : Cond.fieldLink R_M 20 "CurveScanModel" "ends" "[I" ∈ lw_w := List.mem_filter.mpr ⟨List.mem_append_right _ (List.mem_of_getElem? (i := 283) (by decide +kernel)), rfl⟩
set_option maxRecDepth 20000 in
theorem tw_284 : Cond.fieldLink R_M 89 "CurveScanModel" "contours" "I" ∈ lw_w := List.mem_filter.mpr ⟨List.mem_append_right _ (List.mem_of_getElem? (i := 284) (by decide +kernel)), rfl⟩
set_option maxRecDepth 20000 in
theorem tw_285 : Cond.fieldLink R_M 96 "CurveScanModel" "points" "I" ∈ lw_w := List.mem_filter.mpr ⟨List.mem_append_right _ (List.mem_of_getElem? (i := 285) (by decide +kernel)), rfl⟩
set_option maxRecDepth 20000 in
theorem tw_286 : Cond.fieldLink R_M 52 "CurveScanModel" "touches" "Z" ∈ lw_w := List.mem_filter.mpr ⟨List.mem_append_right _ (List.mem_of_getElem? (i := 286) (by decide +kernel)), rfl⟩
set_option maxRecDepth 20000 in
theorem tw_287 : Cond.fieldLink R_M 56 "CurveScanModel" "turns" "I" ∈ lw_w := List.mem_filter.mpr ⟨List.mem_append_right _ (List.mem_of_getElem? (i := 287) (by decide +kernel)), rfl⟩
set_option maxRecDepth 20000 in
theorem tw_288 : Cond.fieldLink R_M 24 "CurveScanModel" "first" "[J" ∈ lw_w := List.mem_filter.mpr ⟨List.mem_append_right _ (List.mem_of_getElem? (i := 288) (by decide +kernel)), rfl⟩
set_option maxRecDepth 20000 in
theorem tw_289 : Cond.fieldLink R_M 27 "CurveScanModel" "second" "[J" ∈ lw_w := List.mem_filter.mpr ⟨List.mem_append_right _ (List.mem_of_getElem? (i := 289) (by decide +kernel)), rfl⟩
set_option maxRecDepth 20000 in
theorem tw_290 : Cond.laysFinal "CurveScanModel" "CurveScanModel" "width" "I" ∈ lw_w := List.mem_filter.mpr ⟨List.mem_append_right _ (List.mem_of_getElem? (i := 290) (by decide +kernel)), rfl⟩
set_option maxRecDepth 20000 in
theorem tw_292 : Cond.laysFinal "CurveScanModel" "CurveScanModel" "px" "[J" ∈ lw_w := List.mem_filter.mpr ⟨List.mem_append_right _ (List.mem_of_getElem? (i := 292) (by decide +kernel)), rfl⟩
set_option maxRecDepth 20000 in
theorem tw_294 : Cond.laysFinal "CurveScanModel" "CurveScanModel" "py" "[J" ∈ lw_w := List.mem_filter.mpr ⟨List.mem_append_right _ (List.mem_of_getElem? (i := 294) (by decide +kernel)), rfl⟩
set_option maxRecDepth 20000 in
theorem tw_296 : Cond.laysFinal "CurveScanModel" "CurveScanModel" "on" "[Z" ∈ lw_w := List.mem_filter.mpr ⟨List.mem_append_right _ (List.mem_of_getElem? (i := 296) (by decide +kernel)), rfl⟩
set_option maxRecDepth 20000 in
theorem tw_298 : Cond.laysFinal "CurveScanModel" "CurveScanModel" "ends" "[I" ∈ lw_w := List.mem_filter.mpr ⟨List.mem_append_right _ (List.mem_of_getElem? (i := 298) (by decide +kernel)), rfl⟩
set_option maxRecDepth 20000 in
theorem tw_300 : Cond.lays "CurveScanModel" "CurveScanModel" "contours" "I" ∈ lw_w := List.mem_filter.mpr ⟨List.mem_append_right _ (List.mem_of_getElem? (i := 300) (by decide +kernel)), rfl⟩
set_option maxRecDepth 20000 in
theorem tw_302 : Cond.lays "CurveScanModel" "CurveScanModel" "points" "I" ∈ lw_w := List.mem_filter.mpr ⟨List.mem_append_right _ (List.mem_of_getElem? (i := 302) (by decide +kernel)), rfl⟩
set_option maxRecDepth 20000 in
theorem tw_304 : Cond.lays "CurveScanModel" "CurveScanModel" "touches" "Z" ∈ lw_w := List.mem_filter.mpr ⟨List.mem_append_right _ (List.mem_of_getElem? (i := 304) (by decide +kernel)), rfl⟩
set_option maxRecDepth 20000 in
theorem tw_306 : Cond.lays "CurveScanModel" "CurveScanModel" "turns" "I" ∈ lw_w := List.mem_filter.mpr ⟨List.mem_append_right _ (List.mem_of_getElem? (i := 306) (by decide +kernel)), rfl⟩
set_option maxRecDepth 20000 in
theorem tw_308 : Cond.laysFinal "CurveScanModel" "CurveScanModel" "first" "[J" ∈ lw_w := List.mem_filter.mpr ⟨List.mem_append_right _ (List.mem_of_getElem? (i := 308) (by decide +kernel)), rfl⟩
set_option maxRecDepth 20000 in
theorem tw_310 : Cond.laysFinal "CurveScanModel" "CurveScanModel" "second" "[J" ∈ lw_w := List.mem_filter.mpr ⟨List.mem_append_right _ (List.mem_of_getElem? (i := 310) (by decide +kernel)), rfl⟩
set_option maxRecDepth 20000 in
theorem tw_312 : Cond.superclass "CurveScanModel" "java/lang/Object" ∈ lw_w := List.mem_filter.mpr ⟨List.mem_append_right _ (List.mem_of_getElem? (i := 312) (by decide +kernel)), rfl⟩
set_option maxRecDepth 20000 in
theorem tw_313 : Cond.arrayClass .long ∈ lw_w := List.mem_filter.mpr ⟨List.mem_append_right _ (List.mem_of_getElem? (i := 313) (by decide +kernel)), rfl⟩
set_option maxRecDepth 20000 in
theorem tw_314 : Cond.methodLink R_L 25 y_M_point ∈ lw_w := List.mem_filter.mpr ⟨List.mem_append_right _ (List.mem_of_getElem? (i := 314) (by decide +kernel)), rfl⟩
set_option maxRecDepth 20000 in
theorem tw_315 : Cond.instanceMethod y_M_point ∈ lw_w := List.mem_filter.mpr ⟨List.mem_append_right _ (List.mem_of_getElem? (i := 315) (by decide +kernel)), rfl⟩
set_option maxRecDepth 20000 in
theorem tw_316 : Cond.selects R_M y_M_point y_M_point ∈ lw_w := List.mem_filter.mpr ⟨List.mem_append_right _ (List.mem_of_getElem? (i := 316) (by decide +kernel)), rfl⟩
set_option maxRecDepth 20000 in
theorem tw_317 : Cond.code y_M_point b_M_point 4 (some .int) ∈ lw_w := List.mem_filter.mpr ⟨List.mem_append_right _ (List.mem_of_getElem? (i := 317) rfl), rfl⟩
set_option maxRecDepth 20000 in
theorem tw_318 : Cond.methodLink R_M 92 y_M_far ∈ lw_w := List.mem_filter.mpr ⟨List.mem_append_right _ (List.mem_of_getElem? (i := 318) (by decide +kernel)), rfl⟩
set_option maxRecDepth 20000 in
theorem tw_319 : Cond.static y_M_far ∈ lw_w := List.mem_filter.mpr ⟨List.mem_append_right _ (List.mem_of_getElem? (i := 319) (by decide +kernel)), rfl⟩
set_option maxRecDepth 20000 in
theorem tw_320 : Cond.code y_M_far b_M_far 1 (some .boolean) ∈ lw_w := List.mem_filter.mpr ⟨List.mem_append_right _ (List.mem_of_getElem? (i := 320) rfl), rfl⟩
set_option maxRecDepth 20000 in
theorem tw_321 : Cond.constantLong R_M 76 2 ∈ lw_w := List.mem_filter.mpr ⟨List.mem_append_right _ (List.mem_of_getElem? (i := 321) (by decide +kernel)), rfl⟩
set_option maxRecDepth 20000 in
theorem tw_322 : Cond.methodLink R_M 99 y_M_begun ∈ lw_w := List.mem_filter.mpr ⟨List.mem_append_right _ (List.mem_of_getElem? (i := 322) (by decide +kernel)), rfl⟩
set_option maxRecDepth 20000 in
theorem tw_324 : Cond.instanceMethod y_M_begun ∈ lw_w := List.mem_filter.mpr ⟨List.mem_append_right _ (List.mem_of_getElem? (i := 324) (by decide +kernel)), rfl⟩
set_option maxRecDepth 20000 in
theorem tw_325 : Cond.code y_M_begun b_M_begun 1 (some .int) ∈ lw_w := List.mem_filter.mpr ⟨List.mem_append_right _ (List.mem_of_getElem? (i := 325) rfl), rfl⟩
set_option maxRecDepth 20000 in
theorem tw_326 : Cond.methodLink R_L 30 y_M_close ∈ lw_w := List.mem_filter.mpr ⟨List.mem_append_right _ (List.mem_of_getElem? (i := 326) (by decide +kernel)), rfl⟩
set_option maxRecDepth 20000 in
theorem tw_327 : Cond.instanceMethod y_M_close ∈ lw_w := List.mem_filter.mpr ⟨List.mem_append_right _ (List.mem_of_getElem? (i := 327) (by decide +kernel)), rfl⟩
set_option maxRecDepth 20000 in
theorem tw_328 : Cond.selects R_M y_M_close y_M_close ∈ lw_w := List.mem_filter.mpr ⟨List.mem_append_right _ (List.mem_of_getElem? (i := 328) (by decide +kernel)), rfl⟩
set_option maxRecDepth 20000 in
theorem tw_329 : Cond.code y_M_close b_M_close 1 (some .int) ∈ lw_w := List.mem_filter.mpr ⟨List.mem_append_right _ (List.mem_of_getElem? (i := 329) rfl), rfl⟩
set_option maxRecDepth 20000 in
theorem tw_330 : Cond.methodLink R_L 34 y_M_clear ∈ lw_w := List.mem_filter.mpr ⟨List.mem_append_right _ (List.mem_of_getElem? (i := 330) (by decide +kernel)), rfl⟩
set_option maxRecDepth 20000 in
theorem tw_331 : Cond.instanceMethod y_M_clear ∈ lw_w := List.mem_filter.mpr ⟨List.mem_append_right _ (List.mem_of_getElem? (i := 331) (by decide +kernel)), rfl⟩
set_option maxRecDepth 20000 in
theorem tw_332 : Cond.selects R_M y_M_clear y_M_clear ∈ lw_w := List.mem_filter.mpr ⟨List.mem_append_right _ (List.mem_of_getElem? (i := 332) (by decide +kernel)), rfl⟩
set_option maxRecDepth 20000 in
theorem tw_333 : Cond.code y_M_clear b_M_clear 2 (some .int) ∈ lw_w := List.mem_filter.mpr ⟨List.mem_append_right _ (List.mem_of_getElem? (i := 333) rfl), rfl⟩
set_option maxRecDepth 20000 in
theorem tw_334 : Cond.methodLink R_L 39 y_M_winding ∈ lw_w := List.mem_filter.mpr ⟨List.mem_append_right _ (List.mem_of_getElem? (i := 334) (by decide +kernel)), rfl⟩
set_option maxRecDepth 20000 in
theorem tw_335 : Cond.instanceMethod y_M_winding ∈ lw_w := List.mem_filter.mpr ⟨List.mem_append_right _ (List.mem_of_getElem? (i := 335) (by decide +kernel)), rfl⟩
set_option maxRecDepth 20000 in
theorem tw_336 : Cond.selects R_M y_M_winding y_M_winding ∈ lw_w := List.mem_filter.mpr ⟨List.mem_append_right _ (List.mem_of_getElem? (i := 336) (by decide +kernel)), rfl⟩
set_option maxRecDepth 20000 in
theorem tw_337 : Cond.code y_M_winding b_M_winding 3 (some .int) ∈ lw_w := List.mem_filter.mpr ⟨List.mem_append_right _ (List.mem_of_getElem? (i := 337) rfl), rfl⟩
set_option maxRecDepth 20000 in
theorem tw_338 : Cond.methodLink R_M 107 y_M_go ∈ lw_w := List.mem_filter.mpr ⟨List.mem_append_right _ (List.mem_of_getElem? (i := 338) (by decide +kernel)), rfl⟩
set_option maxRecDepth 20000 in
theorem tw_340 : Cond.instanceMethod y_M_go ∈ lw_w := List.mem_filter.mpr ⟨List.mem_append_right _ (List.mem_of_getElem? (i := 340) (by decide +kernel)), rfl⟩
set_option maxRecDepth 20000 in
theorem tw_341 : Cond.code y_M_go b_M_go 7 none ∈ lw_w := List.mem_filter.mpr ⟨List.mem_append_right _ (List.mem_of_getElem? (i := 341) rfl), rfl⟩
set_option maxRecDepth 20000 in
theorem tw_342 : Cond.methodLink R_M 103 y_M_around ∈ lw_w := List.mem_filter.mpr ⟨List.mem_append_right _ (List.mem_of_getElem? (i := 342) (by decide +kernel)), rfl⟩
set_option maxRecDepth 20000 in
theorem tw_344 : Cond.instanceMethod y_M_around ∈ lw_w := List.mem_filter.mpr ⟨List.mem_append_right _ (List.mem_of_getElem? (i := 344) (by decide +kernel)), rfl⟩
set_option maxRecDepth 20000 in
theorem tw_345 : Cond.code y_M_around b_M_around 25 none ∈ lw_w := List.mem_filter.mpr ⟨List.mem_append_right _ (List.mem_of_getElem? (i := 345) rfl), rfl⟩
set_option maxRecDepth 20000 in
theorem tw_346 : Cond.methodLink R_M 81 y_M_line ∈ lw_w := List.mem_filter.mpr ⟨List.mem_append_right _ (List.mem_of_getElem? (i := 346) (by decide +kernel)), rfl⟩
set_option maxRecDepth 20000 in
theorem tw_348 : Cond.instanceMethod y_M_line ∈ lw_w := List.mem_filter.mpr ⟨List.mem_append_right _ (List.mem_of_getElem? (i := 348) (by decide +kernel)), rfl⟩
set_option maxRecDepth 20000 in
theorem tw_349 : Cond.code y_M_line b_M_line 11 none ∈ lw_w := List.mem_filter.mpr ⟨List.mem_append_right _ (List.mem_of_getElem? (i := 349) rfl), rfl⟩
set_option maxRecDepth 20000 in
theorem tw_350 : Cond.methodLink R_M 44 y_M_sign ∈ lw_w := List.mem_filter.mpr ⟨List.mem_append_right _ (List.mem_of_getElem? (i := 350) (by decide +kernel)), rfl⟩
set_option maxRecDepth 20000 in
theorem tw_351 : Cond.static y_M_sign ∈ lw_w := List.mem_filter.mpr ⟨List.mem_append_right _ (List.mem_of_getElem? (i := 351) (by decide +kernel)), rfl⟩
set_option maxRecDepth 20000 in
theorem tw_352 : Cond.code y_M_sign b_M_sign 2 (some .int) ∈ lw_w := List.mem_filter.mpr ⟨List.mem_append_right _ (List.mem_of_getElem? (i := 352) rfl), rfl⟩
set_option maxRecDepth 20000 in
theorem tw_353 : Cond.methodLink R_M 59 y_M_cross ∈ lw_w := List.mem_filter.mpr ⟨List.mem_append_right _ (List.mem_of_getElem? (i := 353) (by decide +kernel)), rfl⟩
set_option maxRecDepth 20000 in
theorem tw_355 : Cond.instanceMethod y_M_cross ∈ lw_w := List.mem_filter.mpr ⟨List.mem_append_right _ (List.mem_of_getElem? (i := 355) (by decide +kernel)), rfl⟩
set_option maxRecDepth 20000 in
theorem tw_356 : Cond.code y_M_cross b_M_cross 4 none ∈ lw_w := List.mem_filter.mpr ⟨List.mem_append_right _ (List.mem_of_getElem? (i := 356) rfl), rfl⟩
set_option maxRecDepth 20000 in
theorem tw_357 : Cond.methodLink R_M 85 y_M_curve ∈ lw_w := List.mem_filter.mpr ⟨List.mem_append_right _ (List.mem_of_getElem? (i := 357) (by decide +kernel)), rfl⟩
set_option maxRecDepth 20000 in
theorem tw_359 : Cond.instanceMethod y_M_curve ∈ lw_w := List.mem_filter.mpr ⟨List.mem_append_right _ (List.mem_of_getElem? (i := 359) (by decide +kernel)), rfl⟩
set_option maxRecDepth 20000 in
theorem tw_360 : Cond.code y_M_curve b_M_curve 23 none ∈ lw_w := List.mem_filter.mpr ⟨List.mem_append_right _ (List.mem_of_getElem? (i := 360) rfl), rfl⟩
set_option maxRecDepth 20000 in
theorem tw_361 : Cond.methodLink R_M 63 y_M_zero ∈ lw_w := List.mem_filter.mpr ⟨List.mem_append_right _ (List.mem_of_getElem? (i := 361) (by decide +kernel)), rfl⟩
set_option maxRecDepth 20000 in
theorem tw_362 : Cond.static y_M_zero ∈ lw_w := List.mem_filter.mpr ⟨List.mem_append_right _ (List.mem_of_getElem? (i := 362) (by decide +kernel)), rfl⟩
set_option maxRecDepth 20000 in
theorem tw_363 : Cond.code y_M_zero b_M_zero 6 (some .boolean) ∈ lw_w := List.mem_filter.mpr ⟨List.mem_append_right _ (List.mem_of_getElem? (i := 363) rfl), rfl⟩
set_option maxRecDepth 20000 in
theorem tw_364 : Cond.methodLink R_M 67 y_M_through ∈ lw_w := List.mem_filter.mpr ⟨List.mem_append_right _ (List.mem_of_getElem? (i := 364) (by decide +kernel)), rfl⟩
set_option maxRecDepth 20000 in
theorem tw_366 : Cond.instanceMethod y_M_through ∈ lw_w := List.mem_filter.mpr ⟨List.mem_append_right _ (List.mem_of_getElem? (i := 366) (by decide +kernel)), rfl⟩
set_option maxRecDepth 20000 in
theorem tw_367 : Cond.code y_M_through b_M_through 8 (some .boolean) ∈ lw_w := List.mem_filter.mpr ⟨List.mem_append_right _ (List.mem_of_getElem? (i := 367) rfl), rfl⟩
set_option maxRecDepth 20000 in
theorem tw_368 : Cond.methodLink R_M 34 y_M_product ∈ lw_w := List.mem_filter.mpr ⟨List.mem_append_right _ (List.mem_of_getElem? (i := 368) (by decide +kernel)), rfl⟩
set_option maxRecDepth 20000 in
theorem tw_369 : Cond.static y_M_product ∈ lw_w := List.mem_filter.mpr ⟨List.mem_append_right _ (List.mem_of_getElem? (i := 369) (by decide +kernel)), rfl⟩
set_option maxRecDepth 20000 in
theorem tw_370 : Cond.code y_M_product b_M_product 8 none ∈ lw_w := List.mem_filter.mpr ⟨List.mem_append_right _ (List.mem_of_getElem? (i := 370) rfl), rfl⟩
set_option maxRecDepth 20000 in
theorem tw_371 : Cond.methodLink R_M 38 y_M_times ∈ lw_w := List.mem_filter.mpr ⟨List.mem_append_right _ (List.mem_of_getElem? (i := 371) (by decide +kernel)), rfl⟩
set_option maxRecDepth 20000 in
theorem tw_372 : Cond.static y_M_times ∈ lw_w := List.mem_filter.mpr ⟨List.mem_append_right _ (List.mem_of_getElem? (i := 372) (by decide +kernel)), rfl⟩
set_option maxRecDepth 20000 in
theorem tw_373 : Cond.code y_M_times b_M_times 20 none ∈ lw_w := List.mem_filter.mpr ⟨List.mem_append_right _ (List.mem_of_getElem? (i := 373) rfl), rfl⟩
set_option maxRecDepth 20000 in
theorem tw_374 : Cond.constantLong R_M 42 4294967295 ∈ lw_w := List.mem_filter.mpr ⟨List.mem_append_right _ (List.mem_of_getElem? (i := 374) (by decide +kernel)), rfl⟩
set_option maxRecDepth 20000 in
theorem tw_375 : Cond.constantLong R_M 74 4 ∈ lw_w := List.mem_filter.mpr ⟨List.mem_append_right _ (List.mem_of_getElem? (i := 375) (by decide +kernel)), rfl⟩
set_option maxRecDepth 20000 in
theorem tw_376 : Cond.methodLink R_M 70 y_M_side ∈ lw_w := List.mem_filter.mpr ⟨List.mem_append_right _ (List.mem_of_getElem? (i := 376) (by decide +kernel)), rfl⟩
set_option maxRecDepth 20000 in
theorem tw_378 : Cond.instanceMethod y_M_side ∈ lw_w := List.mem_filter.mpr ⟨List.mem_append_right _ (List.mem_of_getElem? (i := 378) (by decide +kernel)), rfl⟩
set_option maxRecDepth 20000 in
theorem tw_379 : Cond.code y_M_side b_M_side 26 (some .int) ∈ lw_w := List.mem_filter.mpr ⟨List.mem_append_right _ (List.mem_of_getElem? (i := 379) rfl), rfl⟩
set_option maxRecDepth 20000 in
theorem tw_380 : Cond.methodLink R_M 78 y_M_signOf ∈ lw_w := List.mem_filter.mpr ⟨List.mem_append_right _ (List.mem_of_getElem? (i := 380) (by decide +kernel)), rfl⟩
set_option maxRecDepth 20000 in
theorem tw_382 : Cond.instanceMethod y_M_signOf ∈ lw_w := List.mem_filter.mpr ⟨List.mem_append_right _ (List.mem_of_getElem? (i := 382) (by decide +kernel)), rfl⟩
set_option maxRecDepth 20000 in
theorem tw_383 : Cond.code y_M_signOf b_M_signOf 10 (some .int) ∈ lw_w := List.mem_filter.mpr ⟨List.mem_append_right _ (List.mem_of_getElem? (i := 383) rfl), rfl⟩
set_option maxRecDepth 20000 in
theorem tw_384 : Cond.methodLink R_M 48 y_M_compare ∈ lw_w := List.mem_filter.mpr ⟨List.mem_append_right _ (List.mem_of_getElem? (i := 384) (by decide +kernel)), rfl⟩
set_option maxRecDepth 20000 in
theorem tw_386 : Cond.instanceMethod y_M_compare ∈ lw_w := List.mem_filter.mpr ⟨List.mem_append_right _ (List.mem_of_getElem? (i := 386) (by decide +kernel)), rfl⟩
set_option maxRecDepth 20000 in
theorem tw_387 : Cond.code y_M_compare b_M_compare 8 (some .int) ∈ lw_w := List.mem_filter.mpr ⟨List.mem_append_right _ (List.mem_of_getElem? (i := 387) rfl), rfl⟩
set_option maxRecDepth 20000 in
theorem tw_388 : Cond.methodLink R_L 44 y_M_row ∈ lw_w := List.mem_filter.mpr ⟨List.mem_append_right _ (List.mem_of_getElem? (i := 388) (by decide +kernel)), rfl⟩
set_option maxRecDepth 20000 in
theorem tw_389 : Cond.instanceMethod y_M_row ∈ lw_w := List.mem_filter.mpr ⟨List.mem_append_right _ (List.mem_of_getElem? (i := 389) (by decide +kernel)), rfl⟩
set_option maxRecDepth 20000 in
theorem tw_390 : Cond.selects R_M y_M_row y_M_row ∈ lw_w := List.mem_filter.mpr ⟨List.mem_append_right _ (List.mem_of_getElem? (i := 390) (by decide +kernel)), rfl⟩
set_option maxRecDepth 20000 in
theorem tw_391 : Cond.code y_M_row b_M_row 5 (some .long) ∈ lw_w := List.mem_filter.mpr ⟨List.mem_append_right _ (List.mem_of_getElem? (i := 391) rfl), rfl⟩
set_option maxRecDepth 20000 in
theorem tw_392 : Cond.constantLong R_M 111 128 ∈ lw_w := List.mem_filter.mpr ⟨List.mem_append_right _ (List.mem_of_getElem? (i := 392) (by decide +kernel)), rfl⟩
set_option maxRecDepth 20000 in
theorem tw_393 : Cond.constantLong R_M 113 64 ∈ lw_w := List.mem_filter.mpr ⟨List.mem_append_right _ (List.mem_of_getElem? (i := 393) (by decide +kernel)), rfl⟩
set_option maxRecDepth 20000 in
theorem tw_394 : Cond.methodLink R_L 49 y_M_count ∈ lw_w := List.mem_filter.mpr ⟨List.mem_append_right _ (List.mem_of_getElem? (i := 394) (by decide +kernel)), rfl⟩
set_option maxRecDepth 20000 in
theorem tw_395 : Cond.instanceMethod y_M_count ∈ lw_w := List.mem_filter.mpr ⟨List.mem_append_right _ (List.mem_of_getElem? (i := 395) (by decide +kernel)), rfl⟩
set_option maxRecDepth 20000 in
theorem tw_396 : Cond.selects R_M y_M_count y_M_count ∈ lw_w := List.mem_filter.mpr ⟨List.mem_append_right _ (List.mem_of_getElem? (i := 396) (by decide +kernel)), rfl⟩
set_option maxRecDepth 20000 in
theorem tw_397 : Cond.code y_M_count b_M_count 2 (some .int) ∈ lw_w := List.mem_filter.mpr ⟨List.mem_append_right _ (List.mem_of_getElem? (i := 397) rfl), rfl⟩
set_option maxRecDepth 20000 in
theorem tw_399 : Cond.sameMethod "[Ljava/lang/Object;" "java/lang/Object" "getClass" "()Ljava/lang/Class;" ∈ lw_w := List.mem_filter.mpr ⟨List.mem_append_right _ (List.mem_of_getElem? (i := 399) (by decide +kernel)), rfl⟩
set_option maxRecDepth 20000 in
theorem tw_400 : Cond.selects "[Ljava/lang/Object;" ⟨"java/lang/Object", "getClass", "()Ljava/lang/Class;"⟩ ⟨"java/lang/Object", "getClass", "()Ljava/lang/Class;"⟩ ∈ lw_w := List.mem_filter.mpr ⟨List.mem_append_right _ (List.mem_of_getElem? (i := 400) (by decide +kernel)), rfl⟩
end
section
theorem d_A_init_0 : decode b_A_init 0 = .ok (.aload_n 0, 1) := by decide +kernel
theorem d_A_init_1 : decode b_A_init 1 = .ok (.invokespecial 5, 3) := by decide +kernel
theorem d_A_init_4 : decode b_A_init 4 = .ok (.aload_n 0, 1) := by decide +kernel
theorem d_A_init_5 : decode b_A_init 5 = .ok (.iload_n 1, 1) := by decide +kernel
theorem d_A_init_6 : decode b_A_init 6 = .ok (.putfield 11, 3) := by decide +kernel
theorem d_A_init_9 : decode b_A_init 9 = .ok (.aload_n 0, 1) := by decide +kernel
theorem d_A_init_10 : decode b_A_init 10 = .ok (.iload_n 2, 1) := by decide +kernel
theorem d_A_init_11 : decode b_A_init 11 = .ok (.putfield 15, 3) := by decide +kernel
theorem d_A_init_14 : decode b_A_init 14 = .ok (.aload_n 0, 1) := by decide +kernel
theorem d_A_init_15 : decode b_A_init 15 = .ok (.iload_n 3, 1) := by decide +kernel
theorem d_A_init_16 : decode b_A_init 16 = .ok (.putfield 18, 3) := by decide +kernel
theorem d_A_init_19 : decode b_A_init 19 = .ok (.aload_n 0, 1) := by decide +kernel
theorem d_A_init_20 : decode b_A_init 20 = .ok (.iload 4, 2) := by decide +kernel
theorem d_A_init_22 : decode b_A_init 22 = .ok (.putfield 21, 3) := by decide +kernel
theorem d_A_init_25 : decode b_A_init 25 = .ok (.aload_n 0, 1) := by decide +kernel
theorem d_A_init_26 : decode b_A_init 26 = .ok (.iload 5, 2) := by decide +kernel
theorem d_A_init_28 : decode b_A_init 28 = .ok (.putfield 24, 3) := by decide +kernel
theorem d_A_init_31 : decode b_A_init 31 = .ok (.aload_n 0, 1) := by decide +kernel
theorem d_A_init_32 : decode b_A_init 32 = .ok (.iload 6, 2) := by decide +kernel
theorem d_A_init_34 : decode b_A_init 34 = .ok (.putfield 27, 3) := by decide +kernel
theorem d_A_init_37 : decode b_A_init 37 = .ok (.return_, 1) := by decide +kernel
theorem d_A_turnsAround_0 : decode b_A_turnsAround 0 = .ok (.aload_n 0, 1) := by decide +kernel
theorem d_A_turnsAround_1 : decode b_A_turnsAround 1 = .ok (.iload_n 2, 1) := by decide +kernel
theorem d_A_turnsAround_2 : decode b_A_turnsAround 2 = .ok (.invokevirtual 39, 3) := by decide +kernel
theorem d_A_turnsAround_5 : decode b_A_turnsAround 5 = .ok (.ifCond .eq 25, 3) := by decide +kernel
theorem d_A_turnsAround_8 : decode b_A_turnsAround 8 = .ok (.iload_n 1, 1) := by decide +kernel
theorem d_A_turnsAround_9 : decode b_A_turnsAround 9 = .ok (.aload_n 0, 1) := by decide +kernel
theorem d_A_turnsAround_10 : decode b_A_turnsAround 10 = .ok (.getfield 11, 3) := by decide +kernel
theorem d_A_turnsAround_13 : decode b_A_turnsAround 13 = .ok (.aload_n 0, 1) := by decide +kernel
theorem d_A_turnsAround_14 : decode b_A_turnsAround 14 = .ok (.getfield 18, 3) := by decide +kernel
theorem d_A_turnsAround_17 : decode b_A_turnsAround 17 = .ok (.aload_n 0, 1) := by decide +kernel
theorem d_A_turnsAround_18 : decode b_A_turnsAround 18 = .ok (.getfield 24, 3) := by decide +kernel
theorem d_A_turnsAround_21 : decode b_A_turnsAround 21 = .ok (.invokestatic 36, 3) := by decide +kernel
theorem d_A_turnsAround_24 : decode b_A_turnsAround 24 = .ok (.invokestatic 36, 3) := by decide +kernel
theorem d_A_turnsAround_27 : decode b_A_turnsAround 27 = .ok (.if_icmp .le 5, 3) := by decide +kernel
theorem d_A_turnsAround_30 : decode b_A_turnsAround 30 = .ok (.iconst 0, 1) := by decide +kernel
theorem d_A_turnsAround_31 : decode b_A_turnsAround 31 = .ok (.ireturn, 1) := by decide +kernel
theorem d_A_turnsAround_32 : decode b_A_turnsAround 32 = .ok (.aload_n 0, 1) := by decide +kernel
theorem d_A_turnsAround_33 : decode b_A_turnsAround 33 = .ok (.getfield 18, 3) := by decide +kernel
theorem d_A_turnsAround_36 : decode b_A_turnsAround 36 = .ok (.iload_n 1, 1) := by decide +kernel
theorem d_A_turnsAround_37 : decode b_A_turnsAround 37 = .ok (.isub, 1) := by decide +kernel
theorem d_A_turnsAround_38 : decode b_A_turnsAround 38 = .ok (.i2l, 1) := by decide +kernel
theorem d_A_turnsAround_39 : decode b_A_turnsAround 39 = .ok (.aload_n 0, 1) := by decide +kernel
theorem d_A_turnsAround_40 : decode b_A_turnsAround 40 = .ok (.getfield 21, 3) := by decide +kernel
theorem d_A_turnsAround_43 : decode b_A_turnsAround 43 = .ok (.iload_n 2, 1) := by decide +kernel
theorem d_A_turnsAround_44 : decode b_A_turnsAround 44 = .ok (.isub, 1) := by decide +kernel
theorem d_A_turnsAround_45 : decode b_A_turnsAround 45 = .ok (.i2l, 1) := by decide +kernel
theorem d_A_turnsAround_46 : decode b_A_turnsAround 46 = .ok (.aload_n 0, 1) := by decide +kernel
theorem d_A_turnsAround_47 : decode b_A_turnsAround 47 = .ok (.getfield 24, 3) := by decide +kernel
theorem d_A_turnsAround_50 : decode b_A_turnsAround 50 = .ok (.iload_n 1, 1) := by decide +kernel
theorem d_A_turnsAround_51 : decode b_A_turnsAround 51 = .ok (.isub, 1) := by decide +kernel
theorem d_A_turnsAround_52 : decode b_A_turnsAround 52 = .ok (.i2l, 1) := by decide +kernel
theorem d_A_turnsAround_53 : decode b_A_turnsAround 53 = .ok (.aload_n 0, 1) := by decide +kernel
theorem d_A_turnsAround_54 : decode b_A_turnsAround 54 = .ok (.getfield 27, 3) := by decide +kernel
theorem d_A_turnsAround_57 : decode b_A_turnsAround 57 = .ok (.iload_n 2, 1) := by decide +kernel
theorem d_A_turnsAround_58 : decode b_A_turnsAround 58 = .ok (.isub, 1) := by decide +kernel
theorem d_A_turnsAround_59 : decode b_A_turnsAround 59 = .ok (.i2l, 1) := by decide +kernel
theorem d_A_turnsAround_60 : decode b_A_turnsAround 60 = .ok (.invokestatic 43, 3) := by decide +kernel
theorem d_A_turnsAround_63 : decode b_A_turnsAround 63 = .ok (.lstore_n 3, 1) := by decide +kernel
theorem d_A_turnsAround_64 : decode b_A_turnsAround 64 = .ok (.aload_n 0, 1) := by decide +kernel
theorem d_A_turnsAround_65 : decode b_A_turnsAround 65 = .ok (.getfield 24, 3) := by decide +kernel
theorem d_A_turnsAround_68 : decode b_A_turnsAround 68 = .ok (.iload_n 1, 1) := by decide +kernel
theorem d_A_turnsAround_69 : decode b_A_turnsAround 69 = .ok (.isub, 1) := by decide +kernel
theorem d_A_turnsAround_70 : decode b_A_turnsAround 70 = .ok (.i2l, 1) := by decide +kernel
theorem d_A_turnsAround_71 : decode b_A_turnsAround 71 = .ok (.aload_n 0, 1) := by decide +kernel
theorem d_A_turnsAround_72 : decode b_A_turnsAround 72 = .ok (.getfield 27, 3) := by decide +kernel
theorem d_A_turnsAround_75 : decode b_A_turnsAround 75 = .ok (.iload_n 2, 1) := by decide +kernel
theorem d_A_turnsAround_76 : decode b_A_turnsAround 76 = .ok (.isub, 1) := by decide +kernel
theorem d_A_turnsAround_77 : decode b_A_turnsAround 77 = .ok (.i2l, 1) := by decide +kernel
theorem d_A_turnsAround_78 : decode b_A_turnsAround 78 = .ok (.aload_n 0, 1) := by decide +kernel
theorem d_A_turnsAround_79 : decode b_A_turnsAround 79 = .ok (.getfield 11, 3) := by decide +kernel
theorem d_A_turnsAround_82 : decode b_A_turnsAround 82 = .ok (.iload_n 1, 1) := by decide +kernel
theorem d_A_turnsAround_83 : decode b_A_turnsAround 83 = .ok (.isub, 1) := by decide +kernel
theorem d_A_turnsAround_84 : decode b_A_turnsAround 84 = .ok (.i2l, 1) := by decide +kernel
theorem d_A_turnsAround_85 : decode b_A_turnsAround 85 = .ok (.aload_n 0, 1) := by decide +kernel
theorem d_A_turnsAround_86 : decode b_A_turnsAround 86 = .ok (.getfield 15, 3) := by decide +kernel
theorem d_A_turnsAround_89 : decode b_A_turnsAround 89 = .ok (.iload_n 2, 1) := by decide +kernel
theorem d_A_turnsAround_90 : decode b_A_turnsAround 90 = .ok (.isub, 1) := by decide +kernel
theorem d_A_turnsAround_91 : decode b_A_turnsAround 91 = .ok (.i2l, 1) := by decide +kernel
theorem d_A_turnsAround_92 : decode b_A_turnsAround 92 = .ok (.invokestatic 43, 3) := by decide +kernel
theorem d_A_turnsAround_95 : decode b_A_turnsAround 95 = .ok (.lstore 5, 2) := by decide +kernel
theorem d_A_turnsAround_97 : decode b_A_turnsAround 97 = .ok (.aload_n 0, 1) := by decide +kernel
theorem d_A_turnsAround_98 : decode b_A_turnsAround 98 = .ok (.getfield 11, 3) := by decide +kernel
theorem d_A_turnsAround_101 : decode b_A_turnsAround 101 = .ok (.iload_n 1, 1) := by decide +kernel
theorem d_A_turnsAround_102 : decode b_A_turnsAround 102 = .ok (.isub, 1) := by decide +kernel
theorem d_A_turnsAround_103 : decode b_A_turnsAround 103 = .ok (.i2l, 1) := by decide +kernel
theorem d_A_turnsAround_104 : decode b_A_turnsAround 104 = .ok (.aload_n 0, 1) := by decide +kernel
theorem d_A_turnsAround_105 : decode b_A_turnsAround 105 = .ok (.getfield 15, 3) := by decide +kernel
theorem d_A_turnsAround_108 : decode b_A_turnsAround 108 = .ok (.iload_n 2, 1) := by decide +kernel
theorem d_A_turnsAround_109 : decode b_A_turnsAround 109 = .ok (.isub, 1) := by decide +kernel
theorem d_A_turnsAround_110 : decode b_A_turnsAround 110 = .ok (.i2l, 1) := by decide +kernel
theorem d_A_turnsAround_111 : decode b_A_turnsAround 111 = .ok (.aload_n 0, 1) := by decide +kernel
theorem d_A_turnsAround_112 : decode b_A_turnsAround 112 = .ok (.getfield 18, 3) := by decide +kernel
theorem d_A_turnsAround_115 : decode b_A_turnsAround 115 = .ok (.iload_n 1, 1) := by decide +kernel
theorem d_A_turnsAround_116 : decode b_A_turnsAround 116 = .ok (.isub, 1) := by decide +kernel
theorem d_A_turnsAround_117 : decode b_A_turnsAround 117 = .ok (.i2l, 1) := by decide +kernel
theorem d_A_turnsAround_118 : decode b_A_turnsAround 118 = .ok (.aload_n 0, 1) := by decide +kernel
theorem d_A_turnsAround_119 : decode b_A_turnsAround 119 = .ok (.getfield 21, 3) := by decide +kernel
theorem d_A_turnsAround_122 : decode b_A_turnsAround 122 = .ok (.iload_n 2, 1) := by decide +kernel
theorem d_A_turnsAround_123 : decode b_A_turnsAround 123 = .ok (.isub, 1) := by decide +kernel
theorem d_A_turnsAround_124 : decode b_A_turnsAround 124 = .ok (.i2l, 1) := by decide +kernel
theorem d_A_turnsAround_125 : decode b_A_turnsAround 125 = .ok (.invokestatic 43, 3) := by decide +kernel
theorem d_A_turnsAround_128 : decode b_A_turnsAround 128 = .ok (.lstore 7, 2) := by decide +kernel
theorem d_A_turnsAround_130 : decode b_A_turnsAround 130 = .ok (.lload_n 3, 1) := by decide +kernel
theorem d_A_turnsAround_131 : decode b_A_turnsAround 131 = .ok (.lload 5, 2) := by decide +kernel
theorem d_A_turnsAround_133 : decode b_A_turnsAround 133 = .ok (.ladd, 1) := by decide +kernel
theorem d_A_turnsAround_134 : decode b_A_turnsAround 134 = .ok (.lload 7, 2) := by decide +kernel
theorem d_A_turnsAround_136 : decode b_A_turnsAround 136 = .ok (.ladd, 1) := by decide +kernel
theorem d_A_turnsAround_137 : decode b_A_turnsAround 137 = .ok (.lconst 0, 1) := by decide +kernel
theorem d_A_turnsAround_138 : decode b_A_turnsAround 138 = .ok (.invokestatic 47, 3) := by decide +kernel
theorem d_A_turnsAround_141 : decode b_A_turnsAround 141 = .ok (.istore 9, 2) := by decide +kernel
theorem d_A_turnsAround_143 : decode b_A_turnsAround 143 = .ok (.aload_n 0, 1) := by decide +kernel
theorem d_A_turnsAround_144 : decode b_A_turnsAround 144 = .ok (.lload 5, 2) := by decide +kernel
theorem d_A_turnsAround_146 : decode b_A_turnsAround 146 = .ok (.invokevirtual 53, 3) := by decide +kernel
theorem d_A_turnsAround_149 : decode b_A_turnsAround 149 = .ok (.istore 10, 2) := by decide +kernel
theorem d_A_turnsAround_151 : decode b_A_turnsAround 151 = .ok (.aload_n 0, 1) := by decide +kernel
theorem d_A_turnsAround_152 : decode b_A_turnsAround 152 = .ok (.iload 10, 2) := by decide +kernel
theorem d_A_turnsAround_154 : decode b_A_turnsAround 154 = .ok (.iload_n 2, 1) := by decide +kernel
theorem d_A_turnsAround_155 : decode b_A_turnsAround 155 = .ok (.invokevirtual 57, 3) := by decide +kernel
theorem d_A_turnsAround_158 : decode b_A_turnsAround 158 = .ok (.istore 11, 2) := by decide +kernel
theorem d_A_turnsAround_160 : decode b_A_turnsAround 160 = .ok (.iload 9, 2) := by decide +kernel
theorem d_A_turnsAround_162 : decode b_A_turnsAround 162 = .ok (.ifCond .ne 53, 3) := by decide +kernel
theorem d_A_turnsAround_165 : decode b_A_turnsAround 165 = .ok (.lload_n 3, 1) := by decide +kernel
theorem d_A_turnsAround_166 : decode b_A_turnsAround 166 = .ok (.lconst 0, 1) := by decide +kernel
theorem d_A_turnsAround_167 : decode b_A_turnsAround 167 = .ok (.lcmp, 1) := by decide +kernel
theorem d_A_turnsAround_168 : decode b_A_turnsAround 168 = .ok (.ifCond .ne 21, 3) := by decide +kernel
theorem d_A_turnsAround_171 : decode b_A_turnsAround 171 = .ok (.lload 5, 2) := by decide +kernel
theorem d_A_turnsAround_173 : decode b_A_turnsAround 173 = .ok (.lconst 0, 1) := by decide +kernel
theorem d_A_turnsAround_174 : decode b_A_turnsAround 174 = .ok (.lcmp, 1) := by decide +kernel
theorem d_A_turnsAround_175 : decode b_A_turnsAround 175 = .ok (.ifCond .ne 14, 3) := by decide +kernel
theorem d_A_turnsAround_178 : decode b_A_turnsAround 178 = .ok (.lload 7, 2) := by decide +kernel
theorem d_A_turnsAround_180 : decode b_A_turnsAround 180 = .ok (.lconst 0, 1) := by decide +kernel
theorem d_A_turnsAround_181 : decode b_A_turnsAround 181 = .ok (.lcmp, 1) := by decide +kernel
theorem d_A_turnsAround_182 : decode b_A_turnsAround 182 = .ok (.ifCond .ne 7, 3) := by decide +kernel
theorem d_A_turnsAround_185 : decode b_A_turnsAround 185 = .ok (.iconst 1, 1) := by decide +kernel
theorem d_A_turnsAround_186 : decode b_A_turnsAround 186 = .ok (.goto 4, 3) := by decide +kernel
theorem d_A_turnsAround_189 : decode b_A_turnsAround 189 = .ok (.iconst 0, 1) := by decide +kernel
theorem d_A_turnsAround_190 : decode b_A_turnsAround 190 = .ok (.istore 12, 2) := by decide +kernel
theorem d_A_turnsAround_192 : decode b_A_turnsAround 192 = .ok (.iload 12, 2) := by decide +kernel
theorem d_A_turnsAround_194 : decode b_A_turnsAround 194 = .ok (.ifCond .eq 18, 3) := by decide +kernel
theorem d_A_turnsAround_197 : decode b_A_turnsAround 197 = .ok (.aload_n 0, 1) := by decide +kernel
theorem d_A_turnsAround_198 : decode b_A_turnsAround 198 = .ok (.iload_n 1, 1) := by decide +kernel
theorem d_A_turnsAround_199 : decode b_A_turnsAround 199 = .ok (.iload_n 2, 1) := by decide +kernel
theorem d_A_turnsAround_200 : decode b_A_turnsAround 200 = .ok (.invokevirtual 60, 3) := by decide +kernel
theorem d_A_turnsAround_203 : decode b_A_turnsAround 203 = .ok (.ifCond .eq 9, 3) := by decide +kernel
theorem d_A_turnsAround_206 : decode b_A_turnsAround 206 = .ok (.sipush 1000, 3) := by decide +kernel
theorem d_A_turnsAround_209 : decode b_A_turnsAround 209 = .ok (.goto 5, 3) := by decide +kernel
theorem d_A_turnsAround_212 : decode b_A_turnsAround 212 = .ok (.iload 11, 2) := by decide +kernel
theorem d_A_turnsAround_214 : decode b_A_turnsAround 214 = .ok (.ireturn, 1) := by decide +kernel
theorem d_A_turnsAround_215 : decode b_A_turnsAround 215 = .ok (.iload 9, 2) := by decide +kernel
theorem d_A_turnsAround_217 : decode b_A_turnsAround 217 = .ok (.i2l, 1) := by decide +kernel
theorem d_A_turnsAround_218 : decode b_A_turnsAround 218 = .ok (.lload_n 3, 1) := by decide +kernel
theorem d_A_turnsAround_219 : decode b_A_turnsAround 219 = .ok (.lmul, 1) := by decide +kernel
theorem d_A_turnsAround_220 : decode b_A_turnsAround 220 = .ok (.lconst 0, 1) := by decide +kernel
theorem d_A_turnsAround_221 : decode b_A_turnsAround 221 = .ok (.lcmp, 1) := by decide +kernel
theorem d_A_turnsAround_222 : decode b_A_turnsAround 222 = .ok (.ifCond .lt 25, 3) := by decide +kernel
theorem d_A_turnsAround_225 : decode b_A_turnsAround 225 = .ok (.iload 9, 2) := by decide +kernel
theorem d_A_turnsAround_227 : decode b_A_turnsAround 227 = .ok (.i2l, 1) := by decide +kernel
theorem d_A_turnsAround_228 : decode b_A_turnsAround 228 = .ok (.lload 5, 2) := by decide +kernel
theorem d_A_turnsAround_230 : decode b_A_turnsAround 230 = .ok (.lmul, 1) := by decide +kernel
theorem d_A_turnsAround_231 : decode b_A_turnsAround 231 = .ok (.lconst 0, 1) := by decide +kernel
theorem d_A_turnsAround_232 : decode b_A_turnsAround 232 = .ok (.lcmp, 1) := by decide +kernel
theorem d_A_turnsAround_233 : decode b_A_turnsAround 233 = .ok (.ifCond .lt 14, 3) := by decide +kernel
theorem d_A_turnsAround_236 : decode b_A_turnsAround 236 = .ok (.iload 9, 2) := by decide +kernel
theorem d_A_turnsAround_238 : decode b_A_turnsAround 238 = .ok (.i2l, 1) := by decide +kernel
theorem d_A_turnsAround_239 : decode b_A_turnsAround 239 = .ok (.lload 7, 2) := by decide +kernel
theorem d_A_turnsAround_241 : decode b_A_turnsAround 241 = .ok (.lmul, 1) := by decide +kernel
theorem d_A_turnsAround_242 : decode b_A_turnsAround 242 = .ok (.lconst 0, 1) := by decide +kernel
theorem d_A_turnsAround_243 : decode b_A_turnsAround 243 = .ok (.lcmp, 1) := by decide +kernel
theorem d_A_turnsAround_244 : decode b_A_turnsAround 244 = .ok (.ifCond .ge 6, 3) := by decide +kernel
theorem d_A_turnsAround_247 : decode b_A_turnsAround 247 = .ok (.iload 11, 2) := by decide +kernel
theorem d_A_turnsAround_249 : decode b_A_turnsAround 249 = .ok (.ireturn, 1) := by decide +kernel
theorem d_A_turnsAround_250 : decode b_A_turnsAround 250 = .ok (.lload 5, 2) := by decide +kernel
theorem d_A_turnsAround_252 : decode b_A_turnsAround 252 = .ok (.invokestatic 64, 3) := by decide +kernel
theorem d_A_turnsAround_255 : decode b_A_turnsAround 255 = .ok (.lload 5, 2) := by decide +kernel
theorem d_A_turnsAround_257 : decode b_A_turnsAround 257 = .ok (.invokestatic 64, 3) := by decide +kernel
theorem d_A_turnsAround_260 : decode b_A_turnsAround 260 = .ok (.ldc2_w 68, 3) := by decide +kernel
theorem d_A_turnsAround_263 : decode b_A_turnsAround 263 = .ok (.lload_n 3, 1) := by decide +kernel
theorem d_A_turnsAround_264 : decode b_A_turnsAround 264 = .ok (.invokestatic 64, 3) := by decide +kernel
theorem d_A_turnsAround_267 : decode b_A_turnsAround 267 = .ok (.lmul, 1) := by decide +kernel
theorem d_A_turnsAround_268 : decode b_A_turnsAround 268 = .ok (.lload 7, 2) := by decide +kernel
theorem d_A_turnsAround_270 : decode b_A_turnsAround 270 = .ok (.invokestatic 64, 3) := by decide +kernel
theorem d_A_turnsAround_273 : decode b_A_turnsAround 273 = .ok (.invokestatic 70, 3) := by decide +kernel
theorem d_A_turnsAround_276 : decode b_A_turnsAround 276 = .ok (.istore 12, 2) := by decide +kernel
theorem d_A_turnsAround_278 : decode b_A_turnsAround 278 = .ok (.iload 12, 2) := by decide +kernel
theorem d_A_turnsAround_280 : decode b_A_turnsAround 280 = .ok (.ifCond .ne 7, 3) := by decide +kernel
theorem d_A_turnsAround_283 : decode b_A_turnsAround 283 = .ok (.sipush 1000, 3) := by decide +kernel
theorem d_A_turnsAround_286 : decode b_A_turnsAround 286 = .ok (.ireturn, 1) := by decide +kernel
theorem d_A_turnsAround_287 : decode b_A_turnsAround 287 = .ok (.iload 12, 2) := by decide +kernel
theorem d_A_turnsAround_289 : decode b_A_turnsAround 289 = .ok (.ifCond .ge 18, 3) := by decide +kernel
theorem d_A_turnsAround_292 : decode b_A_turnsAround 292 = .ok (.iload 10, 2) := by decide +kernel
theorem d_A_turnsAround_294 : decode b_A_turnsAround 294 = .ok (.iload 9, 2) := by decide +kernel
theorem d_A_turnsAround_296 : decode b_A_turnsAround 296 = .ok (.if_icmp .ne 11, 3) := by decide +kernel
theorem d_A_turnsAround_299 : decode b_A_turnsAround 299 = .ok (.iload 11, 2) := by decide +kernel
theorem d_A_turnsAround_301 : decode b_A_turnsAround 301 = .ok (.iload 9, 2) := by decide +kernel
theorem d_A_turnsAround_303 : decode b_A_turnsAround 303 = .ok (.iadd, 1) := by decide +kernel
theorem d_A_turnsAround_304 : decode b_A_turnsAround 304 = .ok (.goto 5, 3) := by decide +kernel
theorem d_A_turnsAround_307 : decode b_A_turnsAround 307 = .ok (.iload 11, 2) := by decide +kernel
theorem d_A_turnsAround_309 : decode b_A_turnsAround 309 = .ok (.ireturn, 1) := by decide +kernel
theorem d_A_mayMeetHeight_0 : decode b_A_mayMeetHeight 0 = .ok (.iload_n 1, 1) := by decide +kernel
theorem d_A_mayMeetHeight_1 : decode b_A_mayMeetHeight 1 = .ok (.aload_n 0, 1) := by decide +kernel
theorem d_A_mayMeetHeight_2 : decode b_A_mayMeetHeight 2 = .ok (.getfield 15, 3) := by decide +kernel
theorem d_A_mayMeetHeight_5 : decode b_A_mayMeetHeight 5 = .ok (.aload_n 0, 1) := by decide +kernel
theorem d_A_mayMeetHeight_6 : decode b_A_mayMeetHeight 6 = .ok (.getfield 21, 3) := by decide +kernel
theorem d_A_mayMeetHeight_9 : decode b_A_mayMeetHeight 9 = .ok (.aload_n 0, 1) := by decide +kernel
theorem d_A_mayMeetHeight_10 : decode b_A_mayMeetHeight 10 = .ok (.getfield 27, 3) := by decide +kernel
theorem d_A_mayMeetHeight_13 : decode b_A_mayMeetHeight 13 = .ok (.invokestatic 30, 3) := by decide +kernel
theorem d_A_mayMeetHeight_16 : decode b_A_mayMeetHeight 16 = .ok (.invokestatic 30, 3) := by decide +kernel
theorem d_A_mayMeetHeight_19 : decode b_A_mayMeetHeight 19 = .ok (.if_icmp .lt 29, 3) := by decide +kernel
theorem d_A_mayMeetHeight_22 : decode b_A_mayMeetHeight 22 = .ok (.iload_n 1, 1) := by decide +kernel
theorem d_A_mayMeetHeight_23 : decode b_A_mayMeetHeight 23 = .ok (.aload_n 0, 1) := by decide +kernel
theorem d_A_mayMeetHeight_24 : decode b_A_mayMeetHeight 24 = .ok (.getfield 15, 3) := by decide +kernel
theorem d_A_mayMeetHeight_27 : decode b_A_mayMeetHeight 27 = .ok (.aload_n 0, 1) := by decide +kernel
theorem d_A_mayMeetHeight_28 : decode b_A_mayMeetHeight 28 = .ok (.getfield 21, 3) := by decide +kernel
theorem d_A_mayMeetHeight_31 : decode b_A_mayMeetHeight 31 = .ok (.aload_n 0, 1) := by decide +kernel
theorem d_A_mayMeetHeight_32 : decode b_A_mayMeetHeight 32 = .ok (.getfield 27, 3) := by decide +kernel
theorem d_A_mayMeetHeight_35 : decode b_A_mayMeetHeight 35 = .ok (.invokestatic 36, 3) := by decide +kernel
theorem d_A_mayMeetHeight_38 : decode b_A_mayMeetHeight 38 = .ok (.invokestatic 36, 3) := by decide +kernel
theorem d_A_mayMeetHeight_41 : decode b_A_mayMeetHeight 41 = .ok (.if_icmp .gt 7, 3) := by decide +kernel
theorem d_A_mayMeetHeight_44 : decode b_A_mayMeetHeight 44 = .ok (.iconst 1, 1) := by decide +kernel
theorem d_A_mayMeetHeight_45 : decode b_A_mayMeetHeight 45 = .ok (.goto 4, 3) := by decide +kernel
theorem d_A_mayMeetHeight_48 : decode b_A_mayMeetHeight 48 = .ok (.iconst 0, 1) := by decide +kernel
theorem d_A_mayMeetHeight_49 : decode b_A_mayMeetHeight 49 = .ok (.ireturn, 1) := by decide +kernel
theorem d_A_turn_0 : decode b_A_turn 0 = .ok (.lload_n 0, 1) := by decide +kernel
theorem d_A_turn_1 : decode b_A_turn 1 = .ok (.lload 6, 2) := by decide +kernel
theorem d_A_turn_3 : decode b_A_turn 3 = .ok (.lmul, 1) := by decide +kernel
theorem d_A_turn_4 : decode b_A_turn 4 = .ok (.lload_n 2, 1) := by decide +kernel
theorem d_A_turn_5 : decode b_A_turn 5 = .ok (.lload 4, 2) := by decide +kernel
theorem d_A_turn_7 : decode b_A_turn 7 = .ok (.lmul, 1) := by decide +kernel
theorem d_A_turn_8 : decode b_A_turn 8 = .ok (.lsub, 1) := by decide +kernel
theorem d_A_turn_9 : decode b_A_turn 9 = .ok (.lreturn, 1) := by decide +kernel
theorem d_A_sideOfChord_0 : decode b_A_sideOfChord 0 = .ok (.lload_n 1, 1) := by decide +kernel
theorem d_A_sideOfChord_1 : decode b_A_sideOfChord 1 = .ok (.lconst 0, 1) := by decide +kernel
theorem d_A_sideOfChord_2 : decode b_A_sideOfChord 2 = .ok (.lcmp, 1) := by decide +kernel
theorem d_A_sideOfChord_3 : decode b_A_sideOfChord 3 = .ok (.ifCond .eq 15, 3) := by decide +kernel
theorem d_A_sideOfChord_6 : decode b_A_sideOfChord 6 = .ok (.lload_n 1, 1) := by decide +kernel
theorem d_A_sideOfChord_7 : decode b_A_sideOfChord 7 = .ok (.lconst 0, 1) := by decide +kernel
theorem d_A_sideOfChord_8 : decode b_A_sideOfChord 8 = .ok (.lcmp, 1) := by decide +kernel
theorem d_A_sideOfChord_9 : decode b_A_sideOfChord 9 = .ok (.ifCond .ge 7, 3) := by decide +kernel
theorem d_A_sideOfChord_12 : decode b_A_sideOfChord 12 = .ok (.iconst (-1), 1) := by decide +kernel
theorem d_A_sideOfChord_13 : decode b_A_sideOfChord 13 = .ok (.goto 4, 3) := by decide +kernel
theorem d_A_sideOfChord_16 : decode b_A_sideOfChord 16 = .ok (.iconst 1, 1) := by decide +kernel
theorem d_A_sideOfChord_17 : decode b_A_sideOfChord 17 = .ok (.ireturn, 1) := by decide +kernel
theorem d_A_sideOfChord_18 : decode b_A_sideOfChord 18 = .ok (.aload_n 0, 1) := by decide +kernel
theorem d_A_sideOfChord_19 : decode b_A_sideOfChord 19 = .ok (.getfield 27, 3) := by decide +kernel
theorem d_A_sideOfChord_22 : decode b_A_sideOfChord 22 = .ok (.aload_n 0, 1) := by decide +kernel
theorem d_A_sideOfChord_23 : decode b_A_sideOfChord 23 = .ok (.getfield 15, 3) := by decide +kernel
theorem d_A_sideOfChord_26 : decode b_A_sideOfChord 26 = .ok (.if_icmp .eq 17, 3) := by decide +kernel
theorem d_A_sideOfChord_29 : decode b_A_sideOfChord 29 = .ok (.aload_n 0, 1) := by decide +kernel
theorem d_A_sideOfChord_30 : decode b_A_sideOfChord 30 = .ok (.getfield 27, 3) := by decide +kernel
theorem d_A_sideOfChord_33 : decode b_A_sideOfChord 33 = .ok (.aload_n 0, 1) := by decide +kernel
theorem d_A_sideOfChord_34 : decode b_A_sideOfChord 34 = .ok (.getfield 15, 3) := by decide +kernel
theorem d_A_sideOfChord_37 : decode b_A_sideOfChord 37 = .ok (.invokestatic 74, 3) := by decide +kernel
theorem d_A_sideOfChord_40 : decode b_A_sideOfChord 40 = .ok (.goto 14, 3) := by decide +kernel
theorem d_A_sideOfChord_43 : decode b_A_sideOfChord 43 = .ok (.aload_n 0, 1) := by decide +kernel
theorem d_A_sideOfChord_44 : decode b_A_sideOfChord 44 = .ok (.getfield 24, 3) := by decide +kernel
theorem d_A_sideOfChord_47 : decode b_A_sideOfChord 47 = .ok (.aload_n 0, 1) := by decide +kernel
theorem d_A_sideOfChord_48 : decode b_A_sideOfChord 48 = .ok (.getfield 11, 3) := by decide +kernel
theorem d_A_sideOfChord_51 : decode b_A_sideOfChord 51 = .ok (.invokestatic 74, 3) := by decide +kernel
theorem d_A_sideOfChord_54 : decode b_A_sideOfChord 54 = .ok (.ireturn, 1) := by decide +kernel
theorem d_A_chordShare_0 : decode b_A_chordShare 0 = .ok (.aload_n 0, 1) := by decide +kernel
theorem d_A_chordShare_1 : decode b_A_chordShare 1 = .ok (.getfield 15, 3) := by decide +kernel
theorem d_A_chordShare_4 : decode b_A_chordShare 4 = .ok (.iload_n 2, 1) := by decide +kernel
theorem d_A_chordShare_5 : decode b_A_chordShare 5 = .ok (.if_icmp .lt 7, 3) := by decide +kernel
theorem d_A_chordShare_8 : decode b_A_chordShare 8 = .ok (.iconst 1, 1) := by decide +kernel
theorem d_A_chordShare_9 : decode b_A_chordShare 9 = .ok (.goto 4, 3) := by decide +kernel
theorem d_A_chordShare_12 : decode b_A_chordShare 12 = .ok (.iconst 0, 1) := by decide +kernel
theorem d_A_chordShare_13 : decode b_A_chordShare 13 = .ok (.istore_n 3, 1) := by decide +kernel
theorem d_A_chordShare_14 : decode b_A_chordShare 14 = .ok (.aload_n 0, 1) := by decide +kernel
theorem d_A_chordShare_15 : decode b_A_chordShare 15 = .ok (.getfield 27, 3) := by decide +kernel
theorem d_A_chordShare_18 : decode b_A_chordShare 18 = .ok (.iload_n 2, 1) := by decide +kernel
theorem d_A_chordShare_19 : decode b_A_chordShare 19 = .ok (.if_icmp .lt 7, 3) := by decide +kernel
theorem d_A_chordShare_22 : decode b_A_chordShare 22 = .ok (.iconst 1, 1) := by decide +kernel
theorem d_A_chordShare_23 : decode b_A_chordShare 23 = .ok (.goto 4, 3) := by decide +kernel
theorem d_A_chordShare_26 : decode b_A_chordShare 26 = .ok (.iconst 0, 1) := by decide +kernel
theorem d_A_chordShare_27 : decode b_A_chordShare 27 = .ok (.istore 4, 2) := by decide +kernel
theorem d_A_chordShare_29 : decode b_A_chordShare 29 = .ok (.iload_n 3, 1) := by decide +kernel
theorem d_A_chordShare_30 : decode b_A_chordShare 30 = .ok (.iload 4, 2) := by decide +kernel
theorem d_A_chordShare_32 : decode b_A_chordShare 32 = .ok (.if_icmp .ne 5, 3) := by decide +kernel
theorem d_A_chordShare_35 : decode b_A_chordShare 35 = .ok (.iconst 0, 1) := by decide +kernel
theorem d_A_chordShare_36 : decode b_A_chordShare 36 = .ok (.ireturn, 1) := by decide +kernel
theorem d_A_chordShare_37 : decode b_A_chordShare 37 = .ok (.iload 4, 2) := by decide +kernel
theorem d_A_chordShare_39 : decode b_A_chordShare 39 = .ok (.ifCond .eq 13, 3) := by decide +kernel
theorem d_A_chordShare_42 : decode b_A_chordShare 42 = .ok (.iload_n 1, 1) := by decide +kernel
theorem d_A_chordShare_43 : decode b_A_chordShare 43 = .ok (.ifCond .ge 7, 3) := by decide +kernel
theorem d_A_chordShare_46 : decode b_A_chordShare 46 = .ok (.iconst 1, 1) := by decide +kernel
theorem d_A_chordShare_47 : decode b_A_chordShare 47 = .ok (.goto 4, 3) := by decide +kernel
theorem d_A_chordShare_50 : decode b_A_chordShare 50 = .ok (.iconst 0, 1) := by decide +kernel
theorem d_A_chordShare_51 : decode b_A_chordShare 51 = .ok (.ireturn, 1) := by decide +kernel
theorem d_A_chordShare_52 : decode b_A_chordShare 52 = .ok (.iload_n 1, 1) := by decide +kernel
theorem d_A_chordShare_53 : decode b_A_chordShare 53 = .ok (.ifCond .le 7, 3) := by decide +kernel
theorem d_A_chordShare_56 : decode b_A_chordShare 56 = .ok (.iconst (-1), 1) := by decide +kernel
theorem d_A_chordShare_57 : decode b_A_chordShare 57 = .ok (.goto 4, 3) := by decide +kernel
theorem d_A_chordShare_60 : decode b_A_chordShare 60 = .ok (.iconst 0, 1) := by decide +kernel
theorem d_A_chordShare_61 : decode b_A_chordShare 61 = .ok (.ireturn, 1) := by decide +kernel
theorem d_A_onStraightArc_0 : decode b_A_onStraightArc 0 = .ok (.aload_n 0, 1) := by decide +kernel
theorem d_A_onStraightArc_1 : decode b_A_onStraightArc 1 = .ok (.getfield 11, 3) := by decide +kernel
theorem d_A_onStraightArc_4 : decode b_A_onStraightArc 4 = .ok (.iload_n 1, 1) := by decide +kernel
theorem d_A_onStraightArc_5 : decode b_A_onStraightArc 5 = .ok (.isub, 1) := by decide +kernel
theorem d_A_onStraightArc_6 : decode b_A_onStraightArc 6 = .ok (.i2l, 1) := by decide +kernel
theorem d_A_onStraightArc_7 : decode b_A_onStraightArc 7 = .ok (.aload_n 0, 1) := by decide +kernel
theorem d_A_onStraightArc_8 : decode b_A_onStraightArc 8 = .ok (.getfield 18, 3) := by decide +kernel
theorem d_A_onStraightArc_11 : decode b_A_onStraightArc 11 = .ok (.iload_n 1, 1) := by decide +kernel
theorem d_A_onStraightArc_12 : decode b_A_onStraightArc 12 = .ok (.isub, 1) := by decide +kernel
theorem d_A_onStraightArc_13 : decode b_A_onStraightArc 13 = .ok (.i2l, 1) := by decide +kernel
theorem d_A_onStraightArc_14 : decode b_A_onStraightArc 14 = .ok (.aload_n 0, 1) := by decide +kernel
theorem d_A_onStraightArc_15 : decode b_A_onStraightArc 15 = .ok (.getfield 24, 3) := by decide +kernel
theorem d_A_onStraightArc_18 : decode b_A_onStraightArc 18 = .ok (.iload_n 1, 1) := by decide +kernel
theorem d_A_onStraightArc_19 : decode b_A_onStraightArc 19 = .ok (.isub, 1) := by decide +kernel
theorem d_A_onStraightArc_20 : decode b_A_onStraightArc 20 = .ok (.i2l, 1) := by decide +kernel
theorem d_A_onStraightArc_21 : decode b_A_onStraightArc 21 = .ok (.invokestatic 78, 3) := by decide +kernel
theorem d_A_onStraightArc_24 : decode b_A_onStraightArc 24 = .ok (.ifCond .eq 34, 3) := by decide +kernel
theorem d_A_onStraightArc_27 : decode b_A_onStraightArc 27 = .ok (.aload_n 0, 1) := by decide +kernel
theorem d_A_onStraightArc_28 : decode b_A_onStraightArc 28 = .ok (.getfield 15, 3) := by decide +kernel
theorem d_A_onStraightArc_31 : decode b_A_onStraightArc 31 = .ok (.iload_n 2, 1) := by decide +kernel
theorem d_A_onStraightArc_32 : decode b_A_onStraightArc 32 = .ok (.isub, 1) := by decide +kernel
theorem d_A_onStraightArc_33 : decode b_A_onStraightArc 33 = .ok (.i2l, 1) := by decide +kernel
theorem d_A_onStraightArc_34 : decode b_A_onStraightArc 34 = .ok (.aload_n 0, 1) := by decide +kernel
theorem d_A_onStraightArc_35 : decode b_A_onStraightArc 35 = .ok (.getfield 21, 3) := by decide +kernel
theorem d_A_onStraightArc_38 : decode b_A_onStraightArc 38 = .ok (.iload_n 2, 1) := by decide +kernel
theorem d_A_onStraightArc_39 : decode b_A_onStraightArc 39 = .ok (.isub, 1) := by decide +kernel
theorem d_A_onStraightArc_40 : decode b_A_onStraightArc 40 = .ok (.i2l, 1) := by decide +kernel
theorem d_A_onStraightArc_41 : decode b_A_onStraightArc 41 = .ok (.aload_n 0, 1) := by decide +kernel
theorem d_A_onStraightArc_42 : decode b_A_onStraightArc 42 = .ok (.getfield 27, 3) := by decide +kernel
theorem d_A_onStraightArc_45 : decode b_A_onStraightArc 45 = .ok (.iload_n 2, 1) := by decide +kernel
theorem d_A_onStraightArc_46 : decode b_A_onStraightArc 46 = .ok (.isub, 1) := by decide +kernel
theorem d_A_onStraightArc_47 : decode b_A_onStraightArc 47 = .ok (.i2l, 1) := by decide +kernel
theorem d_A_onStraightArc_48 : decode b_A_onStraightArc 48 = .ok (.invokestatic 78, 3) := by decide +kernel
theorem d_A_onStraightArc_51 : decode b_A_onStraightArc 51 = .ok (.ifCond .eq 7, 3) := by decide +kernel
theorem d_A_onStraightArc_54 : decode b_A_onStraightArc 54 = .ok (.iconst 1, 1) := by decide +kernel
theorem d_A_onStraightArc_55 : decode b_A_onStraightArc 55 = .ok (.goto 4, 3) := by decide +kernel
theorem d_A_onStraightArc_58 : decode b_A_onStraightArc 58 = .ok (.iconst 0, 1) := by decide +kernel
theorem d_A_onStraightArc_59 : decode b_A_onStraightArc 59 = .ok (.ireturn, 1) := by decide +kernel
theorem d_A_reachesZero_0 : decode b_A_reachesZero 0 = .ok (.lload_n 0, 1) := by decide +kernel
theorem d_A_reachesZero_1 : decode b_A_reachesZero 1 = .ok (.lconst 0, 1) := by decide +kernel
theorem d_A_reachesZero_2 : decode b_A_reachesZero 2 = .ok (.invokestatic 47, 3) := by decide +kernel
theorem d_A_reachesZero_5 : decode b_A_reachesZero 5 = .ok (.istore 6, 2) := by decide +kernel
theorem d_A_reachesZero_7 : decode b_A_reachesZero 7 = .ok (.iload 6, 2) := by decide +kernel
theorem d_A_reachesZero_9 : decode b_A_reachesZero 9 = .ok (.ifCond .eq 14, 3) := by decide +kernel
theorem d_A_reachesZero_12 : decode b_A_reachesZero 12 = .ok (.lload 4, 2) := by decide +kernel
theorem d_A_reachesZero_14 : decode b_A_reachesZero 14 = .ok (.lconst 0, 1) := by decide +kernel
theorem d_A_reachesZero_15 : decode b_A_reachesZero 15 = .ok (.invokestatic 47, 3) := by decide +kernel
theorem d_A_reachesZero_18 : decode b_A_reachesZero 18 = .ok (.iload 6, 2) := by decide +kernel
theorem d_A_reachesZero_20 : decode b_A_reachesZero 20 = .ok (.if_icmp .eq 5, 3) := by decide +kernel
theorem d_A_reachesZero_23 : decode b_A_reachesZero 23 = .ok (.iconst 1, 1) := by decide +kernel
theorem d_A_reachesZero_24 : decode b_A_reachesZero 24 = .ok (.ireturn, 1) := by decide +kernel
theorem d_A_reachesZero_25 : decode b_A_reachesZero 25 = .ok (.lload_n 2, 1) := by decide +kernel
theorem d_A_reachesZero_26 : decode b_A_reachesZero 26 = .ok (.lconst 0, 1) := by decide +kernel
theorem d_A_reachesZero_27 : decode b_A_reachesZero 27 = .ok (.invokestatic 47, 3) := by decide +kernel
theorem d_A_reachesZero_30 : decode b_A_reachesZero 30 = .ok (.iload 6, 2) := by decide +kernel
theorem d_A_reachesZero_32 : decode b_A_reachesZero 32 = .ok (.ineg, 1) := by decide +kernel
theorem d_A_reachesZero_33 : decode b_A_reachesZero 33 = .ok (.if_icmp .ne 18, 3) := by decide +kernel
theorem d_A_reachesZero_36 : decode b_A_reachesZero 36 = .ok (.lload_n 2, 1) := by decide +kernel
theorem d_A_reachesZero_37 : decode b_A_reachesZero 37 = .ok (.lload_n 2, 1) := by decide +kernel
theorem d_A_reachesZero_38 : decode b_A_reachesZero 38 = .ok (.lmul, 1) := by decide +kernel
theorem d_A_reachesZero_39 : decode b_A_reachesZero 39 = .ok (.lload_n 0, 1) := by decide +kernel
theorem d_A_reachesZero_40 : decode b_A_reachesZero 40 = .ok (.lload 4, 2) := by decide +kernel
theorem d_A_reachesZero_42 : decode b_A_reachesZero 42 = .ok (.lmul, 1) := by decide +kernel
theorem d_A_reachesZero_43 : decode b_A_reachesZero 43 = .ok (.lcmp, 1) := by decide +kernel
theorem d_A_reachesZero_44 : decode b_A_reachesZero 44 = .ok (.ifCond .lt 7, 3) := by decide +kernel
theorem d_A_reachesZero_47 : decode b_A_reachesZero 47 = .ok (.iconst 1, 1) := by decide +kernel
theorem d_A_reachesZero_48 : decode b_A_reachesZero 48 = .ok (.goto 4, 3) := by decide +kernel
theorem d_A_reachesZero_51 : decode b_A_reachesZero 51 = .ok (.iconst 0, 1) := by decide +kernel
theorem d_A_reachesZero_52 : decode b_A_reachesZero 52 = .ok (.ireturn, 1) := by decide +kernel
theorem d_A_compareProducts_0 : decode b_A_compareProducts 0 = .ok (.lload_n 0, 1) := by decide +kernel
theorem d_A_compareProducts_1 : decode b_A_compareProducts 1 = .ok (.lload_n 2, 1) := by decide +kernel
theorem d_A_compareProducts_2 : decode b_A_compareProducts 2 = .ok (.invokestatic 82, 3) := by decide +kernel
theorem d_A_compareProducts_5 : decode b_A_compareProducts 5 = .ok (.lload 4, 2) := by decide +kernel
theorem d_A_compareProducts_7 : decode b_A_compareProducts 7 = .ok (.lload 6, 2) := by decide +kernel
theorem d_A_compareProducts_9 : decode b_A_compareProducts 9 = .ok (.invokestatic 82, 3) := by decide +kernel
theorem d_A_compareProducts_12 : decode b_A_compareProducts 12 = .ok (.invokestatic 47, 3) := by decide +kernel
theorem d_A_compareProducts_15 : decode b_A_compareProducts 15 = .ok (.istore 8, 2) := by decide +kernel
theorem d_A_compareProducts_17 : decode b_A_compareProducts 17 = .ok (.iload 8, 2) := by decide +kernel
theorem d_A_compareProducts_19 : decode b_A_compareProducts 19 = .ok (.ifCond .eq 8, 3) := by decide +kernel
theorem d_A_compareProducts_22 : decode b_A_compareProducts 22 = .ok (.iload 8, 2) := by decide +kernel
theorem d_A_compareProducts_24 : decode b_A_compareProducts 24 = .ok (.goto 18, 3) := by decide +kernel
theorem d_A_compareProducts_27 : decode b_A_compareProducts 27 = .ok (.lload_n 0, 1) := by decide +kernel
theorem d_A_compareProducts_28 : decode b_A_compareProducts 28 = .ok (.lload_n 2, 1) := by decide +kernel
theorem d_A_compareProducts_29 : decode b_A_compareProducts 29 = .ok (.invokestatic 86, 3) := by decide +kernel
theorem d_A_compareProducts_32 : decode b_A_compareProducts 32 = .ok (.lload 4, 2) := by decide +kernel
theorem d_A_compareProducts_34 : decode b_A_compareProducts 34 = .ok (.lload 6, 2) := by decide +kernel
theorem d_A_compareProducts_36 : decode b_A_compareProducts 36 = .ok (.invokestatic 86, 3) := by decide +kernel
theorem d_A_compareProducts_39 : decode b_A_compareProducts 39 = .ok (.invokestatic 47, 3) := by decide +kernel
theorem d_A_compareProducts_42 : decode b_A_compareProducts 42 = .ok (.ireturn, 1) := by decide +kernel
theorem d_A_highPart_0 : decode b_A_highPart 0 = .ok (.lload_n 0, 1) := by decide +kernel
theorem d_A_highPart_1 : decode b_A_highPart 1 = .ok (.bipush 20, 2) := by decide +kernel
theorem d_A_highPart_3 : decode b_A_highPart 3 = .ok (.lshr, 1) := by decide +kernel
theorem d_A_highPart_4 : decode b_A_highPart 4 = .ok (.lload_n 2, 1) := by decide +kernel
theorem d_A_highPart_5 : decode b_A_highPart 5 = .ok (.lmul, 1) := by decide +kernel
theorem d_A_highPart_6 : decode b_A_highPart 6 = .ok (.lload_n 0, 1) := by decide +kernel
theorem d_A_highPart_7 : decode b_A_highPart 7 = .ok (.ldc2_w 89, 3) := by decide +kernel
theorem d_A_highPart_10 : decode b_A_highPart 10 = .ok (.land, 1) := by decide +kernel
theorem d_A_highPart_11 : decode b_A_highPart 11 = .ok (.lload_n 2, 1) := by decide +kernel
theorem d_A_highPart_12 : decode b_A_highPart 12 = .ok (.lmul, 1) := by decide +kernel
theorem d_A_highPart_13 : decode b_A_highPart 13 = .ok (.bipush 20, 2) := by decide +kernel
theorem d_A_highPart_15 : decode b_A_highPart 15 = .ok (.lshr, 1) := by decide +kernel
theorem d_A_highPart_16 : decode b_A_highPart 16 = .ok (.ladd, 1) := by decide +kernel
theorem d_A_highPart_17 : decode b_A_highPart 17 = .ok (.lreturn, 1) := by decide +kernel
theorem d_A_lowPart_0 : decode b_A_lowPart 0 = .ok (.lload_n 0, 1) := by decide +kernel
theorem d_A_lowPart_1 : decode b_A_lowPart 1 = .ok (.ldc2_w 89, 3) := by decide +kernel
theorem d_A_lowPart_4 : decode b_A_lowPart 4 = .ok (.land, 1) := by decide +kernel
theorem d_A_lowPart_5 : decode b_A_lowPart 5 = .ok (.lload_n 2, 1) := by decide +kernel
theorem d_A_lowPart_6 : decode b_A_lowPart 6 = .ok (.lmul, 1) := by decide +kernel
theorem d_A_lowPart_7 : decode b_A_lowPart 7 = .ok (.ldc2_w 89, 3) := by decide +kernel
theorem d_A_lowPart_10 : decode b_A_lowPart 10 = .ok (.land, 1) := by decide +kernel
theorem d_A_lowPart_11 : decode b_A_lowPart 11 = .ok (.lreturn, 1) := by decide +kernel
end
section
theorem d_H_min_0 : decode b_H_min 0 = .ok (.iload_n 0, 1) := by decide +kernel
theorem d_H_min_1 : decode b_H_min 1 = .ok (.iload_n 1, 1) := by decide +kernel
theorem d_H_min_2 : decode b_H_min 2 = .ok (.if_icmp .gt 7, 3) := by decide +kernel
theorem d_H_min_5 : decode b_H_min 5 = .ok (.iload_n 0, 1) := by decide +kernel
theorem d_H_min_6 : decode b_H_min 6 = .ok (.goto 4, 3) := by decide +kernel
theorem d_H_min_9 : decode b_H_min 9 = .ok (.iload_n 1, 1) := by decide +kernel
theorem d_H_min_10 : decode b_H_min 10 = .ok (.ireturn, 1) := by decide +kernel
theorem d_H_max_0 : decode b_H_max 0 = .ok (.iload_n 0, 1) := by decide +kernel
theorem d_H_max_1 : decode b_H_max 1 = .ok (.iload_n 1, 1) := by decide +kernel
theorem d_H_max_2 : decode b_H_max 2 = .ok (.if_icmp .lt 7, 3) := by decide +kernel
theorem d_H_max_5 : decode b_H_max 5 = .ok (.iload_n 0, 1) := by decide +kernel
theorem d_H_max_6 : decode b_H_max 6 = .ok (.goto 4, 3) := by decide +kernel
theorem d_H_max_9 : decode b_H_max 9 = .ok (.iload_n 1, 1) := by decide +kernel
theorem d_H_max_10 : decode b_H_max 10 = .ok (.ireturn, 1) := by decide +kernel
theorem d_T_init_0 : decode b_T_init 0 = .ok (.aload_n 0, 1) := by decide +kernel
theorem d_T_init_1 : decode b_T_init 1 = .ok (.invokespecial 1, 3) := by decide +kernel
theorem d_T_init_4 : decode b_T_init 4 = .ok (.aload_n 0, 1) := by decide +kernel
theorem d_T_init_5 : decode b_T_init 5 = .ok (.getstatic 39, 3) := by decide +kernel
theorem d_T_init_8 : decode b_T_init 8 = .ok (.putfield 9, 3) := by decide +kernel
theorem d_T_init_11 : decode b_T_init 11 = .ok (.return_, 1) := by decide +kernel
theorem d_U_init_0 : decode b_U_init 0 = .ok (.aload_n 0, 1) := by decide +kernel
theorem d_U_init_1 : decode b_U_init 1 = .ok (.invokespecial 1, 3) := by decide +kernel
theorem d_U_init_4 : decode b_U_init 4 = .ok (.aload_n 0, 1) := by decide +kernel
theorem d_U_init_5 : decode b_U_init 5 = .ok (.iconst 0, 1) := by decide +kernel
theorem d_U_init_6 : decode b_U_init 6 = .ok (.putfield 7, 3) := by decide +kernel
theorem d_U_init_9 : decode b_U_init 9 = .ok (.return_, 1) := by decide +kernel
theorem d_V_init_0 : decode b_V_init 0 = .ok (.aload_n 0, 1) := by decide +kernel
theorem d_V_init_1 : decode b_V_init 1 = .ok (.invokespecial 1, 3) := by decide +kernel
theorem d_V_init_4 : decode b_V_init 4 = .ok (.return_, 1) := by decide +kernel
theorem d_T_add1_0 : decode b_T_add1 0 = .ok (.aload_n 0, 1) := by decide +kernel
theorem d_T_add1_1 : decode b_T_add1 1 = .ok (.dup, 1) := by decide +kernel
theorem d_T_add1_2 : decode b_T_add1 2 = .ok (.getfield 63, 3) := by decide +kernel
theorem d_T_add1_5 : decode b_T_add1 5 = .ok (.iconst 1, 1) := by decide +kernel
theorem d_T_add1_6 : decode b_T_add1 6 = .ok (.iadd, 1) := by decide +kernel
theorem d_T_add1_7 : decode b_T_add1 7 = .ok (.putfield 63, 3) := by decide +kernel
theorem d_T_add1_10 : decode b_T_add1 10 = .ok (.aload_n 0, 1) := by decide +kernel
theorem d_T_add1_11 : decode b_T_add1 11 = .ok (.aload_n 1, 1) := by decide +kernel
theorem d_T_add1_12 : decode b_T_add1 12 = .ok (.aload_n 0, 1) := by decide +kernel
theorem d_T_add1_13 : decode b_T_add1 13 = .ok (.getfield 9, 3) := by decide +kernel
theorem d_T_add1_16 : decode b_T_add1 16 = .ok (.aload_n 0, 1) := by decide +kernel
theorem d_T_add1_17 : decode b_T_add1 17 = .ok (.getfield 48, 3) := by decide +kernel
theorem d_T_add1_20 : decode b_T_add1 20 = .ok (.invokevirtual 131, 3) := by decide +kernel
theorem d_T_add1_23 : decode b_T_add1 23 = .ok (.iconst 1, 1) := by decide +kernel
theorem d_T_add1_24 : decode b_T_add1 24 = .ok (.ireturn, 1) := by decide +kernel
theorem d_T_add2_0 : decode b_T_add2 0 = .ok (.iload_n 3, 1) := by decide +kernel
theorem d_T_add2_1 : decode b_T_add2 1 = .ok (.aload_n 2, 1) := by decide +kernel
theorem d_T_add2_2 : decode b_T_add2 2 = .ok (.arraylength, 1) := by decide +kernel
theorem d_T_add2_3 : decode b_T_add2 3 = .ok (.if_icmp .ne 8, 3) := by decide +kernel
theorem d_T_add2_6 : decode b_T_add2 6 = .ok (.aload_n 0, 1) := by decide +kernel
theorem d_T_add2_7 : decode b_T_add2 7 = .ok (.invokevirtual 129, 3) := by decide +kernel
theorem d_T_add2_10 : decode b_T_add2 10 = .ok (.astore_n 2, 1) := by decide +kernel
theorem d_T_add2_11 : decode b_T_add2 11 = .ok (.aload_n 2, 1) := by decide +kernel
theorem d_T_add2_12 : decode b_T_add2 12 = .ok (.iload_n 3, 1) := by decide +kernel
theorem d_T_add2_13 : decode b_T_add2 13 = .ok (.aload_n 1, 1) := by decide +kernel
theorem d_T_add2_14 : decode b_T_add2 14 = .ok (.aastore, 1) := by decide +kernel
theorem d_T_add2_15 : decode b_T_add2 15 = .ok (.aload_n 0, 1) := by decide +kernel
theorem d_T_add2_16 : decode b_T_add2 16 = .ok (.iload_n 3, 1) := by decide +kernel
theorem d_T_add2_17 : decode b_T_add2 17 = .ok (.iconst 1, 1) := by decide +kernel
theorem d_T_add2_18 : decode b_T_add2 18 = .ok (.iadd, 1) := by decide +kernel
theorem d_T_add2_19 : decode b_T_add2 19 = .ok (.putfield 48, 3) := by decide +kernel
theorem d_T_add2_22 : decode b_T_add2 22 = .ok (.return_, 1) := by decide +kernel
theorem d_T_grow1_0 : decode b_T_grow1 0 = .ok (.aload_n 0, 1) := by decide +kernel
theorem d_T_grow1_1 : decode b_T_grow1 1 = .ok (.aload_n 0, 1) := by decide +kernel
theorem d_T_grow1_2 : decode b_T_grow1 2 = .ok (.getfield 48, 3) := by decide +kernel
theorem d_T_grow1_5 : decode b_T_grow1 5 = .ok (.iconst 1, 1) := by decide +kernel
theorem d_T_grow1_6 : decode b_T_grow1 6 = .ok (.iadd, 1) := by decide +kernel
theorem d_T_grow1_7 : decode b_T_grow1 7 = .ok (.invokevirtual 69, 3) := by decide +kernel
theorem d_T_grow1_10 : decode b_T_grow1 10 = .ok (.areturn, 1) := by decide +kernel
theorem d_T_grow2_0 : decode b_T_grow2 0 = .ok (.aload_n 0, 1) := by decide +kernel
theorem d_T_grow2_1 : decode b_T_grow2 1 = .ok (.getfield 9, 3) := by decide +kernel
theorem d_T_grow2_4 : decode b_T_grow2 4 = .ok (.arraylength, 1) := by decide +kernel
theorem d_T_grow2_5 : decode b_T_grow2 5 = .ok (.istore_n 2, 1) := by decide +kernel
theorem d_T_grow2_6 : decode b_T_grow2 6 = .ok (.iload_n 2, 1) := by decide +kernel
theorem d_T_grow2_7 : decode b_T_grow2 7 = .ok (.ifCond .gt 13, 3) := by decide +kernel
theorem d_T_grow2_10 : decode b_T_grow2 10 = .ok (.aload_n 0, 1) := by decide +kernel
theorem d_T_grow2_11 : decode b_T_grow2 11 = .ok (.getfield 9, 3) := by decide +kernel
theorem d_T_grow2_14 : decode b_T_grow2 14 = .ok (.getstatic 39, 3) := by decide +kernel
theorem d_T_grow2_17 : decode b_T_grow2 17 = .ok (.if_acmp .eq 28, 3) := by decide +kernel
theorem d_T_grow2_20 : decode b_T_grow2 20 = .ok (.iload_n 2, 1) := by decide +kernel
theorem d_T_grow2_21 : decode b_T_grow2 21 = .ok (.iload_n 1, 1) := by decide +kernel
theorem d_T_grow2_22 : decode b_T_grow2 22 = .ok (.iload_n 2, 1) := by decide +kernel
theorem d_T_grow2_23 : decode b_T_grow2 23 = .ok (.isub, 1) := by decide +kernel
theorem d_T_grow2_24 : decode b_T_grow2 24 = .ok (.iload_n 2, 1) := by decide +kernel
theorem d_T_grow2_25 : decode b_T_grow2 25 = .ok (.iconst 1, 1) := by decide +kernel
theorem d_T_grow2_26 : decode b_T_grow2 26 = .ok (.ishr, 1) := by decide +kernel
theorem d_T_grow2_27 : decode b_T_grow2 27 = .ok (.invokestatic 73, 3) := by decide +kernel
theorem d_T_grow2_30 : decode b_T_grow2 30 = .ok (.istore_n 3, 1) := by decide +kernel
theorem d_T_grow2_31 : decode b_T_grow2 31 = .ok (.aload_n 0, 1) := by decide +kernel
theorem d_T_grow2_32 : decode b_T_grow2 32 = .ok (.aload_n 0, 1) := by decide +kernel
theorem d_T_grow2_33 : decode b_T_grow2 33 = .ok (.getfield 9, 3) := by decide +kernel
theorem d_T_grow2_36 : decode b_T_grow2 36 = .ok (.iload_n 3, 1) := by decide +kernel
theorem d_T_grow2_37 : decode b_T_grow2 37 = .ok (.invokestatic 66, 3) := by decide +kernel
theorem d_T_grow2_40 : decode b_T_grow2 40 = .ok (.dup_x1, 1) := by decide +kernel
theorem d_T_grow2_41 : decode b_T_grow2 41 = .ok (.putfield 9, 3) := by decide +kernel
theorem d_T_grow2_44 : decode b_T_grow2 44 = .ok (.areturn, 1) := by decide +kernel
theorem d_T_grow2_45 : decode b_T_grow2 45 = .ok (.aload_n 0, 1) := by decide +kernel
theorem d_T_grow2_46 : decode b_T_grow2 46 = .ok (.bipush 10, 2) := by decide +kernel
theorem d_T_grow2_48 : decode b_T_grow2 48 = .ok (.iload_n 1, 1) := by decide +kernel
theorem d_T_grow2_49 : decode b_T_grow2 49 = .ok (.invokestatic 79, 3) := by decide +kernel
theorem d_T_grow2_52 : decode b_T_grow2 52 = .ok (.anewarray 7, 3) := by decide +kernel
theorem d_T_grow2_55 : decode b_T_grow2 55 = .ok (.dup_x1, 1) := by decide +kernel
theorem d_T_grow2_56 : decode b_T_grow2 56 = .ok (.putfield 9, 3) := by decide +kernel
theorem d_T_grow2_59 : decode b_T_grow2 59 = .ok (.areturn, 1) := by decide +kernel
theorem d_P_newLength_0 : decode b_P_newLength 0 = .ok (.iload_n 0, 1) := by decide +kernel
theorem d_P_newLength_1 : decode b_P_newLength 1 = .ok (.iload_n 1, 1) := by decide +kernel
theorem d_P_newLength_2 : decode b_P_newLength 2 = .ok (.iload_n 2, 1) := by decide +kernel
theorem d_P_newLength_3 : decode b_P_newLength 3 = .ok (.invokestatic 194, 3) := by decide +kernel
theorem d_P_newLength_6 : decode b_P_newLength 6 = .ok (.iadd, 1) := by decide +kernel
theorem d_P_newLength_7 : decode b_P_newLength 7 = .ok (.istore_n 3, 1) := by decide +kernel
theorem d_P_newLength_8 : decode b_P_newLength 8 = .ok (.iconst 0, 1) := by decide +kernel
theorem d_P_newLength_9 : decode b_P_newLength 9 = .ok (.iload_n 3, 1) := by decide +kernel
theorem d_P_newLength_10 : decode b_P_newLength 10 = .ok (.if_icmp .ge 11, 3) := by decide +kernel
theorem d_P_newLength_13 : decode b_P_newLength 13 = .ok (.iload_n 3, 1) := by decide +kernel
theorem d_P_newLength_14 : decode b_P_newLength 14 = .ok (.ldc 200, 2) := by decide +kernel
theorem d_P_newLength_16 : decode b_P_newLength 16 = .ok (.if_icmp .gt 5, 3) := by decide +kernel
theorem d_P_newLength_19 : decode b_P_newLength 19 = .ok (.iload_n 3, 1) := by decide +kernel
theorem d_P_newLength_20 : decode b_P_newLength 20 = .ok (.ireturn, 1) := by decide +kernel
theorem d_P_newLength_21 : decode b_P_newLength 21 = .ok (.iload_n 0, 1) := by decide +kernel
theorem d_P_newLength_22 : decode b_P_newLength 22 = .ok (.iload_n 1, 1) := by decide +kernel
theorem d_P_newLength_23 : decode b_P_newLength 23 = .ok (.invokestatic 201, 3) := by decide +kernel
theorem d_P_newLength_26 : decode b_P_newLength 26 = .ok (.ireturn, 1) := by decide +kernel
theorem d_P_hugeLength_0 : decode b_P_hugeLength 0 = .ok (.iload_n 0, 1) := by decide +kernel
theorem d_P_hugeLength_1 : decode b_P_hugeLength 1 = .ok (.iload_n 1, 1) := by decide +kernel
theorem d_P_hugeLength_2 : decode b_P_hugeLength 2 = .ok (.iadd, 1) := by decide +kernel
theorem d_P_hugeLength_3 : decode b_P_hugeLength 3 = .ok (.istore_n 2, 1) := by decide +kernel
theorem d_P_hugeLength_4 : decode b_P_hugeLength 4 = .ok (.iload_n 2, 1) := by decide +kernel
theorem d_P_hugeLength_5 : decode b_P_hugeLength 5 = .ok (.ifCond .ge 44, 3) := by decide +kernel
theorem d_P_hugeLength_8 : decode b_P_hugeLength 8 = .ok (.new 204, 3) := by decide +kernel
theorem d_P_hugeLength_11 : decode b_P_hugeLength 11 = .ok (.dup, 1) := by decide +kernel
theorem d_P_hugeLength_12 : decode b_P_hugeLength 12 = .ok (.new 89, 3) := by decide +kernel
theorem d_P_hugeLength_15 : decode b_P_hugeLength 15 = .ok (.dup, 1) := by decide +kernel
theorem d_P_hugeLength_16 : decode b_P_hugeLength 16 = .ok (.invokespecial 91, 3) := by decide +kernel
theorem d_P_hugeLength_19 : decode b_P_hugeLength 19 = .ok (.ldc 206, 2) := by decide +kernel
theorem d_P_hugeLength_21 : decode b_P_hugeLength 21 = .ok (.invokevirtual 94, 3) := by decide +kernel
theorem d_P_hugeLength_24 : decode b_P_hugeLength 24 = .ok (.iload_n 0, 1) := by decide +kernel
theorem d_P_hugeLength_25 : decode b_P_hugeLength 25 = .ok (.invokevirtual 98, 3) := by decide +kernel
theorem d_P_hugeLength_28 : decode b_P_hugeLength 28 = .ok (.ldc 208, 2) := by decide +kernel
theorem d_P_hugeLength_30 : decode b_P_hugeLength 30 = .ok (.invokevirtual 94, 3) := by decide +kernel
theorem d_P_hugeLength_33 : decode b_P_hugeLength 33 = .ok (.iload_n 1, 1) := by decide +kernel
theorem d_P_hugeLength_34 : decode b_P_hugeLength 34 = .ok (.invokevirtual 98, 3) := by decide +kernel
theorem d_P_hugeLength_37 : decode b_P_hugeLength 37 = .ok (.ldc 210, 2) := by decide +kernel
theorem d_P_hugeLength_39 : decode b_P_hugeLength 39 = .ok (.invokevirtual 94, 3) := by decide +kernel
theorem d_P_hugeLength_42 : decode b_P_hugeLength 42 = .ok (.invokevirtual 101, 3) := by decide +kernel
theorem d_P_hugeLength_45 : decode b_P_hugeLength 45 = .ok (.invokespecial 212, 3) := by decide +kernel
theorem d_P_hugeLength_48 : decode b_P_hugeLength 48 = .ok (.athrow, 1) := by decide +kernel
theorem d_P_hugeLength_49 : decode b_P_hugeLength 49 = .ok (.iload_n 2, 1) := by decide +kernel
theorem d_P_hugeLength_50 : decode b_P_hugeLength 50 = .ok (.ldc 200, 2) := by decide +kernel
theorem d_P_hugeLength_52 : decode b_P_hugeLength 52 = .ok (.if_icmp .gt 6, 3) := by decide +kernel
theorem d_P_hugeLength_55 : decode b_P_hugeLength 55 = .ok (.ldc 200, 2) := by decide +kernel
theorem d_P_hugeLength_57 : decode b_P_hugeLength 57 = .ok (.ireturn, 1) := by decide +kernel
theorem d_P_hugeLength_58 : decode b_P_hugeLength 58 = .ok (.iload_n 2, 1) := by decide +kernel
theorem d_P_hugeLength_59 : decode b_P_hugeLength 59 = .ok (.ireturn, 1) := by decide +kernel
theorem d_Y_copyOf1_0 : decode b_Y_copyOf1 0 = .ok (.aload_n 0, 1) := by decide +kernel
theorem d_Y_copyOf1_1 : decode b_Y_copyOf1 1 = .ok (.iload_n 1, 1) := by decide +kernel
theorem d_Y_copyOf1_2 : decode b_Y_copyOf1 2 = .ok (.aload_n 0, 1) := by decide +kernel
theorem d_Y_copyOf1_3 : decode b_Y_copyOf1 3 = .ok (.invokevirtual 86, 3) := by decide +kernel
theorem d_Y_copyOf1_6 : decode b_Y_copyOf1 6 = .ok (.invokestatic 300, 3) := by decide +kernel
theorem d_Y_copyOf1_9 : decode b_Y_copyOf1 9 = .ok (.areturn, 1) := by decide +kernel
theorem d_Y_copyOf2_0 : decode b_Y_copyOf2 0 = .ok (.aload_n 2, 1) := by decide +kernel
theorem d_Y_copyOf2_1 : decode b_Y_copyOf2 1 = .ok (.ldc 110, 2) := by decide +kernel
theorem d_Y_copyOf2_3 : decode b_Y_copyOf2 3 = .ok (.if_acmp .ne 10, 3) := by decide +kernel
theorem d_Y_copyOf2_6 : decode b_Y_copyOf2 6 = .ok (.iload_n 1, 1) := by decide +kernel
theorem d_Y_copyOf2_7 : decode b_Y_copyOf2 7 = .ok (.anewarray 2, 3) := by decide +kernel
theorem d_Y_copyOf2_10 : decode b_Y_copyOf2 10 = .ok (.goto 14, 3) := by decide +kernel
theorem d_Y_copyOf2_13 : decode b_Y_copyOf2 13 = .ok (.aload_n 2, 1) := by decide +kernel
theorem d_Y_copyOf2_14 : decode b_Y_copyOf2 14 = .ok (.invokevirtual 90, 3) := by decide +kernel
theorem d_Y_copyOf2_17 : decode b_Y_copyOf2 17 = .ok (.iload_n 1, 1) := by decide +kernel
theorem d_Y_copyOf2_18 : decode b_Y_copyOf2 18 = .ok (.invokestatic 95, 3) := by decide +kernel
theorem d_Y_copyOf2_21 : decode b_Y_copyOf2 21 = .ok (.checkcast 110, 3) := by decide +kernel
theorem d_Y_copyOf2_24 : decode b_Y_copyOf2 24 = .ok (.astore_n 3, 1) := by decide +kernel
theorem d_Y_copyOf2_25 : decode b_Y_copyOf2 25 = .ok (.aload_n 0, 1) := by decide +kernel
theorem d_Y_copyOf2_26 : decode b_Y_copyOf2 26 = .ok (.iconst 0, 1) := by decide +kernel
theorem d_Y_copyOf2_27 : decode b_Y_copyOf2 27 = .ok (.aload_n 3, 1) := by decide +kernel
theorem d_Y_copyOf2_28 : decode b_Y_copyOf2 28 = .ok (.iconst 0, 1) := by decide +kernel
theorem d_Y_copyOf2_29 : decode b_Y_copyOf2 29 = .ok (.aload_n 0, 1) := by decide +kernel
theorem d_Y_copyOf2_30 : decode b_Y_copyOf2 30 = .ok (.arraylength, 1) := by decide +kernel
theorem d_Y_copyOf2_31 : decode b_Y_copyOf2 31 = .ok (.iload_n 1, 1) := by decide +kernel
theorem d_Y_copyOf2_32 : decode b_Y_copyOf2 32 = .ok (.invokestatic 304, 3) := by decide +kernel
theorem d_Y_copyOf2_35 : decode b_Y_copyOf2 35 = .ok (.invokestatic 150, 3) := by decide +kernel
theorem d_Y_copyOf2_38 : decode b_Y_copyOf2 38 = .ok (.aload_n 3, 1) := by decide +kernel
theorem d_Y_copyOf2_39 : decode b_Y_copyOf2 39 = .ok (.areturn, 1) := by decide +kernel
theorem d_T_clear_0 : decode b_T_clear 0 = .ok (.aload_n 0, 1) := by decide +kernel
theorem d_T_clear_1 : decode b_T_clear 1 = .ok (.dup, 1) := by decide +kernel
theorem d_T_clear_2 : decode b_T_clear 2 = .ok (.getfield 63, 3) := by decide +kernel
theorem d_T_clear_5 : decode b_T_clear 5 = .ok (.iconst 1, 1) := by decide +kernel
theorem d_T_clear_6 : decode b_T_clear 6 = .ok (.iadd, 1) := by decide +kernel
theorem d_T_clear_7 : decode b_T_clear 7 = .ok (.putfield 63, 3) := by decide +kernel
theorem d_T_clear_10 : decode b_T_clear 10 = .ok (.aload_n 0, 1) := by decide +kernel
theorem d_T_clear_11 : decode b_T_clear 11 = .ok (.getfield 9, 3) := by decide +kernel
theorem d_T_clear_14 : decode b_T_clear 14 = .ok (.astore_n 1, 1) := by decide +kernel
theorem d_T_clear_15 : decode b_T_clear 15 = .ok (.aload_n 0, 1) := by decide +kernel
theorem d_T_clear_16 : decode b_T_clear 16 = .ok (.getfield 48, 3) := by decide +kernel
theorem d_T_clear_19 : decode b_T_clear 19 = .ok (.istore_n 2, 1) := by decide +kernel
theorem d_T_clear_20 : decode b_T_clear 20 = .ok (.aload_n 0, 1) := by decide +kernel
theorem d_T_clear_21 : decode b_T_clear 21 = .ok (.iconst 0, 1) := by decide +kernel
theorem d_T_clear_22 : decode b_T_clear 22 = .ok (.dup_x1, 1) := by decide +kernel
theorem d_T_clear_23 : decode b_T_clear 23 = .ok (.putfield 48, 3) := by decide +kernel
theorem d_T_clear_26 : decode b_T_clear 26 = .ok (.istore_n 3, 1) := by decide +kernel
theorem d_T_clear_27 : decode b_T_clear 27 = .ok (.iload_n 3, 1) := by decide +kernel
theorem d_T_clear_28 : decode b_T_clear 28 = .ok (.iload_n 2, 1) := by decide +kernel
theorem d_T_clear_29 : decode b_T_clear 29 = .ok (.if_icmp .ge 13, 3) := by decide +kernel
theorem d_T_clear_32 : decode b_T_clear 32 = .ok (.aload_n 1, 1) := by decide +kernel
theorem d_T_clear_33 : decode b_T_clear 33 = .ok (.iload_n 3, 1) := by decide +kernel
theorem d_T_clear_34 : decode b_T_clear 34 = .ok (.aconst_null, 1) := by decide +kernel
theorem d_T_clear_35 : decode b_T_clear 35 = .ok (.aastore, 1) := by decide +kernel
theorem d_T_clear_36 : decode b_T_clear 36 = .ok (.iinc 3 1, 3) := by decide +kernel
theorem d_T_clear_39 : decode b_T_clear 39 = .ok (.goto (-12), 3) := by decide +kernel
theorem d_T_clear_42 : decode b_T_clear 42 = .ok (.return_, 1) := by decide +kernel
theorem d_T_size_0 : decode b_T_size 0 = .ok (.aload_n 0, 1) := by decide +kernel
theorem d_T_size_1 : decode b_T_size 1 = .ok (.getfield 48, 3) := by decide +kernel
theorem d_T_size_4 : decode b_T_size 4 = .ok (.ireturn, 1) := by decide +kernel
theorem d_T_get_0 : decode b_T_get 0 = .ok (.iload_n 1, 1) := by decide +kernel
theorem d_T_get_1 : decode b_T_get 1 = .ok (.aload_n 0, 1) := by decide +kernel
theorem d_T_get_2 : decode b_T_get 2 = .ok (.getfield 48, 3) := by decide +kernel
theorem d_T_get_5 : decode b_T_get 5 = .ok (.invokestatic 118, 3) := by decide +kernel
theorem d_T_get_8 : decode b_T_get 8 = .ok (.pop, 1) := by decide +kernel
theorem d_T_get_9 : decode b_T_get 9 = .ok (.aload_n 0, 1) := by decide +kernel
theorem d_T_get_10 : decode b_T_get 10 = .ok (.iload_n 1, 1) := by decide +kernel
theorem d_T_get_11 : decode b_T_get 11 = .ok (.invokevirtual 123, 3) := by decide +kernel
theorem d_T_get_14 : decode b_T_get 14 = .ok (.areturn, 1) := by decide +kernel
theorem d_O_checkIndex_0 : decode b_O_checkIndex 0 = .ok (.iload_n 0, 1) := by decide +kernel
theorem d_O_checkIndex_1 : decode b_O_checkIndex 1 = .ok (.iload_n 1, 1) := by decide +kernel
theorem d_O_checkIndex_2 : decode b_O_checkIndex 2 = .ok (.aconst_null, 1) := by decide +kernel
theorem d_O_checkIndex_3 : decode b_O_checkIndex 3 = .ok (.invokestatic 105, 3) := by decide +kernel
theorem d_O_checkIndex_6 : decode b_O_checkIndex 6 = .ok (.ireturn, 1) := by decide +kernel
theorem d_Q_checkIndex_0 : decode b_Q_checkIndex 0 = .ok (.iload_n 0, 1) := by decide +kernel
theorem d_Q_checkIndex_1 : decode b_Q_checkIndex 1 = .ok (.ifCond .lt 8, 3) := by decide +kernel
theorem d_Q_checkIndex_4 : decode b_Q_checkIndex 4 = .ok (.iload_n 0, 1) := by decide +kernel
theorem d_Q_checkIndex_5 : decode b_Q_checkIndex 5 = .ok (.iload_n 1, 1) := by decide +kernel
theorem d_Q_checkIndex_6 : decode b_Q_checkIndex 6 = .ok (.if_icmp .lt 10, 3) := by decide +kernel
theorem d_Q_checkIndex_9 : decode b_Q_checkIndex 9 = .ok (.aload_n 2, 1) := by decide +kernel
theorem d_Q_checkIndex_10 : decode b_Q_checkIndex 10 = .ok (.iload_n 0, 1) := by decide +kernel
theorem d_Q_checkIndex_11 : decode b_Q_checkIndex 11 = .ok (.iload_n 1, 1) := by decide +kernel
theorem d_Q_checkIndex_12 : decode b_Q_checkIndex 12 = .ok (.invokestatic 95, 3) := by decide +kernel
theorem d_Q_checkIndex_15 : decode b_Q_checkIndex 15 = .ok (.athrow, 1) := by decide +kernel
theorem d_Q_checkIndex_16 : decode b_Q_checkIndex 16 = .ok (.iload_n 0, 1) := by decide +kernel
theorem d_Q_checkIndex_17 : decode b_Q_checkIndex 17 = .ok (.ireturn, 1) := by decide +kernel
theorem d_T_elementData_0 : decode b_T_elementData 0 = .ok (.aload_n 0, 1) := by decide +kernel
theorem d_T_elementData_1 : decode b_T_elementData 1 = .ok (.getfield 9, 3) := by decide +kernel
theorem d_T_elementData_4 : decode b_T_elementData 4 = .ok (.iload_n 1, 1) := by decide +kernel
theorem d_T_elementData_5 : decode b_T_elementData 5 = .ok (.aaload, 1) := by decide +kernel
theorem d_T_elementData_6 : decode b_T_elementData 6 = .ok (.areturn, 1) := by decide +kernel
theorem d_J_compare_0 : decode b_J_compare 0 = .ok (.lload_n 0, 1) := by decide +kernel
theorem d_J_compare_1 : decode b_J_compare 1 = .ok (.lload_n 2, 1) := by decide +kernel
theorem d_J_compare_2 : decode b_J_compare 2 = .ok (.lcmp, 1) := by decide +kernel
theorem d_J_compare_3 : decode b_J_compare 3 = .ok (.ifCond .ge 7, 3) := by decide +kernel
theorem d_J_compare_6 : decode b_J_compare 6 = .ok (.iconst (-1), 1) := by decide +kernel
theorem d_J_compare_7 : decode b_J_compare 7 = .ok (.goto 14, 3) := by decide +kernel
theorem d_J_compare_10 : decode b_J_compare 10 = .ok (.lload_n 0, 1) := by decide +kernel
theorem d_J_compare_11 : decode b_J_compare 11 = .ok (.lload_n 2, 1) := by decide +kernel
theorem d_J_compare_12 : decode b_J_compare 12 = .ok (.lcmp, 1) := by decide +kernel
theorem d_J_compare_13 : decode b_J_compare 13 = .ok (.ifCond .ne 7, 3) := by decide +kernel
theorem d_J_compare_16 : decode b_J_compare 16 = .ok (.iconst 0, 1) := by decide +kernel
theorem d_J_compare_17 : decode b_J_compare 17 = .ok (.goto 4, 3) := by decide +kernel
theorem d_J_compare_20 : decode b_J_compare 20 = .ok (.iconst 1, 1) := by decide +kernel
theorem d_J_compare_21 : decode b_J_compare 21 = .ok (.ireturn, 1) := by decide +kernel
theorem d_I_compare_0 : decode b_I_compare 0 = .ok (.iload_n 0, 1) := by decide +kernel
theorem d_I_compare_1 : decode b_I_compare 1 = .ok (.iload_n 1, 1) := by decide +kernel
theorem d_I_compare_2 : decode b_I_compare 2 = .ok (.if_icmp .ge 7, 3) := by decide +kernel
theorem d_I_compare_5 : decode b_I_compare 5 = .ok (.iconst (-1), 1) := by decide +kernel
theorem d_I_compare_6 : decode b_I_compare 6 = .ok (.goto 13, 3) := by decide +kernel
theorem d_I_compare_9 : decode b_I_compare 9 = .ok (.iload_n 0, 1) := by decide +kernel
theorem d_I_compare_10 : decode b_I_compare 10 = .ok (.iload_n 1, 1) := by decide +kernel
theorem d_I_compare_11 : decode b_I_compare 11 = .ok (.if_icmp .ne 7, 3) := by decide +kernel
theorem d_I_compare_14 : decode b_I_compare 14 = .ok (.iconst 0, 1) := by decide +kernel
theorem d_I_compare_15 : decode b_I_compare 15 = .ok (.goto 4, 3) := by decide +kernel
theorem d_I_compare_18 : decode b_I_compare 18 = .ok (.iconst 1, 1) := by decide +kernel
theorem d_I_compare_19 : decode b_I_compare 19 = .ok (.ireturn, 1) := by decide +kernel
theorem d_H_abs_0 : decode b_H_abs 0 = .ok (.lload_n 0, 1) := by decide +kernel
theorem d_H_abs_1 : decode b_H_abs 1 = .ok (.lconst 0, 1) := by decide +kernel
theorem d_H_abs_2 : decode b_H_abs 2 = .ok (.lcmp, 1) := by decide +kernel
theorem d_H_abs_3 : decode b_H_abs 3 = .ok (.ifCond .ge 8, 3) := by decide +kernel
theorem d_H_abs_6 : decode b_H_abs 6 = .ok (.lload_n 0, 1) := by decide +kernel
theorem d_H_abs_7 : decode b_H_abs 7 = .ok (.lneg, 1) := by decide +kernel
theorem d_H_abs_8 : decode b_H_abs 8 = .ok (.goto 4, 3) := by decide +kernel
theorem d_H_abs_11 : decode b_H_abs 11 = .ok (.lload_n 0, 1) := by decide +kernel
theorem d_H_abs_12 : decode b_H_abs 12 = .ok (.lreturn, 1) := by decide +kernel
theorem d_Y_fill_0 : decode b_Y_fill 0 = .ok (.iconst 0, 1) := by decide +kernel
theorem d_Y_fill_1 : decode b_Y_fill 1 = .ok (.istore_n 2, 1) := by decide +kernel
theorem d_Y_fill_2 : decode b_Y_fill 2 = .ok (.aload_n 0, 1) := by decide +kernel
theorem d_Y_fill_3 : decode b_Y_fill 3 = .ok (.arraylength, 1) := by decide +kernel
theorem d_Y_fill_4 : decode b_Y_fill 4 = .ok (.istore_n 3, 1) := by decide +kernel
theorem d_Y_fill_5 : decode b_Y_fill 5 = .ok (.iload_n 2, 1) := by decide +kernel
theorem d_Y_fill_6 : decode b_Y_fill 6 = .ok (.iload_n 3, 1) := by decide +kernel
theorem d_Y_fill_7 : decode b_Y_fill 7 = .ok (.if_icmp .ge 13, 3) := by decide +kernel
theorem d_Y_fill_10 : decode b_Y_fill 10 = .ok (.aload_n 0, 1) := by decide +kernel
theorem d_Y_fill_11 : decode b_Y_fill 11 = .ok (.iload_n 2, 1) := by decide +kernel
theorem d_Y_fill_12 : decode b_Y_fill 12 = .ok (.iload_n 1, 1) := by decide +kernel
theorem d_Y_fill_13 : decode b_Y_fill 13 = .ok (.iastore, 1) := by decide +kernel
theorem d_Y_fill_14 : decode b_Y_fill 14 = .ok (.iinc 2 1, 3) := by decide +kernel
theorem d_Y_fill_17 : decode b_Y_fill 17 = .ok (.goto (-12), 3) := by decide +kernel
theorem d_Y_fill_20 : decode b_Y_fill 20 = .ok (.return_, 1) := by decide +kernel
end
section
theorem d_L_cell_0 : decode b_L_cell 0 = .ok (.iload_n 1, 1) := by decide +kernel
theorem d_L_cell_1 : decode b_L_cell 1 = .ok (.aload_n 0, 1) := by decide +kernel
theorem d_L_cell_2 : decode b_L_cell 2 = .ok (.arraylength, 1) := by decide +kernel
theorem d_L_cell_3 : decode b_L_cell 3 = .ok (.if_icmp .ge 9, 3) := by decide +kernel
theorem d_L_cell_6 : decode b_L_cell 6 = .ok (.aload_n 0, 1) := by decide +kernel
theorem d_L_cell_7 : decode b_L_cell 7 = .ok (.iload_n 1, 1) := by decide +kernel
theorem d_L_cell_8 : decode b_L_cell 8 = .ok (.iaload, 1) := by decide +kernel
theorem d_L_cell_9 : decode b_L_cell 9 = .ok (.goto 4, 3) := by decide +kernel
theorem d_L_cell_12 : decode b_L_cell 12 = .ok (.iconst 0, 1) := by decide +kernel
theorem d_L_cell_13 : decode b_L_cell 13 = .ok (.ireturn, 1) := by decide +kernel
theorem d_L_law_0 : decode b_L_law 0 = .ok (.new 7, 3) := by decide +kernel
theorem d_L_law_3 : decode b_L_law 3 = .ok (.dup, 1) := by decide +kernel
theorem d_L_law_4 : decode b_L_law 4 = .ok (.aload_n 0, 1) := by decide +kernel
theorem d_L_law_5 : decode b_L_law 5 = .ok (.iconst 0, 1) := by decide +kernel
theorem d_L_law_6 : decode b_L_law 6 = .ok (.invokestatic 9, 3) := by decide +kernel
theorem d_L_law_9 : decode b_L_law 9 = .ok (.invokespecial 15, 3) := by decide +kernel
theorem d_L_law_12 : decode b_L_law 12 = .ok (.astore_n 1, 1) := by decide +kernel
theorem d_L_law_13 : decode b_L_law 13 = .ok (.new 18, 3) := by decide +kernel
theorem d_L_law_16 : decode b_L_law 16 = .ok (.dup, 1) := by decide +kernel
theorem d_L_law_17 : decode b_L_law 17 = .ok (.aload_n 0, 1) := by decide +kernel
theorem d_L_law_18 : decode b_L_law 18 = .ok (.iconst 0, 1) := by decide +kernel
theorem d_L_law_19 : decode b_L_law 19 = .ok (.invokestatic 9, 3) := by decide +kernel
theorem d_L_law_22 : decode b_L_law 22 = .ok (.invokespecial 20, 3) := by decide +kernel
theorem d_L_law_25 : decode b_L_law 25 = .ok (.astore_n 2, 1) := by decide +kernel
theorem d_L_law_26 : decode b_L_law 26 = .ok (.iconst 1, 1) := by decide +kernel
theorem d_L_law_27 : decode b_L_law 27 = .ok (.istore_n 3, 1) := by decide +kernel
theorem d_L_law_28 : decode b_L_law 28 = .ok (.iload_n 3, 1) := by decide +kernel
theorem d_L_law_29 : decode b_L_law 29 = .ok (.aload_n 0, 1) := by decide +kernel
theorem d_L_law_30 : decode b_L_law 30 = .ok (.arraylength, 1) := by decide +kernel
theorem d_L_law_31 : decode b_L_law 31 = .ok (.iconst 4, 1) := by decide +kernel
theorem d_L_law_32 : decode b_L_law 32 = .ok (.isub, 1) := by decide +kernel
theorem d_L_law_33 : decode b_L_law 33 = .ok (.if_icmp .gt 218, 3) := by decide +kernel
theorem d_L_law_36 : decode b_L_law 36 = .ok (.aload_n 0, 1) := by decide +kernel
theorem d_L_law_37 : decode b_L_law 37 = .ok (.iload_n 3, 1) := by decide +kernel
theorem d_L_law_38 : decode b_L_law 38 = .ok (.iaload, 1) := by decide +kernel
theorem d_L_law_39 : decode b_L_law 39 = .ok (.bipush 7, 2) := by decide +kernel
theorem d_L_law_41 : decode b_L_law 41 = .ok (.iand, 1) := by decide +kernel
theorem d_L_law_42 : decode b_L_law 42 = .ok (.tableswitch 203 0 5 #[38, 97, 110, 123, 156, 180], 38) := by decide +kernel
theorem d_L_law_80 : decode b_L_law 80 = .ok (.aload_n 1, 1) := by decide +kernel
theorem d_L_law_81 : decode b_L_law 81 = .ok (.aload_n 0, 1) := by decide +kernel
theorem d_L_law_82 : decode b_L_law 82 = .ok (.iload_n 3, 1) := by decide +kernel
theorem d_L_law_83 : decode b_L_law 83 = .ok (.iconst 1, 1) := by decide +kernel
theorem d_L_law_84 : decode b_L_law 84 = .ok (.iadd, 1) := by decide +kernel
theorem d_L_law_85 : decode b_L_law 85 = .ok (.iaload, 1) := by decide +kernel
theorem d_L_law_86 : decode b_L_law 86 = .ok (.aload_n 0, 1) := by decide +kernel
theorem d_L_law_87 : decode b_L_law 87 = .ok (.iload_n 3, 1) := by decide +kernel
theorem d_L_law_88 : decode b_L_law 88 = .ok (.iconst 2, 1) := by decide +kernel
theorem d_L_law_89 : decode b_L_law 89 = .ok (.iadd, 1) := by decide +kernel
theorem d_L_law_90 : decode b_L_law 90 = .ok (.iaload, 1) := by decide +kernel
theorem d_L_law_91 : decode b_L_law 91 = .ok (.aload_n 0, 1) := by decide +kernel
theorem d_L_law_92 : decode b_L_law 92 = .ok (.iload_n 3, 1) := by decide +kernel
theorem d_L_law_93 : decode b_L_law 93 = .ok (.iconst 3, 1) := by decide +kernel
theorem d_L_law_94 : decode b_L_law 94 = .ok (.iadd, 1) := by decide +kernel
theorem d_L_law_95 : decode b_L_law 95 = .ok (.iaload, 1) := by decide +kernel
theorem d_L_law_96 : decode b_L_law 96 = .ok (.ifCond .eq 7, 3) := by decide +kernel
theorem d_L_law_99 : decode b_L_law 99 = .ok (.iconst 1, 1) := by decide +kernel
theorem d_L_law_100 : decode b_L_law 100 = .ok (.goto 4, 3) := by decide +kernel
theorem d_L_law_103 : decode b_L_law 103 = .ok (.iconst 0, 1) := by decide +kernel
theorem d_L_law_104 : decode b_L_law 104 = .ok (.invokevirtual 21, 3) := by decide +kernel
theorem d_L_law_107 : decode b_L_law 107 = .ok (.aload_n 2, 1) := by decide +kernel
theorem d_L_law_108 : decode b_L_law 108 = .ok (.aload_n 0, 1) := by decide +kernel
theorem d_L_law_109 : decode b_L_law 109 = .ok (.iload_n 3, 1) := by decide +kernel
theorem d_L_law_110 : decode b_L_law 110 = .ok (.iconst 1, 1) := by decide +kernel
theorem d_L_law_111 : decode b_L_law 111 = .ok (.iadd, 1) := by decide +kernel
theorem d_L_law_112 : decode b_L_law 112 = .ok (.iaload, 1) := by decide +kernel
theorem d_L_law_113 : decode b_L_law 113 = .ok (.aload_n 0, 1) := by decide +kernel
theorem d_L_law_114 : decode b_L_law 114 = .ok (.iload_n 3, 1) := by decide +kernel
theorem d_L_law_115 : decode b_L_law 115 = .ok (.iconst 2, 1) := by decide +kernel
theorem d_L_law_116 : decode b_L_law 116 = .ok (.iadd, 1) := by decide +kernel
theorem d_L_law_117 : decode b_L_law 117 = .ok (.iaload, 1) := by decide +kernel
theorem d_L_law_118 : decode b_L_law 118 = .ok (.aload_n 0, 1) := by decide +kernel
theorem d_L_law_119 : decode b_L_law 119 = .ok (.iload_n 3, 1) := by decide +kernel
theorem d_L_law_120 : decode b_L_law 120 = .ok (.iconst 3, 1) := by decide +kernel
theorem d_L_law_121 : decode b_L_law 121 = .ok (.iadd, 1) := by decide +kernel
theorem d_L_law_122 : decode b_L_law 122 = .ok (.iaload, 1) := by decide +kernel
theorem d_L_law_123 : decode b_L_law 123 = .ok (.ifCond .eq 7, 3) := by decide +kernel
theorem d_L_law_126 : decode b_L_law 126 = .ok (.iconst 1, 1) := by decide +kernel
theorem d_L_law_127 : decode b_L_law 127 = .ok (.goto 4, 3) := by decide +kernel
theorem d_L_law_130 : decode b_L_law 130 = .ok (.iconst 0, 1) := by decide +kernel
theorem d_L_law_131 : decode b_L_law 131 = .ok (.invokevirtual 25, 3) := by decide +kernel
theorem d_L_law_134 : decode b_L_law 134 = .ok (.if_icmp .eq 111, 3) := by decide +kernel
theorem d_L_law_137 : decode b_L_law 137 = .ok (.iconst 0, 1) := by decide +kernel
theorem d_L_law_138 : decode b_L_law 138 = .ok (.ireturn, 1) := by decide +kernel
theorem d_L_law_139 : decode b_L_law 139 = .ok (.aload_n 1, 1) := by decide +kernel
theorem d_L_law_140 : decode b_L_law 140 = .ok (.invokevirtual 26, 3) := by decide +kernel
theorem d_L_law_143 : decode b_L_law 143 = .ok (.aload_n 2, 1) := by decide +kernel
theorem d_L_law_144 : decode b_L_law 144 = .ok (.invokevirtual 30, 3) := by decide +kernel
theorem d_L_law_147 : decode b_L_law 147 = .ok (.if_icmp .eq 98, 3) := by decide +kernel
theorem d_L_law_150 : decode b_L_law 150 = .ok (.iconst 0, 1) := by decide +kernel
theorem d_L_law_151 : decode b_L_law 151 = .ok (.ireturn, 1) := by decide +kernel
theorem d_L_law_152 : decode b_L_law 152 = .ok (.aload_n 1, 1) := by decide +kernel
theorem d_L_law_153 : decode b_L_law 153 = .ok (.invokevirtual 31, 3) := by decide +kernel
theorem d_L_law_156 : decode b_L_law 156 = .ok (.aload_n 2, 1) := by decide +kernel
theorem d_L_law_157 : decode b_L_law 157 = .ok (.invokevirtual 34, 3) := by decide +kernel
theorem d_L_law_160 : decode b_L_law 160 = .ok (.if_icmp .eq 85, 3) := by decide +kernel
theorem d_L_law_163 : decode b_L_law 163 = .ok (.iconst 0, 1) := by decide +kernel
theorem d_L_law_164 : decode b_L_law 164 = .ok (.ireturn, 1) := by decide +kernel
theorem d_L_law_165 : decode b_L_law 165 = .ok (.aload_n 1, 1) := by decide +kernel
theorem d_L_law_166 : decode b_L_law 166 = .ok (.aload_n 0, 1) := by decide +kernel
theorem d_L_law_167 : decode b_L_law 167 = .ok (.iload_n 3, 1) := by decide +kernel
theorem d_L_law_168 : decode b_L_law 168 = .ok (.iconst 1, 1) := by decide +kernel
theorem d_L_law_169 : decode b_L_law 169 = .ok (.iadd, 1) := by decide +kernel
theorem d_L_law_170 : decode b_L_law 170 = .ok (.iaload, 1) := by decide +kernel
theorem d_L_law_171 : decode b_L_law 171 = .ok (.aload_n 0, 1) := by decide +kernel
theorem d_L_law_172 : decode b_L_law 172 = .ok (.iload_n 3, 1) := by decide +kernel
theorem d_L_law_173 : decode b_L_law 173 = .ok (.iconst 2, 1) := by decide +kernel
theorem d_L_law_174 : decode b_L_law 174 = .ok (.iadd, 1) := by decide +kernel
theorem d_L_law_175 : decode b_L_law 175 = .ok (.iaload, 1) := by decide +kernel
theorem d_L_law_176 : decode b_L_law 176 = .ok (.invokevirtual 35, 3) := by decide +kernel
theorem d_L_law_179 : decode b_L_law 179 = .ok (.aload_n 2, 1) := by decide +kernel
theorem d_L_law_180 : decode b_L_law 180 = .ok (.aload_n 0, 1) := by decide +kernel
theorem d_L_law_181 : decode b_L_law 181 = .ok (.iload_n 3, 1) := by decide +kernel
theorem d_L_law_182 : decode b_L_law 182 = .ok (.iconst 1, 1) := by decide +kernel
theorem d_L_law_183 : decode b_L_law 183 = .ok (.iadd, 1) := by decide +kernel
theorem d_L_law_184 : decode b_L_law 184 = .ok (.iaload, 1) := by decide +kernel
theorem d_L_law_185 : decode b_L_law 185 = .ok (.aload_n 0, 1) := by decide +kernel
theorem d_L_law_186 : decode b_L_law 186 = .ok (.iload_n 3, 1) := by decide +kernel
theorem d_L_law_187 : decode b_L_law 187 = .ok (.iconst 2, 1) := by decide +kernel
theorem d_L_law_188 : decode b_L_law 188 = .ok (.iadd, 1) := by decide +kernel
theorem d_L_law_189 : decode b_L_law 189 = .ok (.iaload, 1) := by decide +kernel
theorem d_L_law_190 : decode b_L_law 190 = .ok (.invokevirtual 39, 3) := by decide +kernel
theorem d_L_law_193 : decode b_L_law 193 = .ok (.if_icmp .eq 52, 3) := by decide +kernel
theorem d_L_law_196 : decode b_L_law 196 = .ok (.iconst 0, 1) := by decide +kernel
theorem d_L_law_197 : decode b_L_law 197 = .ok (.ireturn, 1) := by decide +kernel
theorem d_L_law_198 : decode b_L_law 198 = .ok (.aload_n 1, 1) := by decide +kernel
theorem d_L_law_199 : decode b_L_law 199 = .ok (.aload_n 0, 1) := by decide +kernel
theorem d_L_law_200 : decode b_L_law 200 = .ok (.iload_n 3, 1) := by decide +kernel
theorem d_L_law_201 : decode b_L_law 201 = .ok (.iconst 1, 1) := by decide +kernel
theorem d_L_law_202 : decode b_L_law 202 = .ok (.iadd, 1) := by decide +kernel
theorem d_L_law_203 : decode b_L_law 203 = .ok (.iaload, 1) := by decide +kernel
theorem d_L_law_204 : decode b_L_law 204 = .ok (.invokevirtual 40, 3) := by decide +kernel
theorem d_L_law_207 : decode b_L_law 207 = .ok (.aload_n 2, 1) := by decide +kernel
theorem d_L_law_208 : decode b_L_law 208 = .ok (.aload_n 0, 1) := by decide +kernel
theorem d_L_law_209 : decode b_L_law 209 = .ok (.iload_n 3, 1) := by decide +kernel
theorem d_L_law_210 : decode b_L_law 210 = .ok (.iconst 1, 1) := by decide +kernel
theorem d_L_law_211 : decode b_L_law 211 = .ok (.iadd, 1) := by decide +kernel
theorem d_L_law_212 : decode b_L_law 212 = .ok (.iaload, 1) := by decide +kernel
theorem d_L_law_213 : decode b_L_law 213 = .ok (.invokevirtual 44, 3) := by decide +kernel
theorem d_L_law_216 : decode b_L_law 216 = .ok (.lcmp, 1) := by decide +kernel
theorem d_L_law_217 : decode b_L_law 217 = .ok (.ifCond .eq 28, 3) := by decide +kernel
theorem d_L_law_220 : decode b_L_law 220 = .ok (.iconst 0, 1) := by decide +kernel
theorem d_L_law_221 : decode b_L_law 221 = .ok (.ireturn, 1) := by decide +kernel
theorem d_L_law_222 : decode b_L_law 222 = .ok (.aload_n 1, 1) := by decide +kernel
theorem d_L_law_223 : decode b_L_law 223 = .ok (.aload_n 0, 1) := by decide +kernel
theorem d_L_law_224 : decode b_L_law 224 = .ok (.iload_n 3, 1) := by decide +kernel
theorem d_L_law_225 : decode b_L_law 225 = .ok (.iconst 1, 1) := by decide +kernel
theorem d_L_law_226 : decode b_L_law 226 = .ok (.iadd, 1) := by decide +kernel
theorem d_L_law_227 : decode b_L_law 227 = .ok (.iaload, 1) := by decide +kernel
theorem d_L_law_228 : decode b_L_law 228 = .ok (.invokevirtual 45, 3) := by decide +kernel
theorem d_L_law_231 : decode b_L_law 231 = .ok (.aload_n 2, 1) := by decide +kernel
theorem d_L_law_232 : decode b_L_law 232 = .ok (.aload_n 0, 1) := by decide +kernel
theorem d_L_law_233 : decode b_L_law 233 = .ok (.iload_n 3, 1) := by decide +kernel
theorem d_L_law_234 : decode b_L_law 234 = .ok (.iconst 1, 1) := by decide +kernel
theorem d_L_law_235 : decode b_L_law 235 = .ok (.iadd, 1) := by decide +kernel
theorem d_L_law_236 : decode b_L_law 236 = .ok (.iaload, 1) := by decide +kernel
theorem d_L_law_237 : decode b_L_law 237 = .ok (.invokevirtual 49, 3) := by decide +kernel
theorem d_L_law_240 : decode b_L_law 240 = .ok (.if_icmp .eq 5, 3) := by decide +kernel
theorem d_L_law_243 : decode b_L_law 243 = .ok (.iconst 0, 1) := by decide +kernel
theorem d_L_law_244 : decode b_L_law 244 = .ok (.ireturn, 1) := by decide +kernel
theorem d_L_law_245 : decode b_L_law 245 = .ok (.iinc 3 4, 3) := by decide +kernel
theorem d_L_law_248 : decode b_L_law 248 = .ok (.goto (-220), 3) := by decide +kernel
theorem d_L_law_251 : decode b_L_law 251 = .ok (.iconst 1, 1) := by decide +kernel
theorem d_L_law_252 : decode b_L_law 252 = .ok (.ireturn, 1) := by decide +kernel
end
section
theorem d_M_around_0 : decode b_M_around 0 = .ok (.iload_n 3, 1) := by decide +kernel
theorem d_M_around_1 : decode b_M_around 1 = .ok (.iload_n 2, 1) := by decide +kernel
theorem d_M_around_2 : decode b_M_around 2 = .ok (.isub, 1) := by decide +kernel
theorem d_M_around_3 : decode b_M_around 3 = .ok (.istore 8, 2) := by decide +kernel
theorem d_M_around_5 : decode b_M_around 5 = .ok (.iload 8, 2) := by decide +kernel
theorem d_M_around_7 : decode b_M_around 7 = .ok (.iconst 1, 1) := by decide +kernel
theorem d_M_around_8 : decode b_M_around 8 = .ok (.if_icmp .ne 33, 3) := by decide +kernel
theorem d_M_around_11 : decode b_M_around 11 = .ok (.aload_n 0, 1) := by decide +kernel
theorem d_M_around_12 : decode b_M_around 12 = .ok (.getfield 9, 3) := by decide +kernel
theorem d_M_around_15 : decode b_M_around 15 = .ok (.iload_n 2, 1) := by decide +kernel
theorem d_M_around_16 : decode b_M_around 16 = .ok (.laload, 1) := by decide +kernel
theorem d_M_around_17 : decode b_M_around 17 = .ok (.lload 4, 2) := by decide +kernel
theorem d_M_around_19 : decode b_M_around 19 = .ok (.lcmp, 1) := by decide +kernel
theorem d_M_around_20 : decode b_M_around 20 = .ok (.ifCond .ne 20, 3) := by decide +kernel
theorem d_M_around_23 : decode b_M_around 23 = .ok (.aload_n 0, 1) := by decide +kernel
theorem d_M_around_24 : decode b_M_around 24 = .ok (.getfield 13, 3) := by decide +kernel
theorem d_M_around_27 : decode b_M_around 27 = .ok (.iload_n 2, 1) := by decide +kernel
theorem d_M_around_28 : decode b_M_around 28 = .ok (.laload, 1) := by decide +kernel
theorem d_M_around_29 : decode b_M_around 29 = .ok (.lload 6, 2) := by decide +kernel
theorem d_M_around_31 : decode b_M_around 31 = .ok (.lcmp, 1) := by decide +kernel
theorem d_M_around_32 : decode b_M_around 32 = .ok (.ifCond .ne 8, 3) := by decide +kernel
theorem d_M_around_35 : decode b_M_around 35 = .ok (.aload_n 0, 1) := by decide +kernel
theorem d_M_around_36 : decode b_M_around 36 = .ok (.iconst 1, 1) := by decide +kernel
theorem d_M_around_37 : decode b_M_around 37 = .ok (.putfield 52, 3) := by decide +kernel
theorem d_M_around_40 : decode b_M_around 40 = .ok (.return_, 1) := by decide +kernel
theorem d_M_around_41 : decode b_M_around 41 = .ok (.iload_n 2, 1) := by decide +kernel
theorem d_M_around_42 : decode b_M_around 42 = .ok (.istore 9, 2) := by decide +kernel
theorem d_M_around_44 : decode b_M_around 44 = .ok (.iload 9, 2) := by decide +kernel
theorem d_M_around_46 : decode b_M_around 46 = .ok (.iload_n 3, 1) := by decide +kernel
theorem d_M_around_47 : decode b_M_around 47 = .ok (.if_icmp .ge 19, 3) := by decide +kernel
theorem d_M_around_50 : decode b_M_around 50 = .ok (.aload_n 0, 1) := by decide +kernel
theorem d_M_around_51 : decode b_M_around 51 = .ok (.getfield 16, 3) := by decide +kernel
theorem d_M_around_54 : decode b_M_around 54 = .ok (.iload 9, 2) := by decide +kernel
theorem d_M_around_56 : decode b_M_around 56 = .ok (.baload, 1) := by decide +kernel
theorem d_M_around_57 : decode b_M_around 57 = .ok (.ifCond .ne 9, 3) := by decide +kernel
theorem d_M_around_60 : decode b_M_around 60 = .ok (.iinc 9 1, 3) := by decide +kernel
theorem d_M_around_63 : decode b_M_around 63 = .ok (.goto (-19), 3) := by decide +kernel
theorem d_M_around_66 : decode b_M_around 66 = .ok (.iload 9, 2) := by decide +kernel
theorem d_M_around_68 : decode b_M_around 68 = .ok (.iload_n 3, 1) := by decide +kernel
theorem d_M_around_69 : decode b_M_around 69 = .ok (.if_icmp .ne 7, 3) := by decide +kernel
theorem d_M_around_72 : decode b_M_around 72 = .ok (.iconst 1, 1) := by decide +kernel
theorem d_M_around_73 : decode b_M_around 73 = .ok (.goto 4, 3) := by decide +kernel
theorem d_M_around_76 : decode b_M_around 76 = .ok (.iconst 0, 1) := by decide +kernel
theorem d_M_around_77 : decode b_M_around 77 = .ok (.istore 10, 2) := by decide +kernel
theorem d_M_around_79 : decode b_M_around 79 = .ok (.iload 10, 2) := by decide +kernel
theorem d_M_around_81 : decode b_M_around 81 = .ok (.ifCond .eq 6, 3) := by decide +kernel
theorem d_M_around_84 : decode b_M_around 84 = .ok (.iload_n 2, 1) := by decide +kernel
theorem d_M_around_85 : decode b_M_around 85 = .ok (.istore 9, 2) := by decide +kernel
theorem d_M_around_87 : decode b_M_around 87 = .ok (.iload 9, 2) := by decide +kernel
theorem d_M_around_89 : decode b_M_around 89 = .ok (.iload_n 2, 1) := by decide +kernel
theorem d_M_around_90 : decode b_M_around 90 = .ok (.if_icmp .ne 9, 3) := by decide +kernel
theorem d_M_around_93 : decode b_M_around 93 = .ok (.iload_n 3, 1) := by decide +kernel
theorem d_M_around_94 : decode b_M_around 94 = .ok (.iconst 1, 1) := by decide +kernel
theorem d_M_around_95 : decode b_M_around 95 = .ok (.isub, 1) := by decide +kernel
theorem d_M_around_96 : decode b_M_around 96 = .ok (.goto 7, 3) := by decide +kernel
theorem d_M_around_99 : decode b_M_around 99 = .ok (.iload 9, 2) := by decide +kernel
theorem d_M_around_101 : decode b_M_around 101 = .ok (.iconst 1, 1) := by decide +kernel
theorem d_M_around_102 : decode b_M_around 102 = .ok (.isub, 1) := by decide +kernel
theorem d_M_around_103 : decode b_M_around 103 = .ok (.istore 11, 2) := by decide +kernel
theorem d_M_around_105 : decode b_M_around 105 = .ok (.iload 10, 2) := by decide +kernel
theorem d_M_around_107 : decode b_M_around 107 = .ok (.ifCond .eq 28, 3) := by decide +kernel
theorem d_M_around_110 : decode b_M_around 110 = .ok (.aload_n 0, 1) := by decide +kernel
theorem d_M_around_111 : decode b_M_around 111 = .ok (.getfield 9, 3) := by decide +kernel
theorem d_M_around_114 : decode b_M_around 114 = .ok (.iload 11, 2) := by decide +kernel
theorem d_M_around_116 : decode b_M_around 116 = .ok (.laload, 1) := by decide +kernel
theorem d_M_around_117 : decode b_M_around 117 = .ok (.aload_n 0, 1) := by decide +kernel
theorem d_M_around_118 : decode b_M_around 118 = .ok (.getfield 9, 3) := by decide +kernel
theorem d_M_around_121 : decode b_M_around 121 = .ok (.iload 9, 2) := by decide +kernel
theorem d_M_around_123 : decode b_M_around 123 = .ok (.laload, 1) := by decide +kernel
theorem d_M_around_124 : decode b_M_around 124 = .ok (.ladd, 1) := by decide +kernel
theorem d_M_around_125 : decode b_M_around 125 = .ok (.ldc2_w 76, 3) := by decide +kernel
theorem d_M_around_128 : decode b_M_around 128 = .ok (.ldiv, 1) := by decide +kernel
theorem d_M_around_129 : decode b_M_around 129 = .ok (.lload 4, 2) := by decide +kernel
theorem d_M_around_131 : decode b_M_around 131 = .ok (.lsub, 1) := by decide +kernel
theorem d_M_around_132 : decode b_M_around 132 = .ok (.goto 13, 3) := by decide +kernel
theorem d_M_around_135 : decode b_M_around 135 = .ok (.aload_n 0, 1) := by decide +kernel
theorem d_M_around_136 : decode b_M_around 136 = .ok (.getfield 9, 3) := by decide +kernel
theorem d_M_around_139 : decode b_M_around 139 = .ok (.iload 9, 2) := by decide +kernel
theorem d_M_around_141 : decode b_M_around 141 = .ok (.laload, 1) := by decide +kernel
theorem d_M_around_142 : decode b_M_around 142 = .ok (.lload 4, 2) := by decide +kernel
theorem d_M_around_144 : decode b_M_around 144 = .ok (.lsub, 1) := by decide +kernel
theorem d_M_around_145 : decode b_M_around 145 = .ok (.lstore 12, 2) := by decide +kernel
theorem d_M_around_147 : decode b_M_around 147 = .ok (.iload 10, 2) := by decide +kernel
theorem d_M_around_149 : decode b_M_around 149 = .ok (.ifCond .eq 28, 3) := by decide +kernel
theorem d_M_around_152 : decode b_M_around 152 = .ok (.aload_n 0, 1) := by decide +kernel
theorem d_M_around_153 : decode b_M_around 153 = .ok (.getfield 13, 3) := by decide +kernel
theorem d_M_around_156 : decode b_M_around 156 = .ok (.iload 11, 2) := by decide +kernel
theorem d_M_around_158 : decode b_M_around 158 = .ok (.laload, 1) := by decide +kernel
theorem d_M_around_159 : decode b_M_around 159 = .ok (.aload_n 0, 1) := by decide +kernel
theorem d_M_around_160 : decode b_M_around 160 = .ok (.getfield 13, 3) := by decide +kernel
theorem d_M_around_163 : decode b_M_around 163 = .ok (.iload 9, 2) := by decide +kernel
theorem d_M_around_165 : decode b_M_around 165 = .ok (.laload, 1) := by decide +kernel
theorem d_M_around_166 : decode b_M_around 166 = .ok (.ladd, 1) := by decide +kernel
theorem d_M_around_167 : decode b_M_around 167 = .ok (.ldc2_w 76, 3) := by decide +kernel
theorem d_M_around_170 : decode b_M_around 170 = .ok (.ldiv, 1) := by decide +kernel
theorem d_M_around_171 : decode b_M_around 171 = .ok (.lload 6, 2) := by decide +kernel
theorem d_M_around_173 : decode b_M_around 173 = .ok (.lsub, 1) := by decide +kernel
theorem d_M_around_174 : decode b_M_around 174 = .ok (.goto 13, 3) := by decide +kernel
theorem d_M_around_177 : decode b_M_around 177 = .ok (.aload_n 0, 1) := by decide +kernel
theorem d_M_around_178 : decode b_M_around 178 = .ok (.getfield 13, 3) := by decide +kernel
theorem d_M_around_181 : decode b_M_around 181 = .ok (.iload 9, 2) := by decide +kernel
theorem d_M_around_183 : decode b_M_around 183 = .ok (.laload, 1) := by decide +kernel
theorem d_M_around_184 : decode b_M_around 184 = .ok (.lload 6, 2) := by decide +kernel
theorem d_M_around_186 : decode b_M_around 186 = .ok (.lsub, 1) := by decide +kernel
theorem d_M_around_187 : decode b_M_around 187 = .ok (.lstore 14, 2) := by decide +kernel
theorem d_M_around_189 : decode b_M_around 189 = .ok (.iload 10, 2) := by decide +kernel
theorem d_M_around_191 : decode b_M_around 191 = .ok (.ifCond .eq 7, 3) := by decide +kernel
theorem d_M_around_194 : decode b_M_around 194 = .ok (.iconst 0, 1) := by decide +kernel
theorem d_M_around_195 : decode b_M_around 195 = .ok (.goto 4, 3) := by decide +kernel
theorem d_M_around_198 : decode b_M_around 198 = .ok (.iconst 1, 1) := by decide +kernel
theorem d_M_around_199 : decode b_M_around 199 = .ok (.istore 16, 2) := by decide +kernel
theorem d_M_around_201 : decode b_M_around 201 = .ok (.iload 10, 2) := by decide +kernel
theorem d_M_around_203 : decode b_M_around 203 = .ok (.ifCond .eq 8, 3) := by decide +kernel
theorem d_M_around_206 : decode b_M_around 206 = .ok (.iload 8, 2) := by decide +kernel
theorem d_M_around_208 : decode b_M_around 208 = .ok (.goto 7, 3) := by decide +kernel
theorem d_M_around_211 : decode b_M_around 211 = .ok (.iload 8, 2) := by decide +kernel
theorem d_M_around_213 : decode b_M_around 213 = .ok (.iconst 1, 1) := by decide +kernel
theorem d_M_around_214 : decode b_M_around 214 = .ok (.iadd, 1) := by decide +kernel
theorem d_M_around_215 : decode b_M_around 215 = .ok (.istore 17, 2) := by decide +kernel
theorem d_M_around_217 : decode b_M_around 217 = .ok (.iload 16, 2) := by decide +kernel
theorem d_M_around_219 : decode b_M_around 219 = .ok (.iload 17, 2) := by decide +kernel
theorem d_M_around_221 : decode b_M_around 221 = .ok (.if_icmp .ge 252, 3) := by decide +kernel
theorem d_M_around_224 : decode b_M_around 224 = .ok (.iload_n 2, 1) := by decide +kernel
theorem d_M_around_225 : decode b_M_around 225 = .ok (.iload 9, 2) := by decide +kernel
theorem d_M_around_227 : decode b_M_around 227 = .ok (.iload_n 2, 1) := by decide +kernel
theorem d_M_around_228 : decode b_M_around 228 = .ok (.isub, 1) := by decide +kernel
theorem d_M_around_229 : decode b_M_around 229 = .ok (.iload 16, 2) := by decide +kernel
theorem d_M_around_231 : decode b_M_around 231 = .ok (.iadd, 1) := by decide +kernel
theorem d_M_around_232 : decode b_M_around 232 = .ok (.iload 8, 2) := by decide +kernel
theorem d_M_around_234 : decode b_M_around 234 = .ok (.irem, 1) := by decide +kernel
theorem d_M_around_235 : decode b_M_around 235 = .ok (.iadd, 1) := by decide +kernel
theorem d_M_around_236 : decode b_M_around 236 = .ok (.istore 18, 2) := by decide +kernel
theorem d_M_around_238 : decode b_M_around 238 = .ok (.aload_n 0, 1) := by decide +kernel
theorem d_M_around_239 : decode b_M_around 239 = .ok (.getfield 16, 3) := by decide +kernel
theorem d_M_around_242 : decode b_M_around 242 = .ok (.iload 18, 2) := by decide +kernel
theorem d_M_around_244 : decode b_M_around 244 = .ok (.baload, 1) := by decide +kernel
theorem d_M_around_245 : decode b_M_around 245 = .ok (.ifCond .eq 61, 3) := by decide +kernel
theorem d_M_around_248 : decode b_M_around 248 = .ok (.aload_n 0, 1) := by decide +kernel
theorem d_M_around_249 : decode b_M_around 249 = .ok (.lload 12, 2) := by decide +kernel
theorem d_M_around_251 : decode b_M_around 251 = .ok (.lload 14, 2) := by decide +kernel
theorem d_M_around_253 : decode b_M_around 253 = .ok (.aload_n 0, 1) := by decide +kernel
theorem d_M_around_254 : decode b_M_around 254 = .ok (.getfield 9, 3) := by decide +kernel
theorem d_M_around_257 : decode b_M_around 257 = .ok (.iload 18, 2) := by decide +kernel
theorem d_M_around_259 : decode b_M_around 259 = .ok (.laload, 1) := by decide +kernel
theorem d_M_around_260 : decode b_M_around 260 = .ok (.lload 4, 2) := by decide +kernel
theorem d_M_around_262 : decode b_M_around 262 = .ok (.lsub, 1) := by decide +kernel
theorem d_M_around_263 : decode b_M_around 263 = .ok (.aload_n 0, 1) := by decide +kernel
theorem d_M_around_264 : decode b_M_around 264 = .ok (.getfield 13, 3) := by decide +kernel
theorem d_M_around_267 : decode b_M_around 267 = .ok (.iload 18, 2) := by decide +kernel
theorem d_M_around_269 : decode b_M_around 269 = .ok (.laload, 1) := by decide +kernel
theorem d_M_around_270 : decode b_M_around 270 = .ok (.lload 6, 2) := by decide +kernel
theorem d_M_around_272 : decode b_M_around 272 = .ok (.lsub, 1) := by decide +kernel
theorem d_M_around_273 : decode b_M_around 273 = .ok (.invokevirtual 81, 3) := by decide +kernel
theorem d_M_around_276 : decode b_M_around 276 = .ok (.aload_n 0, 1) := by decide +kernel
theorem d_M_around_277 : decode b_M_around 277 = .ok (.getfield 9, 3) := by decide +kernel
theorem d_M_around_280 : decode b_M_around 280 = .ok (.iload 18, 2) := by decide +kernel
theorem d_M_around_282 : decode b_M_around 282 = .ok (.laload, 1) := by decide +kernel
theorem d_M_around_283 : decode b_M_around 283 = .ok (.lload 4, 2) := by decide +kernel
theorem d_M_around_285 : decode b_M_around 285 = .ok (.lsub, 1) := by decide +kernel
theorem d_M_around_286 : decode b_M_around 286 = .ok (.lstore 12, 2) := by decide +kernel
theorem d_M_around_288 : decode b_M_around 288 = .ok (.aload_n 0, 1) := by decide +kernel
theorem d_M_around_289 : decode b_M_around 289 = .ok (.getfield 13, 3) := by decide +kernel
theorem d_M_around_292 : decode b_M_around 292 = .ok (.iload 18, 2) := by decide +kernel
theorem d_M_around_294 : decode b_M_around 294 = .ok (.laload, 1) := by decide +kernel
theorem d_M_around_295 : decode b_M_around 295 = .ok (.lload 6, 2) := by decide +kernel
theorem d_M_around_297 : decode b_M_around 297 = .ok (.lsub, 1) := by decide +kernel
theorem d_M_around_298 : decode b_M_around 298 = .ok (.lstore 14, 2) := by decide +kernel
theorem d_M_around_300 : decode b_M_around 300 = .ok (.iinc 16 1, 3) := by decide +kernel
theorem d_M_around_303 : decode b_M_around 303 = .ok (.goto (-86), 3) := by decide +kernel
theorem d_M_around_306 : decode b_M_around 306 = .ok (.iload_n 2, 1) := by decide +kernel
theorem d_M_around_307 : decode b_M_around 307 = .ok (.iload 9, 2) := by decide +kernel
theorem d_M_around_309 : decode b_M_around 309 = .ok (.iload_n 2, 1) := by decide +kernel
theorem d_M_around_310 : decode b_M_around 310 = .ok (.isub, 1) := by decide +kernel
theorem d_M_around_311 : decode b_M_around 311 = .ok (.iload 16, 2) := by decide +kernel
theorem d_M_around_313 : decode b_M_around 313 = .ok (.iadd, 1) := by decide +kernel
theorem d_M_around_314 : decode b_M_around 314 = .ok (.iconst 1, 1) := by decide +kernel
theorem d_M_around_315 : decode b_M_around 315 = .ok (.iadd, 1) := by decide +kernel
theorem d_M_around_316 : decode b_M_around 316 = .ok (.iload 8, 2) := by decide +kernel
theorem d_M_around_318 : decode b_M_around 318 = .ok (.irem, 1) := by decide +kernel
theorem d_M_around_319 : decode b_M_around 319 = .ok (.iadd, 1) := by decide +kernel
theorem d_M_around_320 : decode b_M_around 320 = .ok (.istore 19, 2) := by decide +kernel
theorem d_M_around_322 : decode b_M_around 322 = .ok (.aload_n 0, 1) := by decide +kernel
theorem d_M_around_323 : decode b_M_around 323 = .ok (.getfield 16, 3) := by decide +kernel
theorem d_M_around_326 : decode b_M_around 326 = .ok (.iload 19, 2) := by decide +kernel
theorem d_M_around_328 : decode b_M_around 328 = .ok (.baload, 1) := by decide +kernel
theorem d_M_around_329 : decode b_M_around 329 = .ok (.istore 20, 2) := by decide +kernel
theorem d_M_around_331 : decode b_M_around 331 = .ok (.iload 20, 2) := by decide +kernel
theorem d_M_around_333 : decode b_M_around 333 = .ok (.ifCond .eq 16, 3) := by decide +kernel
theorem d_M_around_336 : decode b_M_around 336 = .ok (.aload_n 0, 1) := by decide +kernel
theorem d_M_around_337 : decode b_M_around 337 = .ok (.getfield 9, 3) := by decide +kernel
theorem d_M_around_340 : decode b_M_around 340 = .ok (.iload 19, 2) := by decide +kernel
theorem d_M_around_342 : decode b_M_around 342 = .ok (.laload, 1) := by decide +kernel
theorem d_M_around_343 : decode b_M_around 343 = .ok (.lload 4, 2) := by decide +kernel
theorem d_M_around_345 : decode b_M_around 345 = .ok (.lsub, 1) := by decide +kernel
theorem d_M_around_346 : decode b_M_around 346 = .ok (.goto 25, 3) := by decide +kernel
theorem d_M_around_349 : decode b_M_around 349 = .ok (.aload_n 0, 1) := by decide +kernel
theorem d_M_around_350 : decode b_M_around 350 = .ok (.getfield 9, 3) := by decide +kernel
theorem d_M_around_353 : decode b_M_around 353 = .ok (.iload 18, 2) := by decide +kernel
theorem d_M_around_355 : decode b_M_around 355 = .ok (.laload, 1) := by decide +kernel
theorem d_M_around_356 : decode b_M_around 356 = .ok (.aload_n 0, 1) := by decide +kernel
theorem d_M_around_357 : decode b_M_around 357 = .ok (.getfield 9, 3) := by decide +kernel
theorem d_M_around_360 : decode b_M_around 360 = .ok (.iload 19, 2) := by decide +kernel
theorem d_M_around_362 : decode b_M_around 362 = .ok (.laload, 1) := by decide +kernel
theorem d_M_around_363 : decode b_M_around 363 = .ok (.ladd, 1) := by decide +kernel
theorem d_M_around_364 : decode b_M_around 364 = .ok (.ldc2_w 76, 3) := by decide +kernel
theorem d_M_around_367 : decode b_M_around 367 = .ok (.ldiv, 1) := by decide +kernel
theorem d_M_around_368 : decode b_M_around 368 = .ok (.lload 4, 2) := by decide +kernel
theorem d_M_around_370 : decode b_M_around 370 = .ok (.lsub, 1) := by decide +kernel
theorem d_M_around_371 : decode b_M_around 371 = .ok (.lstore 21, 2) := by decide +kernel
theorem d_M_around_373 : decode b_M_around 373 = .ok (.iload 20, 2) := by decide +kernel
theorem d_M_around_375 : decode b_M_around 375 = .ok (.ifCond .eq 16, 3) := by decide +kernel
theorem d_M_around_378 : decode b_M_around 378 = .ok (.aload_n 0, 1) := by decide +kernel
theorem d_M_around_379 : decode b_M_around 379 = .ok (.getfield 13, 3) := by decide +kernel
theorem d_M_around_382 : decode b_M_around 382 = .ok (.iload 19, 2) := by decide +kernel
theorem d_M_around_384 : decode b_M_around 384 = .ok (.laload, 1) := by decide +kernel
theorem d_M_around_385 : decode b_M_around 385 = .ok (.lload 6, 2) := by decide +kernel
theorem d_M_around_387 : decode b_M_around 387 = .ok (.lsub, 1) := by decide +kernel
theorem d_M_around_388 : decode b_M_around 388 = .ok (.goto 25, 3) := by decide +kernel
theorem d_M_around_391 : decode b_M_around 391 = .ok (.aload_n 0, 1) := by decide +kernel
theorem d_M_around_392 : decode b_M_around 392 = .ok (.getfield 13, 3) := by decide +kernel
theorem d_M_around_395 : decode b_M_around 395 = .ok (.iload 18, 2) := by decide +kernel
theorem d_M_around_397 : decode b_M_around 397 = .ok (.laload, 1) := by decide +kernel
theorem d_M_around_398 : decode b_M_around 398 = .ok (.aload_n 0, 1) := by decide +kernel
theorem d_M_around_399 : decode b_M_around 399 = .ok (.getfield 13, 3) := by decide +kernel
theorem d_M_around_402 : decode b_M_around 402 = .ok (.iload 19, 2) := by decide +kernel
theorem d_M_around_404 : decode b_M_around 404 = .ok (.laload, 1) := by decide +kernel
theorem d_M_around_405 : decode b_M_around 405 = .ok (.ladd, 1) := by decide +kernel
theorem d_M_around_406 : decode b_M_around 406 = .ok (.ldc2_w 76, 3) := by decide +kernel
theorem d_M_around_409 : decode b_M_around 409 = .ok (.ldiv, 1) := by decide +kernel
theorem d_M_around_410 : decode b_M_around 410 = .ok (.lload 6, 2) := by decide +kernel
theorem d_M_around_412 : decode b_M_around 412 = .ok (.lsub, 1) := by decide +kernel
theorem d_M_around_413 : decode b_M_around 413 = .ok (.lstore 23, 2) := by decide +kernel
theorem d_M_around_415 : decode b_M_around 415 = .ok (.aload_n 0, 1) := by decide +kernel
theorem d_M_around_416 : decode b_M_around 416 = .ok (.lload 12, 2) := by decide +kernel
theorem d_M_around_418 : decode b_M_around 418 = .ok (.lload 14, 2) := by decide +kernel
theorem d_M_around_420 : decode b_M_around 420 = .ok (.aload_n 0, 1) := by decide +kernel
theorem d_M_around_421 : decode b_M_around 421 = .ok (.getfield 9, 3) := by decide +kernel
theorem d_M_around_424 : decode b_M_around 424 = .ok (.iload 18, 2) := by decide +kernel
theorem d_M_around_426 : decode b_M_around 426 = .ok (.laload, 1) := by decide +kernel
theorem d_M_around_427 : decode b_M_around 427 = .ok (.lload 4, 2) := by decide +kernel
theorem d_M_around_429 : decode b_M_around 429 = .ok (.lsub, 1) := by decide +kernel
theorem d_M_around_430 : decode b_M_around 430 = .ok (.aload_n 0, 1) := by decide +kernel
theorem d_M_around_431 : decode b_M_around 431 = .ok (.getfield 13, 3) := by decide +kernel
theorem d_M_around_434 : decode b_M_around 434 = .ok (.iload 18, 2) := by decide +kernel
theorem d_M_around_436 : decode b_M_around 436 = .ok (.laload, 1) := by decide +kernel
theorem d_M_around_437 : decode b_M_around 437 = .ok (.lload 6, 2) := by decide +kernel
theorem d_M_around_439 : decode b_M_around 439 = .ok (.lsub, 1) := by decide +kernel
theorem d_M_around_440 : decode b_M_around 440 = .ok (.lload 21, 2) := by decide +kernel
theorem d_M_around_442 : decode b_M_around 442 = .ok (.lload 23, 2) := by decide +kernel
theorem d_M_around_444 : decode b_M_around 444 = .ok (.invokevirtual 85, 3) := by decide +kernel
theorem d_M_around_447 : decode b_M_around 447 = .ok (.lload 21, 2) := by decide +kernel
theorem d_M_around_449 : decode b_M_around 449 = .ok (.lstore 12, 2) := by decide +kernel
theorem d_M_around_451 : decode b_M_around 451 = .ok (.lload 23, 2) := by decide +kernel
theorem d_M_around_453 : decode b_M_around 453 = .ok (.lstore 14, 2) := by decide +kernel
theorem d_M_around_455 : decode b_M_around 455 = .ok (.iload 16, 2) := by decide +kernel
theorem d_M_around_457 : decode b_M_around 457 = .ok (.iload 20, 2) := by decide +kernel
theorem d_M_around_459 : decode b_M_around 459 = .ok (.ifCond .eq 7, 3) := by decide +kernel
theorem d_M_around_462 : decode b_M_around 462 = .ok (.iconst 2, 1) := by decide +kernel
theorem d_M_around_463 : decode b_M_around 463 = .ok (.goto 4, 3) := by decide +kernel
theorem d_M_around_466 : decode b_M_around 466 = .ok (.iconst 1, 1) := by decide +kernel
theorem d_M_around_467 : decode b_M_around 467 = .ok (.iadd, 1) := by decide +kernel
theorem d_M_around_468 : decode b_M_around 468 = .ok (.istore 16, 2) := by decide +kernel
theorem d_M_around_470 : decode b_M_around 470 = .ok (.goto (-253), 3) := by decide +kernel
theorem d_M_around_473 : decode b_M_around 473 = .ok (.return_, 1) := by decide +kernel
end
section
theorem d_M_curve_0 : decode b_M_curve 0 = .ok (.lload 5, 2) := by decide +kernel
theorem d_M_curve_2 : decode b_M_curve 2 = .ok (.lload 11, 2) := by decide +kernel
theorem d_M_curve_4 : decode b_M_curve 4 = .ok (.lmul, 1) := by decide +kernel
theorem d_M_curve_5 : decode b_M_curve 5 = .ok (.lload 9, 2) := by decide +kernel
theorem d_M_curve_7 : decode b_M_curve 7 = .ok (.lload 7, 2) := by decide +kernel
theorem d_M_curve_9 : decode b_M_curve 9 = .ok (.lmul, 1) := by decide +kernel
theorem d_M_curve_10 : decode b_M_curve 10 = .ok (.lsub, 1) := by decide +kernel
theorem d_M_curve_11 : decode b_M_curve 11 = .ok (.lstore 13, 2) := by decide +kernel
theorem d_M_curve_13 : decode b_M_curve 13 = .ok (.lload 9, 2) := by decide +kernel
theorem d_M_curve_15 : decode b_M_curve 15 = .ok (.lload_n 3, 1) := by decide +kernel
theorem d_M_curve_16 : decode b_M_curve 16 = .ok (.lmul, 1) := by decide +kernel
theorem d_M_curve_17 : decode b_M_curve 17 = .ok (.lload_n 1, 1) := by decide +kernel
theorem d_M_curve_18 : decode b_M_curve 18 = .ok (.lload 11, 2) := by decide +kernel
theorem d_M_curve_20 : decode b_M_curve 20 = .ok (.lmul, 1) := by decide +kernel
theorem d_M_curve_21 : decode b_M_curve 21 = .ok (.lsub, 1) := by decide +kernel
theorem d_M_curve_22 : decode b_M_curve 22 = .ok (.lstore 15, 2) := by decide +kernel
theorem d_M_curve_24 : decode b_M_curve 24 = .ok (.lload_n 1, 1) := by decide +kernel
theorem d_M_curve_25 : decode b_M_curve 25 = .ok (.lload 7, 2) := by decide +kernel
theorem d_M_curve_27 : decode b_M_curve 27 = .ok (.lmul, 1) := by decide +kernel
theorem d_M_curve_28 : decode b_M_curve 28 = .ok (.lload 5, 2) := by decide +kernel
theorem d_M_curve_30 : decode b_M_curve 30 = .ok (.lload_n 3, 1) := by decide +kernel
theorem d_M_curve_31 : decode b_M_curve 31 = .ok (.lmul, 1) := by decide +kernel
theorem d_M_curve_32 : decode b_M_curve 32 = .ok (.lsub, 1) := by decide +kernel
theorem d_M_curve_33 : decode b_M_curve 33 = .ok (.lstore 17, 2) := by decide +kernel
theorem d_M_curve_35 : decode b_M_curve 35 = .ok (.lload 13, 2) := by decide +kernel
theorem d_M_curve_37 : decode b_M_curve 37 = .ok (.lload 15, 2) := by decide +kernel
theorem d_M_curve_39 : decode b_M_curve 39 = .ok (.ladd, 1) := by decide +kernel
theorem d_M_curve_40 : decode b_M_curve 40 = .ok (.lload 17, 2) := by decide +kernel
theorem d_M_curve_42 : decode b_M_curve 42 = .ok (.ladd, 1) := by decide +kernel
theorem d_M_curve_43 : decode b_M_curve 43 = .ok (.lstore 19, 2) := by decide +kernel
theorem d_M_curve_45 : decode b_M_curve 45 = .ok (.lload 19, 2) := by decide +kernel
theorem d_M_curve_47 : decode b_M_curve 47 = .ok (.lconst 0, 1) := by decide +kernel
theorem d_M_curve_48 : decode b_M_curve 48 = .ok (.lcmp, 1) := by decide +kernel
theorem d_M_curve_49 : decode b_M_curve 49 = .ok (.ifCond .ne 136, 3) := by decide +kernel
theorem d_M_curve_52 : decode b_M_curve 52 = .ok (.lload_n 1, 1) := by decide +kernel
theorem d_M_curve_53 : decode b_M_curve 53 = .ok (.lload 5, 2) := by decide +kernel
theorem d_M_curve_55 : decode b_M_curve 55 = .ok (.lcmp, 1) := by decide +kernel
theorem d_M_curve_56 : decode b_M_curve 56 = .ok (.ifCond .ne 11, 3) := by decide +kernel
theorem d_M_curve_59 : decode b_M_curve 59 = .ok (.lload 5, 2) := by decide +kernel
theorem d_M_curve_61 : decode b_M_curve 61 = .ok (.lload 9, 2) := by decide +kernel
theorem d_M_curve_63 : decode b_M_curve 63 = .ok (.lcmp, 1) := by decide +kernel
theorem d_M_curve_64 : decode b_M_curve 64 = .ok (.ifCond .eq 7, 3) := by decide +kernel
theorem d_M_curve_67 : decode b_M_curve 67 = .ok (.iconst 1, 1) := by decide +kernel
theorem d_M_curve_68 : decode b_M_curve 68 = .ok (.goto 4, 3) := by decide +kernel
theorem d_M_curve_71 : decode b_M_curve 71 = .ok (.iconst 0, 1) := by decide +kernel
theorem d_M_curve_72 : decode b_M_curve 72 = .ok (.istore 21, 2) := by decide +kernel
theorem d_M_curve_74 : decode b_M_curve 74 = .ok (.lload 13, 2) := by decide +kernel
theorem d_M_curve_76 : decode b_M_curve 76 = .ok (.lconst 0, 1) := by decide +kernel
theorem d_M_curve_77 : decode b_M_curve 77 = .ok (.lcmp, 1) := by decide +kernel
theorem d_M_curve_78 : decode b_M_curve 78 = .ok (.ifCond .ne 21, 3) := by decide +kernel
theorem d_M_curve_81 : decode b_M_curve 81 = .ok (.lload 15, 2) := by decide +kernel
theorem d_M_curve_83 : decode b_M_curve 83 = .ok (.lconst 0, 1) := by decide +kernel
theorem d_M_curve_84 : decode b_M_curve 84 = .ok (.lcmp, 1) := by decide +kernel
theorem d_M_curve_85 : decode b_M_curve 85 = .ok (.ifCond .ne 14, 3) := by decide +kernel
theorem d_M_curve_88 : decode b_M_curve 88 = .ok (.lload 17, 2) := by decide +kernel
theorem d_M_curve_90 : decode b_M_curve 90 = .ok (.lconst 0, 1) := by decide +kernel
theorem d_M_curve_91 : decode b_M_curve 91 = .ok (.lcmp, 1) := by decide +kernel
theorem d_M_curve_92 : decode b_M_curve 92 = .ok (.ifCond .ne 7, 3) := by decide +kernel
theorem d_M_curve_95 : decode b_M_curve 95 = .ok (.iconst 1, 1) := by decide +kernel
theorem d_M_curve_96 : decode b_M_curve 96 = .ok (.goto 4, 3) := by decide +kernel
theorem d_M_curve_99 : decode b_M_curve 99 = .ok (.iconst 0, 1) := by decide +kernel
theorem d_M_curve_100 : decode b_M_curve 100 = .ok (.istore 22, 2) := by decide +kernel
theorem d_M_curve_102 : decode b_M_curve 102 = .ok (.iload 21, 2) := by decide +kernel
theorem d_M_curve_104 : decode b_M_curve 104 = .ok (.ifCond .ne 38, 3) := by decide +kernel
theorem d_M_curve_107 : decode b_M_curve 107 = .ok (.lload_n 3, 1) := by decide +kernel
theorem d_M_curve_108 : decode b_M_curve 108 = .ok (.lload 7, 2) := by decide +kernel
theorem d_M_curve_110 : decode b_M_curve 110 = .ok (.lcmp, 1) := by decide +kernel
theorem d_M_curve_111 : decode b_M_curve 111 = .ok (.ifCond .ne 31, 3) := by decide +kernel
theorem d_M_curve_114 : decode b_M_curve 114 = .ok (.lload 7, 2) := by decide +kernel
theorem d_M_curve_116 : decode b_M_curve 116 = .ok (.lload 11, 2) := by decide +kernel
theorem d_M_curve_118 : decode b_M_curve 118 = .ok (.lcmp, 1) := by decide +kernel
theorem d_M_curve_119 : decode b_M_curve 119 = .ok (.ifCond .ne 23, 3) := by decide +kernel
theorem d_M_curve_122 : decode b_M_curve 122 = .ok (.lload_n 1, 1) := by decide +kernel
theorem d_M_curve_123 : decode b_M_curve 123 = .ok (.lconst 0, 1) := by decide +kernel
theorem d_M_curve_124 : decode b_M_curve 124 = .ok (.lcmp, 1) := by decide +kernel
theorem d_M_curve_125 : decode b_M_curve 125 = .ok (.ifCond .ne 57, 3) := by decide +kernel
theorem d_M_curve_128 : decode b_M_curve 128 = .ok (.lload_n 3, 1) := by decide +kernel
theorem d_M_curve_129 : decode b_M_curve 129 = .ok (.lconst 0, 1) := by decide +kernel
theorem d_M_curve_130 : decode b_M_curve 130 = .ok (.lcmp, 1) := by decide +kernel
theorem d_M_curve_131 : decode b_M_curve 131 = .ok (.ifCond .ne 51, 3) := by decide +kernel
theorem d_M_curve_134 : decode b_M_curve 134 = .ok (.aload_n 0, 1) := by decide +kernel
theorem d_M_curve_135 : decode b_M_curve 135 = .ok (.iconst 1, 1) := by decide +kernel
theorem d_M_curve_136 : decode b_M_curve 136 = .ok (.putfield 52, 3) := by decide +kernel
theorem d_M_curve_139 : decode b_M_curve 139 = .ok (.goto 43, 3) := by decide +kernel
theorem d_M_curve_142 : decode b_M_curve 142 = .ok (.iload 22, 2) := by decide +kernel
theorem d_M_curve_144 : decode b_M_curve 144 = .ok (.ifCond .eq 38, 3) := by decide +kernel
theorem d_M_curve_147 : decode b_M_curve 147 = .ok (.iload 21, 2) := by decide +kernel
theorem d_M_curve_149 : decode b_M_curve 149 = .ok (.ifCond .eq 17, 3) := by decide +kernel
theorem d_M_curve_152 : decode b_M_curve 152 = .ok (.lload_n 1, 1) := by decide +kernel
theorem d_M_curve_153 : decode b_M_curve 153 = .ok (.lload 5, 2) := by decide +kernel
theorem d_M_curve_155 : decode b_M_curve 155 = .ok (.lload 9, 2) := by decide +kernel
theorem d_M_curve_157 : decode b_M_curve 157 = .ok (.invokestatic 63, 3) := by decide +kernel
theorem d_M_curve_160 : decode b_M_curve 160 = .ok (.ifCond .eq 22, 3) := by decide +kernel
theorem d_M_curve_163 : decode b_M_curve 163 = .ok (.goto 14, 3) := by decide +kernel
theorem d_M_curve_166 : decode b_M_curve 166 = .ok (.lload_n 3, 1) := by decide +kernel
theorem d_M_curve_167 : decode b_M_curve 167 = .ok (.lload 7, 2) := by decide +kernel
theorem d_M_curve_169 : decode b_M_curve 169 = .ok (.lload 11, 2) := by decide +kernel
theorem d_M_curve_171 : decode b_M_curve 171 = .ok (.invokestatic 63, 3) := by decide +kernel
theorem d_M_curve_174 : decode b_M_curve 174 = .ok (.ifCond .eq 8, 3) := by decide +kernel
theorem d_M_curve_177 : decode b_M_curve 177 = .ok (.aload_n 0, 1) := by decide +kernel
theorem d_M_curve_178 : decode b_M_curve 178 = .ok (.iconst 1, 1) := by decide +kernel
theorem d_M_curve_179 : decode b_M_curve 179 = .ok (.putfield 52, 3) := by decide +kernel
theorem d_M_curve_182 : decode b_M_curve 182 = .ok (.goto 73, 3) := by decide +kernel
theorem d_M_curve_185 : decode b_M_curve 185 = .ok (.lload 19, 2) := by decide +kernel
theorem d_M_curve_187 : decode b_M_curve 187 = .ok (.invokestatic 44, 3) := by decide +kernel
theorem d_M_curve_190 : decode b_M_curve 190 = .ok (.istore 21, 2) := by decide +kernel
theorem d_M_curve_192 : decode b_M_curve 192 = .ok (.iload 21, 2) := by decide +kernel
theorem d_M_curve_194 : decode b_M_curve 194 = .ok (.i2l, 1) := by decide +kernel
theorem d_M_curve_195 : decode b_M_curve 195 = .ok (.lload 13, 2) := by decide +kernel
theorem d_M_curve_197 : decode b_M_curve 197 = .ok (.lmul, 1) := by decide +kernel
theorem d_M_curve_198 : decode b_M_curve 198 = .ok (.lconst 0, 1) := by decide +kernel
theorem d_M_curve_199 : decode b_M_curve 199 = .ok (.lcmp, 1) := by decide +kernel
theorem d_M_curve_200 : decode b_M_curve 200 = .ok (.ifCond .lt 55, 3) := by decide +kernel
theorem d_M_curve_203 : decode b_M_curve 203 = .ok (.iload 21, 2) := by decide +kernel
theorem d_M_curve_205 : decode b_M_curve 205 = .ok (.i2l, 1) := by decide +kernel
theorem d_M_curve_206 : decode b_M_curve 206 = .ok (.lload 15, 2) := by decide +kernel
theorem d_M_curve_208 : decode b_M_curve 208 = .ok (.lmul, 1) := by decide +kernel
theorem d_M_curve_209 : decode b_M_curve 209 = .ok (.lconst 0, 1) := by decide +kernel
theorem d_M_curve_210 : decode b_M_curve 210 = .ok (.lcmp, 1) := by decide +kernel
theorem d_M_curve_211 : decode b_M_curve 211 = .ok (.ifCond .lt 44, 3) := by decide +kernel
theorem d_M_curve_214 : decode b_M_curve 214 = .ok (.iload 21, 2) := by decide +kernel
theorem d_M_curve_216 : decode b_M_curve 216 = .ok (.i2l, 1) := by decide +kernel
theorem d_M_curve_217 : decode b_M_curve 217 = .ok (.lload 17, 2) := by decide +kernel
theorem d_M_curve_219 : decode b_M_curve 219 = .ok (.lmul, 1) := by decide +kernel
theorem d_M_curve_220 : decode b_M_curve 220 = .ok (.lconst 0, 1) := by decide +kernel
theorem d_M_curve_221 : decode b_M_curve 221 = .ok (.lcmp, 1) := by decide +kernel
theorem d_M_curve_222 : decode b_M_curve 222 = .ok (.ifCond .lt 33, 3) := by decide +kernel
theorem d_M_curve_225 : decode b_M_curve 225 = .ok (.aload_n 0, 1) := by decide +kernel
theorem d_M_curve_226 : decode b_M_curve 226 = .ok (.iload 21, 2) := by decide +kernel
theorem d_M_curve_228 : decode b_M_curve 228 = .ok (.i2l, 1) := by decide +kernel
theorem d_M_curve_229 : decode b_M_curve 229 = .ok (.lload 13, 2) := by decide +kernel
theorem d_M_curve_231 : decode b_M_curve 231 = .ok (.lmul, 1) := by decide +kernel
theorem d_M_curve_232 : decode b_M_curve 232 = .ok (.iload 21, 2) := by decide +kernel
theorem d_M_curve_234 : decode b_M_curve 234 = .ok (.i2l, 1) := by decide +kernel
theorem d_M_curve_235 : decode b_M_curve 235 = .ok (.lload 15, 2) := by decide +kernel
theorem d_M_curve_237 : decode b_M_curve 237 = .ok (.lmul, 1) := by decide +kernel
theorem d_M_curve_238 : decode b_M_curve 238 = .ok (.iload 21, 2) := by decide +kernel
theorem d_M_curve_240 : decode b_M_curve 240 = .ok (.i2l, 1) := by decide +kernel
theorem d_M_curve_241 : decode b_M_curve 241 = .ok (.lload 17, 2) := by decide +kernel
theorem d_M_curve_243 : decode b_M_curve 243 = .ok (.lmul, 1) := by decide +kernel
theorem d_M_curve_244 : decode b_M_curve 244 = .ok (.invokevirtual 67, 3) := by decide +kernel
theorem d_M_curve_247 : decode b_M_curve 247 = .ok (.ifCond .eq 8, 3) := by decide +kernel
theorem d_M_curve_250 : decode b_M_curve 250 = .ok (.aload_n 0, 1) := by decide +kernel
theorem d_M_curve_251 : decode b_M_curve 251 = .ok (.iconst 1, 1) := by decide +kernel
theorem d_M_curve_252 : decode b_M_curve 252 = .ok (.putfield 52, 3) := by decide +kernel
theorem d_M_curve_255 : decode b_M_curve 255 = .ok (.aload_n 0, 1) := by decide +kernel
theorem d_M_curve_256 : decode b_M_curve 256 = .ok (.getfield 52, 3) := by decide +kernel
theorem d_M_curve_259 : decode b_M_curve 259 = .ok (.ifCond .eq 4, 3) := by decide +kernel
theorem d_M_curve_262 : decode b_M_curve 262 = .ok (.return_, 1) := by decide +kernel
theorem d_M_curve_263 : decode b_M_curve 263 = .ok (.lload_n 3, 1) := by decide +kernel
theorem d_M_curve_264 : decode b_M_curve 264 = .ok (.lconst 0, 1) := by decide +kernel
theorem d_M_curve_265 : decode b_M_curve 265 = .ok (.lcmp, 1) := by decide +kernel
theorem d_M_curve_266 : decode b_M_curve 266 = .ok (.ifCond .lt 7, 3) := by decide +kernel
theorem d_M_curve_269 : decode b_M_curve 269 = .ok (.iconst 1, 1) := by decide +kernel
theorem d_M_curve_270 : decode b_M_curve 270 = .ok (.goto 4, 3) := by decide +kernel
theorem d_M_curve_273 : decode b_M_curve 273 = .ok (.iconst 0, 1) := by decide +kernel
theorem d_M_curve_274 : decode b_M_curve 274 = .ok (.istore 21, 2) := by decide +kernel
theorem d_M_curve_276 : decode b_M_curve 276 = .ok (.lload 11, 2) := by decide +kernel
theorem d_M_curve_278 : decode b_M_curve 278 = .ok (.lconst 0, 1) := by decide +kernel
theorem d_M_curve_279 : decode b_M_curve 279 = .ok (.lcmp, 1) := by decide +kernel
theorem d_M_curve_280 : decode b_M_curve 280 = .ok (.ifCond .lt 7, 3) := by decide +kernel
theorem d_M_curve_283 : decode b_M_curve 283 = .ok (.iconst 1, 1) := by decide +kernel
theorem d_M_curve_284 : decode b_M_curve 284 = .ok (.goto 4, 3) := by decide +kernel
theorem d_M_curve_287 : decode b_M_curve 287 = .ok (.iconst 0, 1) := by decide +kernel
theorem d_M_curve_288 : decode b_M_curve 288 = .ok (.istore 22, 2) := by decide +kernel
theorem d_M_curve_290 : decode b_M_curve 290 = .ok (.iload 21, 2) := by decide +kernel
theorem d_M_curve_292 : decode b_M_curve 292 = .ok (.iload 22, 2) := by decide +kernel
theorem d_M_curve_294 : decode b_M_curve 294 = .ok (.if_icmp .eq 38, 3) := by decide +kernel
theorem d_M_curve_297 : decode b_M_curve 297 = .ok (.aload_n 0, 1) := by decide +kernel
theorem d_M_curve_298 : decode b_M_curve 298 = .ok (.iload 21, 2) := by decide +kernel
theorem d_M_curve_300 : decode b_M_curve 300 = .ok (.iload 22, 2) := by decide +kernel
theorem d_M_curve_302 : decode b_M_curve 302 = .ok (.aload_n 0, 1) := by decide +kernel
theorem d_M_curve_303 : decode b_M_curve 303 = .ok (.lload_n 1, 1) := by decide +kernel
theorem d_M_curve_304 : decode b_M_curve 304 = .ok (.lload_n 3, 1) := by decide +kernel
theorem d_M_curve_305 : decode b_M_curve 305 = .ok (.lload 5, 2) := by decide +kernel
theorem d_M_curve_307 : decode b_M_curve 307 = .ok (.lload 7, 2) := by decide +kernel
theorem d_M_curve_309 : decode b_M_curve 309 = .ok (.lload 9, 2) := by decide +kernel
theorem d_M_curve_311 : decode b_M_curve 311 = .ok (.lload 11, 2) := by decide +kernel
theorem d_M_curve_313 : decode b_M_curve 313 = .ok (.iload 22, 2) := by decide +kernel
theorem d_M_curve_315 : decode b_M_curve 315 = .ok (.ifCond .eq 7, 3) := by decide +kernel
theorem d_M_curve_318 : decode b_M_curve 318 = .ok (.iconst 1, 1) := by decide +kernel
theorem d_M_curve_319 : decode b_M_curve 319 = .ok (.goto 4, 3) := by decide +kernel
theorem d_M_curve_322 : decode b_M_curve 322 = .ok (.iconst (-1), 1) := by decide +kernel
theorem d_M_curve_323 : decode b_M_curve 323 = .ok (.invokevirtual 70, 3) := by decide +kernel
theorem d_M_curve_326 : decode b_M_curve 326 = .ok (.invokevirtual 59, 3) := by decide +kernel
theorem d_M_curve_329 : decode b_M_curve 329 = .ok (.goto 118, 3) := by decide +kernel
theorem d_M_curve_332 : decode b_M_curve 332 = .ok (.iload 21, 2) := by decide +kernel
theorem d_M_curve_334 : decode b_M_curve 334 = .ok (.ifCond .eq 13, 3) := by decide +kernel
theorem d_M_curve_337 : decode b_M_curve 337 = .ok (.lload 7, 2) := by decide +kernel
theorem d_M_curve_339 : decode b_M_curve 339 = .ok (.lconst 0, 1) := by decide +kernel
theorem d_M_curve_340 : decode b_M_curve 340 = .ok (.lcmp, 1) := by decide +kernel
theorem d_M_curve_341 : decode b_M_curve 341 = .ok (.ifCond .ge 106, 3) := by decide +kernel
theorem d_M_curve_344 : decode b_M_curve 344 = .ok (.goto 10, 3) := by decide +kernel
theorem d_M_curve_347 : decode b_M_curve 347 = .ok (.lload 7, 2) := by decide +kernel
theorem d_M_curve_349 : decode b_M_curve 349 = .ok (.lconst 0, 1) := by decide +kernel
theorem d_M_curve_350 : decode b_M_curve 350 = .ok (.lcmp, 1) := by decide +kernel
theorem d_M_curve_351 : decode b_M_curve 351 = .ok (.ifCond .le 96, 3) := by decide +kernel
theorem d_M_curve_354 : decode b_M_curve 354 = .ok (.lload 7, 2) := by decide +kernel
theorem d_M_curve_356 : decode b_M_curve 356 = .ok (.lload 7, 2) := by decide +kernel
theorem d_M_curve_358 : decode b_M_curve 358 = .ok (.lmul, 1) := by decide +kernel
theorem d_M_curve_359 : decode b_M_curve 359 = .ok (.lload_n 3, 1) := by decide +kernel
theorem d_M_curve_360 : decode b_M_curve 360 = .ok (.lload 11, 2) := by decide +kernel
theorem d_M_curve_362 : decode b_M_curve 362 = .ok (.lmul, 1) := by decide +kernel
theorem d_M_curve_363 : decode b_M_curve 363 = .ok (.lcmp, 1) := by decide +kernel
theorem d_M_curve_364 : decode b_M_curve 364 = .ok (.ifCond .le 83, 3) := by decide +kernel
theorem d_M_curve_367 : decode b_M_curve 367 = .ok (.aload_n 0, 1) := by decide +kernel
theorem d_M_curve_368 : decode b_M_curve 368 = .ok (.iload 21, 2) := by decide +kernel
theorem d_M_curve_370 : decode b_M_curve 370 = .ok (.iload 21, 2) := by decide +kernel
theorem d_M_curve_372 : decode b_M_curve 372 = .ok (.ifCond .ne 7, 3) := by decide +kernel
theorem d_M_curve_375 : decode b_M_curve 375 = .ok (.iconst 1, 1) := by decide +kernel
theorem d_M_curve_376 : decode b_M_curve 376 = .ok (.goto 4, 3) := by decide +kernel
theorem d_M_curve_379 : decode b_M_curve 379 = .ok (.iconst 0, 1) := by decide +kernel
theorem d_M_curve_380 : decode b_M_curve 380 = .ok (.aload_n 0, 1) := by decide +kernel
theorem d_M_curve_381 : decode b_M_curve 381 = .ok (.lload_n 1, 1) := by decide +kernel
theorem d_M_curve_382 : decode b_M_curve 382 = .ok (.lload_n 3, 1) := by decide +kernel
theorem d_M_curve_383 : decode b_M_curve 383 = .ok (.lload 5, 2) := by decide +kernel
theorem d_M_curve_385 : decode b_M_curve 385 = .ok (.lload 7, 2) := by decide +kernel
theorem d_M_curve_387 : decode b_M_curve 387 = .ok (.lload 9, 2) := by decide +kernel
theorem d_M_curve_389 : decode b_M_curve 389 = .ok (.lload 11, 2) := by decide +kernel
theorem d_M_curve_391 : decode b_M_curve 391 = .ok (.iload 21, 2) := by decide +kernel
theorem d_M_curve_393 : decode b_M_curve 393 = .ok (.ifCond .eq 7, 3) := by decide +kernel
theorem d_M_curve_396 : decode b_M_curve 396 = .ok (.iconst (-1), 1) := by decide +kernel
theorem d_M_curve_397 : decode b_M_curve 397 = .ok (.goto 4, 3) := by decide +kernel
theorem d_M_curve_400 : decode b_M_curve 400 = .ok (.iconst 1, 1) := by decide +kernel
theorem d_M_curve_401 : decode b_M_curve 401 = .ok (.invokevirtual 70, 3) := by decide +kernel
theorem d_M_curve_404 : decode b_M_curve 404 = .ok (.invokevirtual 59, 3) := by decide +kernel
theorem d_M_curve_407 : decode b_M_curve 407 = .ok (.aload_n 0, 1) := by decide +kernel
theorem d_M_curve_408 : decode b_M_curve 408 = .ok (.iload 21, 2) := by decide +kernel
theorem d_M_curve_410 : decode b_M_curve 410 = .ok (.ifCond .ne 7, 3) := by decide +kernel
theorem d_M_curve_413 : decode b_M_curve 413 = .ok (.iconst 1, 1) := by decide +kernel
theorem d_M_curve_414 : decode b_M_curve 414 = .ok (.goto 4, 3) := by decide +kernel
theorem d_M_curve_417 : decode b_M_curve 417 = .ok (.iconst 0, 1) := by decide +kernel
theorem d_M_curve_418 : decode b_M_curve 418 = .ok (.iload 21, 2) := by decide +kernel
theorem d_M_curve_420 : decode b_M_curve 420 = .ok (.aload_n 0, 1) := by decide +kernel
theorem d_M_curve_421 : decode b_M_curve 421 = .ok (.lload_n 1, 1) := by decide +kernel
theorem d_M_curve_422 : decode b_M_curve 422 = .ok (.lload_n 3, 1) := by decide +kernel
theorem d_M_curve_423 : decode b_M_curve 423 = .ok (.lload 5, 2) := by decide +kernel
theorem d_M_curve_425 : decode b_M_curve 425 = .ok (.lload 7, 2) := by decide +kernel
theorem d_M_curve_427 : decode b_M_curve 427 = .ok (.lload 9, 2) := by decide +kernel
theorem d_M_curve_429 : decode b_M_curve 429 = .ok (.lload 11, 2) := by decide +kernel
theorem d_M_curve_431 : decode b_M_curve 431 = .ok (.iload 21, 2) := by decide +kernel
theorem d_M_curve_433 : decode b_M_curve 433 = .ok (.ifCond .eq 7, 3) := by decide +kernel
theorem d_M_curve_436 : decode b_M_curve 436 = .ok (.iconst 1, 1) := by decide +kernel
theorem d_M_curve_437 : decode b_M_curve 437 = .ok (.goto 4, 3) := by decide +kernel
theorem d_M_curve_440 : decode b_M_curve 440 = .ok (.iconst (-1), 1) := by decide +kernel
theorem d_M_curve_441 : decode b_M_curve 441 = .ok (.invokevirtual 70, 3) := by decide +kernel
theorem d_M_curve_444 : decode b_M_curve 444 = .ok (.invokevirtual 59, 3) := by decide +kernel
theorem d_M_curve_447 : decode b_M_curve 447 = .ok (.return_, 1) := by decide +kernel
theorem d_M_side_0 : decode b_M_side 0 = .ok (.lload_n 1, 1) := by decide +kernel
theorem d_M_side_1 : decode b_M_side 1 = .ok (.ldc2_w 76, 3) := by decide +kernel
theorem d_M_side_4 : decode b_M_side 4 = .ok (.lload 5, 2) := by decide +kernel
theorem d_M_side_6 : decode b_M_side 6 = .ok (.lmul, 1) := by decide +kernel
theorem d_M_side_7 : decode b_M_side 7 = .ok (.lsub, 1) := by decide +kernel
theorem d_M_side_8 : decode b_M_side 8 = .ok (.lload 9, 2) := by decide +kernel
theorem d_M_side_10 : decode b_M_side 10 = .ok (.ladd, 1) := by decide +kernel
theorem d_M_side_11 : decode b_M_side 11 = .ok (.lstore 14, 2) := by decide +kernel
theorem d_M_side_13 : decode b_M_side 13 = .ok (.ldc2_w 76, 3) := by decide +kernel
theorem d_M_side_16 : decode b_M_side 16 = .ok (.lload 5, 2) := by decide +kernel
theorem d_M_side_18 : decode b_M_side 18 = .ok (.lload_n 1, 1) := by decide +kernel
theorem d_M_side_19 : decode b_M_side 19 = .ok (.lsub, 1) := by decide +kernel
theorem d_M_side_20 : decode b_M_side 20 = .ok (.lmul, 1) := by decide +kernel
theorem d_M_side_21 : decode b_M_side 21 = .ok (.lstore 16, 2) := by decide +kernel
theorem d_M_side_23 : decode b_M_side 23 = .ok (.lload_n 3, 1) := by decide +kernel
theorem d_M_side_24 : decode b_M_side 24 = .ok (.ldc2_w 76, 3) := by decide +kernel
theorem d_M_side_27 : decode b_M_side 27 = .ok (.lload 7, 2) := by decide +kernel
theorem d_M_side_29 : decode b_M_side 29 = .ok (.lmul, 1) := by decide +kernel
theorem d_M_side_30 : decode b_M_side 30 = .ok (.lsub, 1) := by decide +kernel
theorem d_M_side_31 : decode b_M_side 31 = .ok (.lload 11, 2) := by decide +kernel
theorem d_M_side_33 : decode b_M_side 33 = .ok (.ladd, 1) := by decide +kernel
theorem d_M_side_34 : decode b_M_side 34 = .ok (.lstore 18, 2) := by decide +kernel
theorem d_M_side_36 : decode b_M_side 36 = .ok (.ldc2_w 76, 3) := by decide +kernel
theorem d_M_side_39 : decode b_M_side 39 = .ok (.lload 7, 2) := by decide +kernel
theorem d_M_side_41 : decode b_M_side 41 = .ok (.lload_n 3, 1) := by decide +kernel
theorem d_M_side_42 : decode b_M_side 42 = .ok (.lsub, 1) := by decide +kernel
theorem d_M_side_43 : decode b_M_side 43 = .ok (.lmul, 1) := by decide +kernel
theorem d_M_side_44 : decode b_M_side 44 = .ok (.lstore 20, 2) := by decide +kernel
theorem d_M_side_46 : decode b_M_side 46 = .ok (.lload 18, 2) := by decide +kernel
theorem d_M_side_48 : decode b_M_side 48 = .ok (.lconst 0, 1) := by decide +kernel
theorem d_M_side_49 : decode b_M_side 49 = .ok (.lcmp, 1) := by decide +kernel
theorem d_M_side_50 : decode b_M_side 50 = .ok (.ifCond .ne 29, 3) := by decide +kernel
theorem d_M_side_53 : decode b_M_side 53 = .ok (.lload 14, 2) := by decide +kernel
theorem d_M_side_55 : decode b_M_side 55 = .ok (.lload_n 3, 1) := by decide +kernel
theorem d_M_side_56 : decode b_M_side 56 = .ok (.lmul, 1) := by decide +kernel
theorem d_M_side_57 : decode b_M_side 57 = .ok (.lload_n 3, 1) := by decide +kernel
theorem d_M_side_58 : decode b_M_side 58 = .ok (.lmul, 1) := by decide +kernel
theorem d_M_side_59 : decode b_M_side 59 = .ok (.lload 16, 2) := by decide +kernel
theorem d_M_side_61 : decode b_M_side 61 = .ok (.lload 20, 2) := by decide +kernel
theorem d_M_side_63 : decode b_M_side 63 = .ok (.lmul, 1) := by decide +kernel
theorem d_M_side_64 : decode b_M_side 64 = .ok (.lload_n 3, 1) := by decide +kernel
theorem d_M_side_65 : decode b_M_side 65 = .ok (.lmul, 1) := by decide +kernel
theorem d_M_side_66 : decode b_M_side 66 = .ok (.lsub, 1) := by decide +kernel
theorem d_M_side_67 : decode b_M_side 67 = .ok (.lload_n 1, 1) := by decide +kernel
theorem d_M_side_68 : decode b_M_side 68 = .ok (.lload 20, 2) := by decide +kernel
theorem d_M_side_70 : decode b_M_side 70 = .ok (.lmul, 1) := by decide +kernel
theorem d_M_side_71 : decode b_M_side 71 = .ok (.lload 20, 2) := by decide +kernel
theorem d_M_side_73 : decode b_M_side 73 = .ok (.lmul, 1) := by decide +kernel
theorem d_M_side_74 : decode b_M_side 74 = .ok (.ladd, 1) := by decide +kernel
theorem d_M_side_75 : decode b_M_side 75 = .ok (.invokestatic 44, 3) := by decide +kernel
theorem d_M_side_78 : decode b_M_side 78 = .ok (.ireturn, 1) := by decide +kernel
theorem d_M_side_79 : decode b_M_side 79 = .ok (.lload 18, 2) := by decide +kernel
theorem d_M_side_81 : decode b_M_side 81 = .ok (.lload 16, 2) := by decide +kernel
theorem d_M_side_83 : decode b_M_side 83 = .ok (.lmul, 1) := by decide +kernel
theorem d_M_side_84 : decode b_M_side 84 = .ok (.lload 14, 2) := by decide +kernel
theorem d_M_side_86 : decode b_M_side 86 = .ok (.lload 20, 2) := by decide +kernel
theorem d_M_side_88 : decode b_M_side 88 = .ok (.lmul, 1) := by decide +kernel
theorem d_M_side_89 : decode b_M_side 89 = .ok (.lsub, 1) := by decide +kernel
theorem d_M_side_90 : decode b_M_side 90 = .ok (.lstore 22, 2) := by decide +kernel
theorem d_M_side_92 : decode b_M_side 92 = .ok (.lload 18, 2) := by decide +kernel
theorem d_M_side_94 : decode b_M_side 94 = .ok (.lload_n 1, 1) := by decide +kernel
theorem d_M_side_95 : decode b_M_side 95 = .ok (.lmul, 1) := by decide +kernel
theorem d_M_side_96 : decode b_M_side 96 = .ok (.lload 14, 2) := by decide +kernel
theorem d_M_side_98 : decode b_M_side 98 = .ok (.lload_n 3, 1) := by decide +kernel
theorem d_M_side_99 : decode b_M_side 99 = .ok (.lmul, 1) := by decide +kernel
theorem d_M_side_100 : decode b_M_side 100 = .ok (.lsub, 1) := by decide +kernel
theorem d_M_side_101 : decode b_M_side 101 = .ok (.lstore 24, 2) := by decide +kernel
theorem d_M_side_103 : decode b_M_side 103 = .ok (.aload_n 0, 1) := by decide +kernel
theorem d_M_side_104 : decode b_M_side 104 = .ok (.ldc2_w 76, 3) := by decide +kernel
theorem d_M_side_107 : decode b_M_side 107 = .ok (.lload 18, 2) := by decide +kernel
theorem d_M_side_109 : decode b_M_side 109 = .ok (.lmul, 1) := by decide +kernel
theorem d_M_side_110 : decode b_M_side 110 = .ok (.lload 24, 2) := by decide +kernel
theorem d_M_side_112 : decode b_M_side 112 = .ok (.lmul, 1) := by decide +kernel
theorem d_M_side_113 : decode b_M_side 113 = .ok (.lload 22, 2) := by decide +kernel
theorem d_M_side_115 : decode b_M_side 115 = .ok (.lload 20, 2) := by decide +kernel
theorem d_M_side_117 : decode b_M_side 117 = .ok (.lmul, 1) := by decide +kernel
theorem d_M_side_118 : decode b_M_side 118 = .ok (.lsub, 1) := by decide +kernel
theorem d_M_side_119 : decode b_M_side 119 = .ok (.iload 13, 2) := by decide +kernel
theorem d_M_side_121 : decode b_M_side 121 = .ok (.i2l, 1) := by decide +kernel
theorem d_M_side_122 : decode b_M_side 122 = .ok (.lload 22, 2) := by decide +kernel
theorem d_M_side_124 : decode b_M_side 124 = .ok (.lmul, 1) := by decide +kernel
theorem d_M_side_125 : decode b_M_side 125 = .ok (.lload 20, 2) := by decide +kernel
theorem d_M_side_127 : decode b_M_side 127 = .ok (.lload 20, 2) := by decide +kernel
theorem d_M_side_129 : decode b_M_side 129 = .ok (.lmul, 1) := by decide +kernel
theorem d_M_side_130 : decode b_M_side 130 = .ok (.ldc2_w 74, 3) := by decide +kernel
theorem d_M_side_133 : decode b_M_side 133 = .ok (.lload 18, 2) := by decide +kernel
theorem d_M_side_135 : decode b_M_side 135 = .ok (.lmul, 1) := by decide +kernel
theorem d_M_side_136 : decode b_M_side 136 = .ok (.lload_n 3, 1) := by decide +kernel
theorem d_M_side_137 : decode b_M_side 137 = .ok (.lmul, 1) := by decide +kernel
theorem d_M_side_138 : decode b_M_side 138 = .ok (.lsub, 1) := by decide +kernel
theorem d_M_side_139 : decode b_M_side 139 = .ok (.invokevirtual 78, 3) := by decide +kernel
theorem d_M_side_142 : decode b_M_side 142 = .ok (.ireturn, 1) := by decide +kernel
end
section
theorem d_M_init_0 : decode b_M_init 0 = .ok (.aload_n 0, 1) := by decide +kernel
theorem d_M_init_1 : decode b_M_init 1 = .ok (.invokespecial 1, 3) := by decide +kernel
theorem d_M_init_4 : decode b_M_init 4 = .ok (.aload_n 0, 1) := by decide +kernel
theorem d_M_init_5 : decode b_M_init 5 = .ok (.sipush 256, 3) := by decide +kernel
theorem d_M_init_8 : decode b_M_init 8 = .ok (.newarray .long, 2) := by decide +kernel
theorem d_M_init_10 : decode b_M_init 10 = .ok (.putfield 9, 3) := by decide +kernel
theorem d_M_init_13 : decode b_M_init 13 = .ok (.aload_n 0, 1) := by decide +kernel
theorem d_M_init_14 : decode b_M_init 14 = .ok (.sipush 256, 3) := by decide +kernel
theorem d_M_init_17 : decode b_M_init 17 = .ok (.newarray .long, 2) := by decide +kernel
theorem d_M_init_19 : decode b_M_init 19 = .ok (.putfield 13, 3) := by decide +kernel
theorem d_M_init_22 : decode b_M_init 22 = .ok (.aload_n 0, 1) := by decide +kernel
theorem d_M_init_23 : decode b_M_init 23 = .ok (.sipush 256, 3) := by decide +kernel
theorem d_M_init_26 : decode b_M_init 26 = .ok (.newarray .boolean, 2) := by decide +kernel
theorem d_M_init_28 : decode b_M_init 28 = .ok (.putfield 16, 3) := by decide +kernel
theorem d_M_init_31 : decode b_M_init 31 = .ok (.aload_n 0, 1) := by decide +kernel
theorem d_M_init_32 : decode b_M_init 32 = .ok (.sipush 256, 3) := by decide +kernel
theorem d_M_init_35 : decode b_M_init 35 = .ok (.newarray .int, 2) := by decide +kernel
theorem d_M_init_37 : decode b_M_init 37 = .ok (.putfield 20, 3) := by decide +kernel
theorem d_M_init_40 : decode b_M_init 40 = .ok (.aload_n 0, 1) := by decide +kernel
theorem d_M_init_41 : decode b_M_init 41 = .ok (.bipush 6, 2) := by decide +kernel
theorem d_M_init_43 : decode b_M_init 43 = .ok (.newarray .long, 2) := by decide +kernel
theorem d_M_init_45 : decode b_M_init 45 = .ok (.putfield 24, 3) := by decide +kernel
theorem d_M_init_48 : decode b_M_init 48 = .ok (.aload_n 0, 1) := by decide +kernel
theorem d_M_init_49 : decode b_M_init 49 = .ok (.bipush 6, 2) := by decide +kernel
theorem d_M_init_51 : decode b_M_init 51 = .ok (.newarray .long, 2) := by decide +kernel
theorem d_M_init_53 : decode b_M_init 53 = .ok (.putfield 27, 3) := by decide +kernel
theorem d_M_init_56 : decode b_M_init 56 = .ok (.aload_n 0, 1) := by decide +kernel
theorem d_M_init_57 : decode b_M_init 57 = .ok (.iload_n 1, 1) := by decide +kernel
theorem d_M_init_58 : decode b_M_init 58 = .ok (.iconst 1, 1) := by decide +kernel
theorem d_M_init_59 : decode b_M_init 59 = .ok (.if_icmp .ge 7, 3) := by decide +kernel
theorem d_M_init_62 : decode b_M_init 62 = .ok (.iconst 1, 1) := by decide +kernel
theorem d_M_init_63 : decode b_M_init 63 = .ok (.goto 15, 3) := by decide +kernel
theorem d_M_init_66 : decode b_M_init 66 = .ok (.iload_n 1, 1) := by decide +kernel
theorem d_M_init_67 : decode b_M_init 67 = .ok (.bipush 64, 2) := by decide +kernel
theorem d_M_init_69 : decode b_M_init 69 = .ok (.if_icmp .le 8, 3) := by decide +kernel
theorem d_M_init_72 : decode b_M_init 72 = .ok (.bipush 64, 2) := by decide +kernel
theorem d_M_init_74 : decode b_M_init 74 = .ok (.goto 4, 3) := by decide +kernel
theorem d_M_init_77 : decode b_M_init 77 = .ok (.iload_n 1, 1) := by decide +kernel
theorem d_M_init_78 : decode b_M_init 78 = .ok (.putfield 30, 3) := by decide +kernel
theorem d_M_init_81 : decode b_M_init 81 = .ok (.return_, 1) := by decide +kernel
theorem d_M_point_0 : decode b_M_point 0 = .ok (.iload_n 1, 1) := by decide +kernel
theorem d_M_point_1 : decode b_M_point 1 = .ok (.invokestatic 92, 3) := by decide +kernel
theorem d_M_point_4 : decode b_M_point 4 = .ok (.ifCond .ne 10, 3) := by decide +kernel
theorem d_M_point_7 : decode b_M_point 7 = .ok (.iload_n 2, 1) := by decide +kernel
theorem d_M_point_8 : decode b_M_point 8 = .ok (.invokestatic 92, 3) := by decide +kernel
theorem d_M_point_11 : decode b_M_point 11 = .ok (.ifCond .eq 5, 3) := by decide +kernel
theorem d_M_point_14 : decode b_M_point 14 = .ok (.iconst (-1), 1) := by decide +kernel
theorem d_M_point_15 : decode b_M_point 15 = .ok (.ireturn, 1) := by decide +kernel
theorem d_M_point_16 : decode b_M_point 16 = .ok (.aload_n 0, 1) := by decide +kernel
theorem d_M_point_17 : decode b_M_point 17 = .ok (.getfield 96, 3) := by decide +kernel
theorem d_M_point_20 : decode b_M_point 20 = .ok (.sipush 256, 3) := by decide +kernel
theorem d_M_point_23 : decode b_M_point 23 = .ok (.if_icmp .ne 6, 3) := by decide +kernel
theorem d_M_point_26 : decode b_M_point 26 = .ok (.bipush (-3), 2) := by decide +kernel
theorem d_M_point_28 : decode b_M_point 28 = .ok (.ireturn, 1) := by decide +kernel
theorem d_M_point_29 : decode b_M_point 29 = .ok (.aload_n 0, 1) := by decide +kernel
theorem d_M_point_30 : decode b_M_point 30 = .ok (.getfield 9, 3) := by decide +kernel
theorem d_M_point_33 : decode b_M_point 33 = .ok (.aload_n 0, 1) := by decide +kernel
theorem d_M_point_34 : decode b_M_point 34 = .ok (.getfield 96, 3) := by decide +kernel
theorem d_M_point_37 : decode b_M_point 37 = .ok (.ldc2_w 76, 3) := by decide +kernel
theorem d_M_point_40 : decode b_M_point 40 = .ok (.iload_n 1, 1) := by decide +kernel
theorem d_M_point_41 : decode b_M_point 41 = .ok (.i2l, 1) := by decide +kernel
theorem d_M_point_42 : decode b_M_point 42 = .ok (.lmul, 1) := by decide +kernel
theorem d_M_point_43 : decode b_M_point 43 = .ok (.lastore, 1) := by decide +kernel
theorem d_M_point_44 : decode b_M_point 44 = .ok (.aload_n 0, 1) := by decide +kernel
theorem d_M_point_45 : decode b_M_point 45 = .ok (.getfield 13, 3) := by decide +kernel
theorem d_M_point_48 : decode b_M_point 48 = .ok (.aload_n 0, 1) := by decide +kernel
theorem d_M_point_49 : decode b_M_point 49 = .ok (.getfield 96, 3) := by decide +kernel
theorem d_M_point_52 : decode b_M_point 52 = .ok (.ldc2_w 76, 3) := by decide +kernel
theorem d_M_point_55 : decode b_M_point 55 = .ok (.iload_n 2, 1) := by decide +kernel
theorem d_M_point_56 : decode b_M_point 56 = .ok (.i2l, 1) := by decide +kernel
theorem d_M_point_57 : decode b_M_point 57 = .ok (.lmul, 1) := by decide +kernel
theorem d_M_point_58 : decode b_M_point 58 = .ok (.lastore, 1) := by decide +kernel
theorem d_M_point_59 : decode b_M_point 59 = .ok (.aload_n 0, 1) := by decide +kernel
theorem d_M_point_60 : decode b_M_point 60 = .ok (.getfield 16, 3) := by decide +kernel
theorem d_M_point_63 : decode b_M_point 63 = .ok (.aload_n 0, 1) := by decide +kernel
theorem d_M_point_64 : decode b_M_point 64 = .ok (.getfield 96, 3) := by decide +kernel
theorem d_M_point_67 : decode b_M_point 67 = .ok (.iload_n 3, 1) := by decide +kernel
theorem d_M_point_68 : decode b_M_point 68 = .ok (.bastore, 1) := by decide +kernel
theorem d_M_point_69 : decode b_M_point 69 = .ok (.aload_n 0, 1) := by decide +kernel
theorem d_M_point_70 : decode b_M_point 70 = .ok (.dup, 1) := by decide +kernel
theorem d_M_point_71 : decode b_M_point 71 = .ok (.getfield 96, 3) := by decide +kernel
theorem d_M_point_74 : decode b_M_point 74 = .ok (.iconst 1, 1) := by decide +kernel
theorem d_M_point_75 : decode b_M_point 75 = .ok (.iadd, 1) := by decide +kernel
theorem d_M_point_76 : decode b_M_point 76 = .ok (.putfield 96, 3) := by decide +kernel
theorem d_M_point_79 : decode b_M_point 79 = .ok (.aload_n 0, 1) := by decide +kernel
theorem d_M_point_80 : decode b_M_point 80 = .ok (.getfield 96, 3) := by decide +kernel
theorem d_M_point_83 : decode b_M_point 83 = .ok (.aload_n 0, 1) := by decide +kernel
theorem d_M_point_84 : decode b_M_point 84 = .ok (.invokevirtual 99, 3) := by decide +kernel
theorem d_M_point_87 : decode b_M_point 87 = .ok (.isub, 1) := by decide +kernel
theorem d_M_point_88 : decode b_M_point 88 = .ok (.ireturn, 1) := by decide +kernel
theorem d_M_far_0 : decode b_M_far 0 = .ok (.iload_n 0, 1) := by decide +kernel
theorem d_M_far_1 : decode b_M_far 1 = .ok (.sipush (-20000), 3) := by decide +kernel
theorem d_M_far_4 : decode b_M_far 4 = .ok (.if_icmp .lt 10, 3) := by decide +kernel
theorem d_M_far_7 : decode b_M_far 7 = .ok (.iload_n 0, 1) := by decide +kernel
theorem d_M_far_8 : decode b_M_far 8 = .ok (.sipush 20000, 3) := by decide +kernel
theorem d_M_far_11 : decode b_M_far 11 = .ok (.if_icmp .le 7, 3) := by decide +kernel
theorem d_M_far_14 : decode b_M_far 14 = .ok (.iconst 1, 1) := by decide +kernel
theorem d_M_far_15 : decode b_M_far 15 = .ok (.goto 4, 3) := by decide +kernel
theorem d_M_far_18 : decode b_M_far 18 = .ok (.iconst 0, 1) := by decide +kernel
theorem d_M_far_19 : decode b_M_far 19 = .ok (.ireturn, 1) := by decide +kernel
theorem d_M_begun_0 : decode b_M_begun 0 = .ok (.aload_n 0, 1) := by decide +kernel
theorem d_M_begun_1 : decode b_M_begun 1 = .ok (.getfield 89, 3) := by decide +kernel
theorem d_M_begun_4 : decode b_M_begun 4 = .ok (.ifCond .ne 7, 3) := by decide +kernel
theorem d_M_begun_7 : decode b_M_begun 7 = .ok (.iconst 0, 1) := by decide +kernel
theorem d_M_begun_8 : decode b_M_begun 8 = .ok (.goto 14, 3) := by decide +kernel
theorem d_M_begun_11 : decode b_M_begun 11 = .ok (.aload_n 0, 1) := by decide +kernel
theorem d_M_begun_12 : decode b_M_begun 12 = .ok (.getfield 20, 3) := by decide +kernel
theorem d_M_begun_15 : decode b_M_begun 15 = .ok (.aload_n 0, 1) := by decide +kernel
theorem d_M_begun_16 : decode b_M_begun 16 = .ok (.getfield 89, 3) := by decide +kernel
theorem d_M_begun_19 : decode b_M_begun 19 = .ok (.iconst 1, 1) := by decide +kernel
theorem d_M_begun_20 : decode b_M_begun 20 = .ok (.isub, 1) := by decide +kernel
theorem d_M_begun_21 : decode b_M_begun 21 = .ok (.iaload, 1) := by decide +kernel
theorem d_M_begun_22 : decode b_M_begun 22 = .ok (.ireturn, 1) := by decide +kernel
theorem d_M_close_0 : decode b_M_close 0 = .ok (.aload_n 0, 1) := by decide +kernel
theorem d_M_close_1 : decode b_M_close 1 = .ok (.getfield 96, 3) := by decide +kernel
theorem d_M_close_4 : decode b_M_close 4 = .ok (.aload_n 0, 1) := by decide +kernel
theorem d_M_close_5 : decode b_M_close 5 = .ok (.invokevirtual 99, 3) := by decide +kernel
theorem d_M_close_8 : decode b_M_close 8 = .ok (.if_icmp .ne 6, 3) := by decide +kernel
theorem d_M_close_11 : decode b_M_close 11 = .ok (.bipush (-2), 2) := by decide +kernel
theorem d_M_close_13 : decode b_M_close 13 = .ok (.ireturn, 1) := by decide +kernel
theorem d_M_close_14 : decode b_M_close 14 = .ok (.aload_n 0, 1) := by decide +kernel
theorem d_M_close_15 : decode b_M_close 15 = .ok (.getfield 20, 3) := by decide +kernel
theorem d_M_close_18 : decode b_M_close 18 = .ok (.aload_n 0, 1) := by decide +kernel
theorem d_M_close_19 : decode b_M_close 19 = .ok (.getfield 89, 3) := by decide +kernel
theorem d_M_close_22 : decode b_M_close 22 = .ok (.aload_n 0, 1) := by decide +kernel
theorem d_M_close_23 : decode b_M_close 23 = .ok (.getfield 96, 3) := by decide +kernel
theorem d_M_close_26 : decode b_M_close 26 = .ok (.iastore, 1) := by decide +kernel
theorem d_M_close_27 : decode b_M_close 27 = .ok (.aload_n 0, 1) := by decide +kernel
theorem d_M_close_28 : decode b_M_close 28 = .ok (.dup, 1) := by decide +kernel
theorem d_M_close_29 : decode b_M_close 29 = .ok (.getfield 89, 3) := by decide +kernel
theorem d_M_close_32 : decode b_M_close 32 = .ok (.iconst 1, 1) := by decide +kernel
theorem d_M_close_33 : decode b_M_close 33 = .ok (.iadd, 1) := by decide +kernel
theorem d_M_close_34 : decode b_M_close 34 = .ok (.putfield 89, 3) := by decide +kernel
theorem d_M_close_37 : decode b_M_close 37 = .ok (.aload_n 0, 1) := by decide +kernel
theorem d_M_close_38 : decode b_M_close 38 = .ok (.getfield 89, 3) := by decide +kernel
theorem d_M_close_41 : decode b_M_close 41 = .ok (.ireturn, 1) := by decide +kernel
theorem d_M_clear_0 : decode b_M_clear 0 = .ok (.aload_n 0, 1) := by decide +kernel
theorem d_M_clear_1 : decode b_M_clear 1 = .ok (.getfield 89, 3) := by decide +kernel
theorem d_M_clear_4 : decode b_M_clear 4 = .ok (.istore_n 1, 1) := by decide +kernel
theorem d_M_clear_5 : decode b_M_clear 5 = .ok (.aload_n 0, 1) := by decide +kernel
theorem d_M_clear_6 : decode b_M_clear 6 = .ok (.iconst 0, 1) := by decide +kernel
theorem d_M_clear_7 : decode b_M_clear 7 = .ok (.putfield 89, 3) := by decide +kernel
theorem d_M_clear_10 : decode b_M_clear 10 = .ok (.aload_n 0, 1) := by decide +kernel
theorem d_M_clear_11 : decode b_M_clear 11 = .ok (.iconst 0, 1) := by decide +kernel
theorem d_M_clear_12 : decode b_M_clear 12 = .ok (.putfield 96, 3) := by decide +kernel
theorem d_M_clear_15 : decode b_M_clear 15 = .ok (.iload_n 1, 1) := by decide +kernel
theorem d_M_clear_16 : decode b_M_clear 16 = .ok (.ireturn, 1) := by decide +kernel
theorem d_M_winding_0 : decode b_M_winding 0 = .ok (.iload_n 1, 1) := by decide +kernel
theorem d_M_winding_1 : decode b_M_winding 1 = .ok (.invokestatic 92, 3) := by decide +kernel
theorem d_M_winding_4 : decode b_M_winding 4 = .ok (.ifCond .ne 10, 3) := by decide +kernel
theorem d_M_winding_7 : decode b_M_winding 7 = .ok (.iload_n 2, 1) := by decide +kernel
theorem d_M_winding_8 : decode b_M_winding 8 = .ok (.invokestatic 92, 3) := by decide +kernel
theorem d_M_winding_11 : decode b_M_winding 11 = .ok (.ifCond .eq 7, 3) := by decide +kernel
theorem d_M_winding_14 : decode b_M_winding 14 = .ok (.sipush 2000, 3) := by decide +kernel
theorem d_M_winding_17 : decode b_M_winding 17 = .ok (.ireturn, 1) := by decide +kernel
theorem d_M_winding_18 : decode b_M_winding 18 = .ok (.aload_n 0, 1) := by decide +kernel
theorem d_M_winding_19 : decode b_M_winding 19 = .ok (.ldc2_w 76, 3) := by decide +kernel
theorem d_M_winding_22 : decode b_M_winding 22 = .ok (.iload_n 1, 1) := by decide +kernel
theorem d_M_winding_23 : decode b_M_winding 23 = .ok (.i2l, 1) := by decide +kernel
theorem d_M_winding_24 : decode b_M_winding 24 = .ok (.lmul, 1) := by decide +kernel
theorem d_M_winding_25 : decode b_M_winding 25 = .ok (.ldc2_w 76, 3) := by decide +kernel
theorem d_M_winding_28 : decode b_M_winding 28 = .ok (.iload_n 2, 1) := by decide +kernel
theorem d_M_winding_29 : decode b_M_winding 29 = .ok (.i2l, 1) := by decide +kernel
theorem d_M_winding_30 : decode b_M_winding 30 = .ok (.lmul, 1) := by decide +kernel
theorem d_M_winding_31 : decode b_M_winding 31 = .ok (.invokevirtual 107, 3) := by decide +kernel
theorem d_M_winding_34 : decode b_M_winding 34 = .ok (.aload_n 0, 1) := by decide +kernel
theorem d_M_winding_35 : decode b_M_winding 35 = .ok (.getfield 52, 3) := by decide +kernel
theorem d_M_winding_38 : decode b_M_winding 38 = .ok (.ifCond .eq 9, 3) := by decide +kernel
theorem d_M_winding_41 : decode b_M_winding 41 = .ok (.sipush 1000, 3) := by decide +kernel
theorem d_M_winding_44 : decode b_M_winding 44 = .ok (.goto 7, 3) := by decide +kernel
theorem d_M_winding_47 : decode b_M_winding 47 = .ok (.aload_n 0, 1) := by decide +kernel
theorem d_M_winding_48 : decode b_M_winding 48 = .ok (.getfield 56, 3) := by decide +kernel
theorem d_M_winding_51 : decode b_M_winding 51 = .ok (.ireturn, 1) := by decide +kernel
theorem d_M_go_0 : decode b_M_go 0 = .ok (.aload_n 0, 1) := by decide +kernel
theorem d_M_go_1 : decode b_M_go 1 = .ok (.iconst 0, 1) := by decide +kernel
theorem d_M_go_2 : decode b_M_go 2 = .ok (.putfield 52, 3) := by decide +kernel
theorem d_M_go_5 : decode b_M_go 5 = .ok (.aload_n 0, 1) := by decide +kernel
theorem d_M_go_6 : decode b_M_go 6 = .ok (.iconst 0, 1) := by decide +kernel
theorem d_M_go_7 : decode b_M_go 7 = .ok (.putfield 56, 3) := by decide +kernel
theorem d_M_go_10 : decode b_M_go 10 = .ok (.iconst 0, 1) := by decide +kernel
theorem d_M_go_11 : decode b_M_go 11 = .ok (.istore 5, 2) := by decide +kernel
theorem d_M_go_13 : decode b_M_go 13 = .ok (.iconst 0, 1) := by decide +kernel
theorem d_M_go_14 : decode b_M_go 14 = .ok (.istore 6, 2) := by decide +kernel
theorem d_M_go_16 : decode b_M_go 16 = .ok (.iload 6, 2) := by decide +kernel
theorem d_M_go_18 : decode b_M_go 18 = .ok (.aload_n 0, 1) := by decide +kernel
theorem d_M_go_19 : decode b_M_go 19 = .ok (.getfield 89, 3) := by decide +kernel
theorem d_M_go_22 : decode b_M_go 22 = .ok (.if_icmp .ge 34, 3) := by decide +kernel
theorem d_M_go_25 : decode b_M_go 25 = .ok (.aload_n 0, 1) := by decide +kernel
theorem d_M_go_26 : decode b_M_go 26 = .ok (.iconst 0, 1) := by decide +kernel
theorem d_M_go_27 : decode b_M_go 27 = .ok (.iload 5, 2) := by decide +kernel
theorem d_M_go_29 : decode b_M_go 29 = .ok (.aload_n 0, 1) := by decide +kernel
theorem d_M_go_30 : decode b_M_go 30 = .ok (.getfield 20, 3) := by decide +kernel
theorem d_M_go_33 : decode b_M_go 33 = .ok (.iload 6, 2) := by decide +kernel
theorem d_M_go_35 : decode b_M_go 35 = .ok (.iaload, 1) := by decide +kernel
theorem d_M_go_36 : decode b_M_go 36 = .ok (.lload_n 1, 1) := by decide +kernel
theorem d_M_go_37 : decode b_M_go 37 = .ok (.lload_n 3, 1) := by decide +kernel
theorem d_M_go_38 : decode b_M_go 38 = .ok (.invokevirtual 103, 3) := by decide +kernel
theorem d_M_go_41 : decode b_M_go 41 = .ok (.aload_n 0, 1) := by decide +kernel
theorem d_M_go_42 : decode b_M_go 42 = .ok (.getfield 20, 3) := by decide +kernel
theorem d_M_go_45 : decode b_M_go 45 = .ok (.iload 6, 2) := by decide +kernel
theorem d_M_go_47 : decode b_M_go 47 = .ok (.iaload, 1) := by decide +kernel
theorem d_M_go_48 : decode b_M_go 48 = .ok (.istore 5, 2) := by decide +kernel
theorem d_M_go_50 : decode b_M_go 50 = .ok (.iinc 6 1, 3) := by decide +kernel
theorem d_M_go_53 : decode b_M_go 53 = .ok (.goto (-37), 3) := by decide +kernel
theorem d_M_go_56 : decode b_M_go 56 = .ok (.return_, 1) := by decide +kernel
theorem d_M_line_0 : decode b_M_line 0 = .ok (.lload_n 1, 1) := by decide +kernel
theorem d_M_line_1 : decode b_M_line 1 = .ok (.lload 7, 2) := by decide +kernel
theorem d_M_line_3 : decode b_M_line 3 = .ok (.lmul, 1) := by decide +kernel
theorem d_M_line_4 : decode b_M_line 4 = .ok (.lload 5, 2) := by decide +kernel
theorem d_M_line_6 : decode b_M_line 6 = .ok (.lload_n 3, 1) := by decide +kernel
theorem d_M_line_7 : decode b_M_line 7 = .ok (.lmul, 1) := by decide +kernel
theorem d_M_line_8 : decode b_M_line 8 = .ok (.lsub, 1) := by decide +kernel
theorem d_M_line_9 : decode b_M_line 9 = .ok (.lstore 9, 2) := by decide +kernel
theorem d_M_line_11 : decode b_M_line 11 = .ok (.lload 9, 2) := by decide +kernel
theorem d_M_line_13 : decode b_M_line 13 = .ok (.lconst 0, 1) := by decide +kernel
theorem d_M_line_14 : decode b_M_line 14 = .ok (.lcmp, 1) := by decide +kernel
theorem d_M_line_15 : decode b_M_line 15 = .ok (.ifCond .ne 22, 3) := by decide +kernel
theorem d_M_line_18 : decode b_M_line 18 = .ok (.lload_n 1, 1) := by decide +kernel
theorem d_M_line_19 : decode b_M_line 19 = .ok (.lload 5, 2) := by decide +kernel
theorem d_M_line_21 : decode b_M_line 21 = .ok (.lmul, 1) := by decide +kernel
theorem d_M_line_22 : decode b_M_line 22 = .ok (.lload_n 3, 1) := by decide +kernel
theorem d_M_line_23 : decode b_M_line 23 = .ok (.lload 7, 2) := by decide +kernel
theorem d_M_line_25 : decode b_M_line 25 = .ok (.lmul, 1) := by decide +kernel
theorem d_M_line_26 : decode b_M_line 26 = .ok (.ladd, 1) := by decide +kernel
theorem d_M_line_27 : decode b_M_line 27 = .ok (.lconst 0, 1) := by decide +kernel
theorem d_M_line_28 : decode b_M_line 28 = .ok (.lcmp, 1) := by decide +kernel
theorem d_M_line_29 : decode b_M_line 29 = .ok (.ifCond .gt 8, 3) := by decide +kernel
theorem d_M_line_32 : decode b_M_line 32 = .ok (.aload_n 0, 1) := by decide +kernel
theorem d_M_line_33 : decode b_M_line 33 = .ok (.iconst 1, 1) := by decide +kernel
theorem d_M_line_34 : decode b_M_line 34 = .ok (.putfield 52, 3) := by decide +kernel
theorem d_M_line_37 : decode b_M_line 37 = .ok (.lload_n 3, 1) := by decide +kernel
theorem d_M_line_38 : decode b_M_line 38 = .ok (.lconst 0, 1) := by decide +kernel
theorem d_M_line_39 : decode b_M_line 39 = .ok (.lcmp, 1) := by decide +kernel
theorem d_M_line_40 : decode b_M_line 40 = .ok (.ifCond .lt 7, 3) := by decide +kernel
theorem d_M_line_43 : decode b_M_line 43 = .ok (.iconst 1, 1) := by decide +kernel
theorem d_M_line_44 : decode b_M_line 44 = .ok (.goto 4, 3) := by decide +kernel
theorem d_M_line_47 : decode b_M_line 47 = .ok (.iconst 0, 1) := by decide +kernel
theorem d_M_line_48 : decode b_M_line 48 = .ok (.lload 7, 2) := by decide +kernel
theorem d_M_line_50 : decode b_M_line 50 = .ok (.lconst 0, 1) := by decide +kernel
theorem d_M_line_51 : decode b_M_line 51 = .ok (.lcmp, 1) := by decide +kernel
theorem d_M_line_52 : decode b_M_line 52 = .ok (.ifCond .lt 7, 3) := by decide +kernel
theorem d_M_line_55 : decode b_M_line 55 = .ok (.iconst 1, 1) := by decide +kernel
theorem d_M_line_56 : decode b_M_line 56 = .ok (.goto 4, 3) := by decide +kernel
theorem d_M_line_59 : decode b_M_line 59 = .ok (.iconst 0, 1) := by decide +kernel
theorem d_M_line_60 : decode b_M_line 60 = .ok (.if_icmp .eq 43, 3) := by decide +kernel
theorem d_M_line_63 : decode b_M_line 63 = .ok (.aload_n 0, 1) := by decide +kernel
theorem d_M_line_64 : decode b_M_line 64 = .ok (.lload_n 3, 1) := by decide +kernel
theorem d_M_line_65 : decode b_M_line 65 = .ok (.lconst 0, 1) := by decide +kernel
theorem d_M_line_66 : decode b_M_line 66 = .ok (.lcmp, 1) := by decide +kernel
theorem d_M_line_67 : decode b_M_line 67 = .ok (.ifCond .lt 7, 3) := by decide +kernel
theorem d_M_line_70 : decode b_M_line 70 = .ok (.iconst 1, 1) := by decide +kernel
theorem d_M_line_71 : decode b_M_line 71 = .ok (.goto 4, 3) := by decide +kernel
theorem d_M_line_74 : decode b_M_line 74 = .ok (.iconst 0, 1) := by decide +kernel
theorem d_M_line_75 : decode b_M_line 75 = .ok (.lload 7, 2) := by decide +kernel
theorem d_M_line_77 : decode b_M_line 77 = .ok (.lconst 0, 1) := by decide +kernel
theorem d_M_line_78 : decode b_M_line 78 = .ok (.lcmp, 1) := by decide +kernel
theorem d_M_line_79 : decode b_M_line 79 = .ok (.ifCond .lt 7, 3) := by decide +kernel
theorem d_M_line_82 : decode b_M_line 82 = .ok (.iconst 1, 1) := by decide +kernel
theorem d_M_line_83 : decode b_M_line 83 = .ok (.goto 4, 3) := by decide +kernel
theorem d_M_line_86 : decode b_M_line 86 = .ok (.iconst 0, 1) := by decide +kernel
theorem d_M_line_87 : decode b_M_line 87 = .ok (.lload 9, 2) := by decide +kernel
theorem d_M_line_89 : decode b_M_line 89 = .ok (.invokestatic 44, 3) := by decide +kernel
theorem d_M_line_92 : decode b_M_line 92 = .ok (.lload 7, 2) := by decide +kernel
theorem d_M_line_94 : decode b_M_line 94 = .ok (.lload_n 3, 1) := by decide +kernel
theorem d_M_line_95 : decode b_M_line 95 = .ok (.lsub, 1) := by decide +kernel
theorem d_M_line_96 : decode b_M_line 96 = .ok (.invokestatic 44, 3) := by decide +kernel
theorem d_M_line_99 : decode b_M_line 99 = .ok (.imul, 1) := by decide +kernel
theorem d_M_line_100 : decode b_M_line 100 = .ok (.invokevirtual 59, 3) := by decide +kernel
theorem d_M_line_103 : decode b_M_line 103 = .ok (.return_, 1) := by decide +kernel
theorem d_M_sign_0 : decode b_M_sign 0 = .ok (.lload_n 0, 1) := by decide +kernel
theorem d_M_sign_1 : decode b_M_sign 1 = .ok (.lconst 0, 1) := by decide +kernel
theorem d_M_sign_2 : decode b_M_sign 2 = .ok (.lcmp, 1) := by decide +kernel
theorem d_M_sign_3 : decode b_M_sign 3 = .ok (.ifCond .ge 7, 3) := by decide +kernel
theorem d_M_sign_6 : decode b_M_sign 6 = .ok (.iconst (-1), 1) := by decide +kernel
theorem d_M_sign_7 : decode b_M_sign 7 = .ok (.goto 14, 3) := by decide +kernel
theorem d_M_sign_10 : decode b_M_sign 10 = .ok (.lload_n 0, 1) := by decide +kernel
theorem d_M_sign_11 : decode b_M_sign 11 = .ok (.lconst 0, 1) := by decide +kernel
theorem d_M_sign_12 : decode b_M_sign 12 = .ok (.lcmp, 1) := by decide +kernel
theorem d_M_sign_13 : decode b_M_sign 13 = .ok (.ifCond .le 7, 3) := by decide +kernel
theorem d_M_sign_16 : decode b_M_sign 16 = .ok (.iconst 1, 1) := by decide +kernel
theorem d_M_sign_17 : decode b_M_sign 17 = .ok (.goto 4, 3) := by decide +kernel
theorem d_M_sign_20 : decode b_M_sign 20 = .ok (.iconst 0, 1) := by decide +kernel
theorem d_M_sign_21 : decode b_M_sign 21 = .ok (.ireturn, 1) := by decide +kernel
theorem d_M_cross_0 : decode b_M_cross 0 = .ok (.iload_n 3, 1) := by decide +kernel
theorem d_M_cross_1 : decode b_M_cross 1 = .ok (.ifCond .ne 8, 3) := by decide +kernel
theorem d_M_cross_4 : decode b_M_cross 4 = .ok (.aload_n 0, 1) := by decide +kernel
theorem d_M_cross_5 : decode b_M_cross 5 = .ok (.iconst 1, 1) := by decide +kernel
theorem d_M_cross_6 : decode b_M_cross 6 = .ok (.putfield 52, 3) := by decide +kernel
theorem d_M_cross_9 : decode b_M_cross 9 = .ok (.iload_n 3, 1) := by decide +kernel
theorem d_M_cross_10 : decode b_M_cross 10 = .ok (.ifCond .le 37, 3) := by decide +kernel
theorem d_M_cross_13 : decode b_M_cross 13 = .ok (.aload_n 0, 1) := by decide +kernel
theorem d_M_cross_14 : decode b_M_cross 14 = .ok (.dup, 1) := by decide +kernel
theorem d_M_cross_15 : decode b_M_cross 15 = .ok (.getfield 56, 3) := by decide +kernel
theorem d_M_cross_18 : decode b_M_cross 18 = .ok (.iload_n 2, 1) := by decide +kernel
theorem d_M_cross_19 : decode b_M_cross 19 = .ok (.ifCond .eq 11, 3) := by decide +kernel
theorem d_M_cross_22 : decode b_M_cross 22 = .ok (.iload_n 1, 1) := by decide +kernel
theorem d_M_cross_23 : decode b_M_cross 23 = .ok (.ifCond .ne 7, 3) := by decide +kernel
theorem d_M_cross_26 : decode b_M_cross 26 = .ok (.iconst 1, 1) := by decide +kernel
theorem d_M_cross_27 : decode b_M_cross 27 = .ok (.goto 16, 3) := by decide +kernel
theorem d_M_cross_30 : decode b_M_cross 30 = .ok (.iload_n 1, 1) := by decide +kernel
theorem d_M_cross_31 : decode b_M_cross 31 = .ok (.ifCond .eq 11, 3) := by decide +kernel
theorem d_M_cross_34 : decode b_M_cross 34 = .ok (.iload_n 2, 1) := by decide +kernel
theorem d_M_cross_35 : decode b_M_cross 35 = .ok (.ifCond .ne 7, 3) := by decide +kernel
theorem d_M_cross_38 : decode b_M_cross 38 = .ok (.iconst (-1), 1) := by decide +kernel
theorem d_M_cross_39 : decode b_M_cross 39 = .ok (.goto 4, 3) := by decide +kernel
theorem d_M_cross_42 : decode b_M_cross 42 = .ok (.iconst 0, 1) := by decide +kernel
theorem d_M_cross_43 : decode b_M_cross 43 = .ok (.iadd, 1) := by decide +kernel
theorem d_M_cross_44 : decode b_M_cross 44 = .ok (.putfield 56, 3) := by decide +kernel
theorem d_M_cross_47 : decode b_M_cross 47 = .ok (.return_, 1) := by decide +kernel
theorem d_M_zero_0 : decode b_M_zero 0 = .ok (.lload_n 0, 1) := by decide +kernel
theorem d_M_zero_1 : decode b_M_zero 1 = .ok (.lconst 0, 1) := by decide +kernel
theorem d_M_zero_2 : decode b_M_zero 2 = .ok (.lcmp, 1) := by decide +kernel
theorem d_M_zero_3 : decode b_M_zero 3 = .ok (.ifCond .eq 36, 3) := by decide +kernel
theorem d_M_zero_6 : decode b_M_zero 6 = .ok (.lload 4, 2) := by decide +kernel
theorem d_M_zero_8 : decode b_M_zero 8 = .ok (.lconst 0, 1) := by decide +kernel
theorem d_M_zero_9 : decode b_M_zero 9 = .ok (.lcmp, 1) := by decide +kernel
theorem d_M_zero_10 : decode b_M_zero 10 = .ok (.ifCond .eq 29, 3) := by decide +kernel
theorem d_M_zero_13 : decode b_M_zero 13 = .ok (.lload_n 0, 1) := by decide +kernel
theorem d_M_zero_14 : decode b_M_zero 14 = .ok (.lconst 0, 1) := by decide +kernel
theorem d_M_zero_15 : decode b_M_zero 15 = .ok (.lcmp, 1) := by decide +kernel
theorem d_M_zero_16 : decode b_M_zero 16 = .ok (.ifCond .le 7, 3) := by decide +kernel
theorem d_M_zero_19 : decode b_M_zero 19 = .ok (.iconst 1, 1) := by decide +kernel
theorem d_M_zero_20 : decode b_M_zero 20 = .ok (.goto 4, 3) := by decide +kernel
theorem d_M_zero_23 : decode b_M_zero 23 = .ok (.iconst 0, 1) := by decide +kernel
theorem d_M_zero_24 : decode b_M_zero 24 = .ok (.lload 4, 2) := by decide +kernel
theorem d_M_zero_26 : decode b_M_zero 26 = .ok (.lconst 0, 1) := by decide +kernel
theorem d_M_zero_27 : decode b_M_zero 27 = .ok (.lcmp, 1) := by decide +kernel
theorem d_M_zero_28 : decode b_M_zero 28 = .ok (.ifCond .le 7, 3) := by decide +kernel
theorem d_M_zero_31 : decode b_M_zero 31 = .ok (.iconst 1, 1) := by decide +kernel
theorem d_M_zero_32 : decode b_M_zero 32 = .ok (.goto 4, 3) := by decide +kernel
theorem d_M_zero_35 : decode b_M_zero 35 = .ok (.iconst 0, 1) := by decide +kernel
theorem d_M_zero_36 : decode b_M_zero 36 = .ok (.if_icmp .eq 5, 3) := by decide +kernel
theorem d_M_zero_39 : decode b_M_zero 39 = .ok (.iconst 1, 1) := by decide +kernel
theorem d_M_zero_40 : decode b_M_zero 40 = .ok (.ireturn, 1) := by decide +kernel
theorem d_M_zero_41 : decode b_M_zero 41 = .ok (.lload_n 0, 1) := by decide +kernel
theorem d_M_zero_42 : decode b_M_zero 42 = .ok (.lconst 0, 1) := by decide +kernel
theorem d_M_zero_43 : decode b_M_zero 43 = .ok (.lcmp, 1) := by decide +kernel
theorem d_M_zero_44 : decode b_M_zero 44 = .ok (.ifCond .le 12, 3) := by decide +kernel
theorem d_M_zero_47 : decode b_M_zero 47 = .ok (.lload_n 2, 1) := by decide +kernel
theorem d_M_zero_48 : decode b_M_zero 48 = .ok (.lconst 0, 1) := by decide +kernel
theorem d_M_zero_49 : decode b_M_zero 49 = .ok (.lcmp, 1) := by decide +kernel
theorem d_M_zero_50 : decode b_M_zero 50 = .ok (.ifCond .ge 27, 3) := by decide +kernel
theorem d_M_zero_53 : decode b_M_zero 53 = .ok (.goto 9, 3) := by decide +kernel
theorem d_M_zero_56 : decode b_M_zero 56 = .ok (.lload_n 2, 1) := by decide +kernel
theorem d_M_zero_57 : decode b_M_zero 57 = .ok (.lconst 0, 1) := by decide +kernel
theorem d_M_zero_58 : decode b_M_zero 58 = .ok (.lcmp, 1) := by decide +kernel
theorem d_M_zero_59 : decode b_M_zero 59 = .ok (.ifCond .le 18, 3) := by decide +kernel
theorem d_M_zero_62 : decode b_M_zero 62 = .ok (.lload_n 2, 1) := by decide +kernel
theorem d_M_zero_63 : decode b_M_zero 63 = .ok (.lload_n 2, 1) := by decide +kernel
theorem d_M_zero_64 : decode b_M_zero 64 = .ok (.lmul, 1) := by decide +kernel
theorem d_M_zero_65 : decode b_M_zero 65 = .ok (.lload_n 0, 1) := by decide +kernel
theorem d_M_zero_66 : decode b_M_zero 66 = .ok (.lload 4, 2) := by decide +kernel
theorem d_M_zero_68 : decode b_M_zero 68 = .ok (.lmul, 1) := by decide +kernel
theorem d_M_zero_69 : decode b_M_zero 69 = .ok (.lcmp, 1) := by decide +kernel
theorem d_M_zero_70 : decode b_M_zero 70 = .ok (.ifCond .lt 7, 3) := by decide +kernel
theorem d_M_zero_73 : decode b_M_zero 73 = .ok (.iconst 1, 1) := by decide +kernel
theorem d_M_zero_74 : decode b_M_zero 74 = .ok (.goto 4, 3) := by decide +kernel
theorem d_M_zero_77 : decode b_M_zero 77 = .ok (.iconst 0, 1) := by decide +kernel
theorem d_M_zero_78 : decode b_M_zero 78 = .ok (.ireturn, 1) := by decide +kernel
theorem d_M_through_0 : decode b_M_through 0 = .ok (.aload_n 0, 1) := by decide +kernel
theorem d_M_through_1 : decode b_M_through 1 = .ok (.getfield 24, 3) := by decide +kernel
theorem d_M_through_4 : decode b_M_through 4 = .ok (.lload_n 3, 1) := by decide +kernel
theorem d_M_through_5 : decode b_M_through 5 = .ok (.lload_n 3, 1) := by decide +kernel
theorem d_M_through_6 : decode b_M_through 6 = .ok (.lconst 1, 1) := by decide +kernel
theorem d_M_through_7 : decode b_M_through 7 = .ok (.invokestatic 34, 3) := by decide +kernel
theorem d_M_through_10 : decode b_M_through 10 = .ok (.aload_n 0, 1) := by decide +kernel
theorem d_M_through_11 : decode b_M_through 11 = .ok (.getfield 27, 3) := by decide +kernel
theorem d_M_through_14 : decode b_M_through 14 = .ok (.lload_n 1, 1) := by decide +kernel
theorem d_M_through_15 : decode b_M_through 15 = .ok (.lload 5, 2) := by decide +kernel
theorem d_M_through_17 : decode b_M_through 17 = .ok (.ldc2_w 74, 3) := by decide +kernel
theorem d_M_through_20 : decode b_M_through 20 = .ok (.invokestatic 34, 3) := by decide +kernel
theorem d_M_through_23 : decode b_M_through 23 = .ok (.iconst 0, 1) := by decide +kernel
theorem d_M_through_24 : decode b_M_through 24 = .ok (.istore 7, 2) := by decide +kernel
theorem d_M_through_26 : decode b_M_through 26 = .ok (.iload 7, 2) := by decide +kernel
theorem d_M_through_28 : decode b_M_through 28 = .ok (.bipush 6, 2) := by decide +kernel
theorem d_M_through_30 : decode b_M_through 30 = .ok (.if_icmp .ge 29, 3) := by decide +kernel
theorem d_M_through_33 : decode b_M_through 33 = .ok (.aload_n 0, 1) := by decide +kernel
theorem d_M_through_34 : decode b_M_through 34 = .ok (.getfield 24, 3) := by decide +kernel
theorem d_M_through_37 : decode b_M_through 37 = .ok (.iload 7, 2) := by decide +kernel
theorem d_M_through_39 : decode b_M_through 39 = .ok (.laload, 1) := by decide +kernel
theorem d_M_through_40 : decode b_M_through 40 = .ok (.aload_n 0, 1) := by decide +kernel
theorem d_M_through_41 : decode b_M_through 41 = .ok (.getfield 27, 3) := by decide +kernel
theorem d_M_through_44 : decode b_M_through 44 = .ok (.iload 7, 2) := by decide +kernel
theorem d_M_through_46 : decode b_M_through 46 = .ok (.laload, 1) := by decide +kernel
theorem d_M_through_47 : decode b_M_through 47 = .ok (.lcmp, 1) := by decide +kernel
theorem d_M_through_48 : decode b_M_through 48 = .ok (.ifCond .eq 5, 3) := by decide +kernel
theorem d_M_through_51 : decode b_M_through 51 = .ok (.iconst 0, 1) := by decide +kernel
theorem d_M_through_52 : decode b_M_through 52 = .ok (.ireturn, 1) := by decide +kernel
theorem d_M_through_53 : decode b_M_through 53 = .ok (.iinc 7 1, 3) := by decide +kernel
theorem d_M_through_56 : decode b_M_through 56 = .ok (.goto (-30), 3) := by decide +kernel
theorem d_M_through_59 : decode b_M_through 59 = .ok (.iconst 1, 1) := by decide +kernel
theorem d_M_through_60 : decode b_M_through 60 = .ok (.ireturn, 1) := by decide +kernel
theorem d_M_product_0 : decode b_M_product 0 = .ok (.iconst 0, 1) := by decide +kernel
theorem d_M_product_1 : decode b_M_product 1 = .ok (.istore 7, 2) := by decide +kernel
theorem d_M_product_3 : decode b_M_product 3 = .ok (.iload 7, 2) := by decide +kernel
theorem d_M_product_5 : decode b_M_product 5 = .ok (.bipush 6, 2) := by decide +kernel
theorem d_M_product_7 : decode b_M_product 7 = .ok (.if_icmp .ge 23, 3) := by decide +kernel
theorem d_M_product_10 : decode b_M_product 10 = .ok (.aload_n 0, 1) := by decide +kernel
theorem d_M_product_11 : decode b_M_product 11 = .ok (.iload 7, 2) := by decide +kernel
theorem d_M_product_13 : decode b_M_product 13 = .ok (.iload 7, 2) := by decide +kernel
theorem d_M_product_15 : decode b_M_product 15 = .ok (.ifCond .ne 7, 3) := by decide +kernel
theorem d_M_product_18 : decode b_M_product 18 = .ok (.lconst 1, 1) := by decide +kernel
theorem d_M_product_19 : decode b_M_product 19 = .ok (.goto 4, 3) := by decide +kernel
theorem d_M_product_22 : decode b_M_product 22 = .ok (.lconst 0, 1) := by decide +kernel
theorem d_M_product_23 : decode b_M_product 23 = .ok (.lastore, 1) := by decide +kernel
theorem d_M_product_24 : decode b_M_product 24 = .ok (.iinc 7 1, 3) := by decide +kernel
theorem d_M_product_27 : decode b_M_product 27 = .ok (.goto (-24), 3) := by decide +kernel
theorem d_M_product_30 : decode b_M_product 30 = .ok (.aload_n 0, 1) := by decide +kernel
theorem d_M_product_31 : decode b_M_product 31 = .ok (.lload_n 1, 1) := by decide +kernel
theorem d_M_product_32 : decode b_M_product 32 = .ok (.invokestatic 38, 3) := by decide +kernel
theorem d_M_product_35 : decode b_M_product 35 = .ok (.aload_n 0, 1) := by decide +kernel
theorem d_M_product_36 : decode b_M_product 36 = .ok (.lload_n 3, 1) := by decide +kernel
theorem d_M_product_37 : decode b_M_product 37 = .ok (.invokestatic 38, 3) := by decide +kernel
theorem d_M_product_40 : decode b_M_product 40 = .ok (.aload_n 0, 1) := by decide +kernel
theorem d_M_product_41 : decode b_M_product 41 = .ok (.lload 5, 2) := by decide +kernel
theorem d_M_product_43 : decode b_M_product 43 = .ok (.invokestatic 38, 3) := by decide +kernel
theorem d_M_product_46 : decode b_M_product 46 = .ok (.return_, 1) := by decide +kernel
theorem d_M_times_0 : decode b_M_times 0 = .ok (.lload_n 1, 1) := by decide +kernel
theorem d_M_times_1 : decode b_M_times 1 = .ok (.ldc2_w 42, 3) := by decide +kernel
theorem d_M_times_4 : decode b_M_times 4 = .ok (.land, 1) := by decide +kernel
theorem d_M_times_5 : decode b_M_times 5 = .ok (.lstore_n 3, 1) := by decide +kernel
theorem d_M_times_6 : decode b_M_times 6 = .ok (.lload_n 1, 1) := by decide +kernel
theorem d_M_times_7 : decode b_M_times 7 = .ok (.bipush 32, 2) := by decide +kernel
theorem d_M_times_9 : decode b_M_times 9 = .ok (.lushr, 1) := by decide +kernel
theorem d_M_times_10 : decode b_M_times 10 = .ok (.lstore 5, 2) := by decide +kernel
theorem d_M_times_12 : decode b_M_times 12 = .ok (.lconst 0, 1) := by decide +kernel
theorem d_M_times_13 : decode b_M_times 13 = .ok (.lstore 7, 2) := by decide +kernel
theorem d_M_times_15 : decode b_M_times 15 = .ok (.lconst 0, 1) := by decide +kernel
theorem d_M_times_16 : decode b_M_times 16 = .ok (.lstore 9, 2) := by decide +kernel
theorem d_M_times_18 : decode b_M_times 18 = .ok (.iconst 0, 1) := by decide +kernel
theorem d_M_times_19 : decode b_M_times 19 = .ok (.istore 11, 2) := by decide +kernel
theorem d_M_times_21 : decode b_M_times 21 = .ok (.iload 11, 2) := by decide +kernel
theorem d_M_times_23 : decode b_M_times 23 = .ok (.bipush 6, 2) := by decide +kernel
theorem d_M_times_25 : decode b_M_times 25 = .ok (.if_icmp .ge 91, 3) := by decide +kernel
theorem d_M_times_28 : decode b_M_times 28 = .ok (.aload_n 0, 1) := by decide +kernel
theorem d_M_times_29 : decode b_M_times 29 = .ok (.iload 11, 2) := by decide +kernel
theorem d_M_times_31 : decode b_M_times 31 = .ok (.laload, 1) := by decide +kernel
theorem d_M_times_32 : decode b_M_times 32 = .ok (.lload_n 3, 1) := by decide +kernel
theorem d_M_times_33 : decode b_M_times 33 = .ok (.lmul, 1) := by decide +kernel
theorem d_M_times_34 : decode b_M_times 34 = .ok (.lstore 12, 2) := by decide +kernel
theorem d_M_times_36 : decode b_M_times 36 = .ok (.lload 9, 2) := by decide +kernel
theorem d_M_times_38 : decode b_M_times 38 = .ok (.lload 5, 2) := by decide +kernel
theorem d_M_times_40 : decode b_M_times 40 = .ok (.lmul, 1) := by decide +kernel
theorem d_M_times_41 : decode b_M_times 41 = .ok (.lstore 14, 2) := by decide +kernel
theorem d_M_times_43 : decode b_M_times 43 = .ok (.lload 12, 2) := by decide +kernel
theorem d_M_times_45 : decode b_M_times 45 = .ok (.ldc2_w 42, 3) := by decide +kernel
theorem d_M_times_48 : decode b_M_times 48 = .ok (.land, 1) := by decide +kernel
theorem d_M_times_49 : decode b_M_times 49 = .ok (.lload 14, 2) := by decide +kernel
theorem d_M_times_51 : decode b_M_times 51 = .ok (.ldc2_w 42, 3) := by decide +kernel
theorem d_M_times_54 : decode b_M_times 54 = .ok (.land, 1) := by decide +kernel
theorem d_M_times_55 : decode b_M_times 55 = .ok (.ladd, 1) := by decide +kernel
theorem d_M_times_56 : decode b_M_times 56 = .ok (.lload 7, 2) := by decide +kernel
theorem d_M_times_58 : decode b_M_times 58 = .ok (.ldc2_w 42, 3) := by decide +kernel
theorem d_M_times_61 : decode b_M_times 61 = .ok (.land, 1) := by decide +kernel
theorem d_M_times_62 : decode b_M_times 62 = .ok (.ladd, 1) := by decide +kernel
theorem d_M_times_63 : decode b_M_times 63 = .ok (.lstore 16, 2) := by decide +kernel
theorem d_M_times_65 : decode b_M_times 65 = .ok (.lload 12, 2) := by decide +kernel
theorem d_M_times_67 : decode b_M_times 67 = .ok (.bipush 32, 2) := by decide +kernel
theorem d_M_times_69 : decode b_M_times 69 = .ok (.lushr, 1) := by decide +kernel
theorem d_M_times_70 : decode b_M_times 70 = .ok (.lload 14, 2) := by decide +kernel
theorem d_M_times_72 : decode b_M_times 72 = .ok (.bipush 32, 2) := by decide +kernel
theorem d_M_times_74 : decode b_M_times 74 = .ok (.lushr, 1) := by decide +kernel
theorem d_M_times_75 : decode b_M_times 75 = .ok (.ladd, 1) := by decide +kernel
theorem d_M_times_76 : decode b_M_times 76 = .ok (.lload 7, 2) := by decide +kernel
theorem d_M_times_78 : decode b_M_times 78 = .ok (.bipush 32, 2) := by decide +kernel
theorem d_M_times_80 : decode b_M_times 80 = .ok (.lushr, 1) := by decide +kernel
theorem d_M_times_81 : decode b_M_times 81 = .ok (.ladd, 1) := by decide +kernel
theorem d_M_times_82 : decode b_M_times 82 = .ok (.lload 16, 2) := by decide +kernel
theorem d_M_times_84 : decode b_M_times 84 = .ok (.bipush 32, 2) := by decide +kernel
theorem d_M_times_86 : decode b_M_times 86 = .ok (.lushr, 1) := by decide +kernel
theorem d_M_times_87 : decode b_M_times 87 = .ok (.ladd, 1) := by decide +kernel
theorem d_M_times_88 : decode b_M_times 88 = .ok (.lstore 18, 2) := by decide +kernel
theorem d_M_times_90 : decode b_M_times 90 = .ok (.aload_n 0, 1) := by decide +kernel
theorem d_M_times_91 : decode b_M_times 91 = .ok (.iload 11, 2) := by decide +kernel
theorem d_M_times_93 : decode b_M_times 93 = .ok (.laload, 1) := by decide +kernel
theorem d_M_times_94 : decode b_M_times 94 = .ok (.lstore 9, 2) := by decide +kernel
theorem d_M_times_96 : decode b_M_times 96 = .ok (.aload_n 0, 1) := by decide +kernel
theorem d_M_times_97 : decode b_M_times 97 = .ok (.iload 11, 2) := by decide +kernel
theorem d_M_times_99 : decode b_M_times 99 = .ok (.lload 16, 2) := by decide +kernel
theorem d_M_times_101 : decode b_M_times 101 = .ok (.ldc2_w 42, 3) := by decide +kernel
theorem d_M_times_104 : decode b_M_times 104 = .ok (.land, 1) := by decide +kernel
theorem d_M_times_105 : decode b_M_times 105 = .ok (.lastore, 1) := by decide +kernel
theorem d_M_times_106 : decode b_M_times 106 = .ok (.lload 18, 2) := by decide +kernel
theorem d_M_times_108 : decode b_M_times 108 = .ok (.lstore 7, 2) := by decide +kernel
theorem d_M_times_110 : decode b_M_times 110 = .ok (.iinc 11 1, 3) := by decide +kernel
theorem d_M_times_113 : decode b_M_times 113 = .ok (.goto (-92), 3) := by decide +kernel
theorem d_M_times_116 : decode b_M_times 116 = .ok (.return_, 1) := by decide +kernel
theorem d_M_signOf_0 : decode b_M_signOf 0 = .ok (.lload_n 1, 1) := by decide +kernel
theorem d_M_signOf_1 : decode b_M_signOf 1 = .ok (.invokestatic 44, 3) := by decide +kernel
theorem d_M_signOf_4 : decode b_M_signOf 4 = .ok (.istore 7, 2) := by decide +kernel
theorem d_M_signOf_6 : decode b_M_signOf 6 = .ok (.lload 5, 2) := by decide +kernel
theorem d_M_signOf_8 : decode b_M_signOf 8 = .ok (.lconst 0, 1) := by decide +kernel
theorem d_M_signOf_9 : decode b_M_signOf 9 = .ok (.lcmp, 1) := by decide +kernel
theorem d_M_signOf_10 : decode b_M_signOf 10 = .ok (.ifCond .ne 7, 3) := by decide +kernel
theorem d_M_signOf_13 : decode b_M_signOf 13 = .ok (.iconst 0, 1) := by decide +kernel
theorem d_M_signOf_14 : decode b_M_signOf 14 = .ok (.goto 7, 3) := by decide +kernel
theorem d_M_signOf_17 : decode b_M_signOf 17 = .ok (.lload_n 3, 1) := by decide +kernel
theorem d_M_signOf_18 : decode b_M_signOf 18 = .ok (.invokestatic 44, 3) := by decide +kernel
theorem d_M_signOf_21 : decode b_M_signOf 21 = .ok (.istore 8, 2) := by decide +kernel
theorem d_M_signOf_23 : decode b_M_signOf 23 = .ok (.iload 7, 2) := by decide +kernel
theorem d_M_signOf_25 : decode b_M_signOf 25 = .ok (.iload 8, 2) := by decide +kernel
theorem d_M_signOf_27 : decode b_M_signOf 27 = .ok (.if_icmp .eq 8, 3) := by decide +kernel
theorem d_M_signOf_30 : decode b_M_signOf 30 = .ok (.iload 8, 2) := by decide +kernel
theorem d_M_signOf_32 : decode b_M_signOf 32 = .ok (.ifCond .ne 6, 3) := by decide +kernel
theorem d_M_signOf_35 : decode b_M_signOf 35 = .ok (.iload 7, 2) := by decide +kernel
theorem d_M_signOf_37 : decode b_M_signOf 37 = .ok (.ireturn, 1) := by decide +kernel
theorem d_M_signOf_38 : decode b_M_signOf 38 = .ok (.iload 7, 2) := by decide +kernel
theorem d_M_signOf_40 : decode b_M_signOf 40 = .ok (.ifCond .ne 6, 3) := by decide +kernel
theorem d_M_signOf_43 : decode b_M_signOf 43 = .ok (.iload 8, 2) := by decide +kernel
theorem d_M_signOf_45 : decode b_M_signOf 45 = .ok (.ireturn, 1) := by decide +kernel
theorem d_M_signOf_46 : decode b_M_signOf 46 = .ok (.aload_n 0, 1) := by decide +kernel
theorem d_M_signOf_47 : decode b_M_signOf 47 = .ok (.lload_n 1, 1) := by decide +kernel
theorem d_M_signOf_48 : decode b_M_signOf 48 = .ok (.lconst 0, 1) := by decide +kernel
theorem d_M_signOf_49 : decode b_M_signOf 49 = .ok (.lcmp, 1) := by decide +kernel
theorem d_M_signOf_50 : decode b_M_signOf 50 = .ok (.ifCond .ge 8, 3) := by decide +kernel
theorem d_M_signOf_53 : decode b_M_signOf 53 = .ok (.lload_n 1, 1) := by decide +kernel
theorem d_M_signOf_54 : decode b_M_signOf 54 = .ok (.lneg, 1) := by decide +kernel
theorem d_M_signOf_55 : decode b_M_signOf 55 = .ok (.goto 4, 3) := by decide +kernel
theorem d_M_signOf_58 : decode b_M_signOf 58 = .ok (.lload_n 1, 1) := by decide +kernel
theorem d_M_signOf_59 : decode b_M_signOf 59 = .ok (.lload_n 3, 1) := by decide +kernel
theorem d_M_signOf_60 : decode b_M_signOf 60 = .ok (.lconst 0, 1) := by decide +kernel
theorem d_M_signOf_61 : decode b_M_signOf 61 = .ok (.lcmp, 1) := by decide +kernel
theorem d_M_signOf_62 : decode b_M_signOf 62 = .ok (.ifCond .ge 8, 3) := by decide +kernel
theorem d_M_signOf_65 : decode b_M_signOf 65 = .ok (.lload_n 3, 1) := by decide +kernel
theorem d_M_signOf_66 : decode b_M_signOf 66 = .ok (.lneg, 1) := by decide +kernel
theorem d_M_signOf_67 : decode b_M_signOf 67 = .ok (.goto 4, 3) := by decide +kernel
theorem d_M_signOf_70 : decode b_M_signOf 70 = .ok (.lload_n 3, 1) := by decide +kernel
theorem d_M_signOf_71 : decode b_M_signOf 71 = .ok (.lload 5, 2) := by decide +kernel
theorem d_M_signOf_73 : decode b_M_signOf 73 = .ok (.invokevirtual 48, 3) := by decide +kernel
theorem d_M_signOf_76 : decode b_M_signOf 76 = .ok (.istore 9, 2) := by decide +kernel
theorem d_M_signOf_78 : decode b_M_signOf 78 = .ok (.iload 9, 2) := by decide +kernel
theorem d_M_signOf_80 : decode b_M_signOf 80 = .ok (.ifCond .ne 7, 3) := by decide +kernel
theorem d_M_signOf_83 : decode b_M_signOf 83 = .ok (.iconst 0, 1) := by decide +kernel
theorem d_M_signOf_84 : decode b_M_signOf 84 = .ok (.goto 15, 3) := by decide +kernel
theorem d_M_signOf_87 : decode b_M_signOf 87 = .ok (.iload 9, 2) := by decide +kernel
theorem d_M_signOf_89 : decode b_M_signOf 89 = .ok (.ifCond .le 8, 3) := by decide +kernel
theorem d_M_signOf_92 : decode b_M_signOf 92 = .ok (.iload 7, 2) := by decide +kernel
theorem d_M_signOf_94 : decode b_M_signOf 94 = .ok (.goto 5, 3) := by decide +kernel
theorem d_M_signOf_97 : decode b_M_signOf 97 = .ok (.iload 8, 2) := by decide +kernel
theorem d_M_signOf_99 : decode b_M_signOf 99 = .ok (.ireturn, 1) := by decide +kernel
theorem d_M_compare_0 : decode b_M_compare 0 = .ok (.aload_n 0, 1) := by decide +kernel
theorem d_M_compare_1 : decode b_M_compare 1 = .ok (.getfield 24, 3) := by decide +kernel
theorem d_M_compare_4 : decode b_M_compare 4 = .ok (.lload_n 1, 1) := by decide +kernel
theorem d_M_compare_5 : decode b_M_compare 5 = .ok (.lload_n 1, 1) := by decide +kernel
theorem d_M_compare_6 : decode b_M_compare 6 = .ok (.lconst 1, 1) := by decide +kernel
theorem d_M_compare_7 : decode b_M_compare 7 = .ok (.invokestatic 34, 3) := by decide +kernel
theorem d_M_compare_10 : decode b_M_compare 10 = .ok (.aload_n 0, 1) := by decide +kernel
theorem d_M_compare_11 : decode b_M_compare 11 = .ok (.getfield 27, 3) := by decide +kernel
theorem d_M_compare_14 : decode b_M_compare 14 = .ok (.lload_n 3, 1) := by decide +kernel
theorem d_M_compare_15 : decode b_M_compare 15 = .ok (.lload_n 3, 1) := by decide +kernel
theorem d_M_compare_16 : decode b_M_compare 16 = .ok (.lload 5, 2) := by decide +kernel
theorem d_M_compare_18 : decode b_M_compare 18 = .ok (.invokestatic 34, 3) := by decide +kernel
theorem d_M_compare_21 : decode b_M_compare 21 = .ok (.iconst 5, 1) := by decide +kernel
theorem d_M_compare_22 : decode b_M_compare 22 = .ok (.istore 7, 2) := by decide +kernel
theorem d_M_compare_24 : decode b_M_compare 24 = .ok (.iload 7, 2) := by decide +kernel
theorem d_M_compare_26 : decode b_M_compare 26 = .ok (.ifCond .lt 51, 3) := by decide +kernel
theorem d_M_compare_29 : decode b_M_compare 29 = .ok (.aload_n 0, 1) := by decide +kernel
theorem d_M_compare_30 : decode b_M_compare 30 = .ok (.getfield 24, 3) := by decide +kernel
theorem d_M_compare_33 : decode b_M_compare 33 = .ok (.iload 7, 2) := by decide +kernel
theorem d_M_compare_35 : decode b_M_compare 35 = .ok (.laload, 1) := by decide +kernel
theorem d_M_compare_36 : decode b_M_compare 36 = .ok (.aload_n 0, 1) := by decide +kernel
theorem d_M_compare_37 : decode b_M_compare 37 = .ok (.getfield 27, 3) := by decide +kernel
theorem d_M_compare_40 : decode b_M_compare 40 = .ok (.iload 7, 2) := by decide +kernel
theorem d_M_compare_42 : decode b_M_compare 42 = .ok (.laload, 1) := by decide +kernel
theorem d_M_compare_43 : decode b_M_compare 43 = .ok (.lcmp, 1) := by decide +kernel
theorem d_M_compare_44 : decode b_M_compare 44 = .ok (.ifCond .eq 27, 3) := by decide +kernel
theorem d_M_compare_47 : decode b_M_compare 47 = .ok (.aload_n 0, 1) := by decide +kernel
theorem d_M_compare_48 : decode b_M_compare 48 = .ok (.getfield 24, 3) := by decide +kernel
theorem d_M_compare_51 : decode b_M_compare 51 = .ok (.iload 7, 2) := by decide +kernel
theorem d_M_compare_53 : decode b_M_compare 53 = .ok (.laload, 1) := by decide +kernel
theorem d_M_compare_54 : decode b_M_compare 54 = .ok (.aload_n 0, 1) := by decide +kernel
theorem d_M_compare_55 : decode b_M_compare 55 = .ok (.getfield 27, 3) := by decide +kernel
theorem d_M_compare_58 : decode b_M_compare 58 = .ok (.iload 7, 2) := by decide +kernel
theorem d_M_compare_60 : decode b_M_compare 60 = .ok (.laload, 1) := by decide +kernel
theorem d_M_compare_61 : decode b_M_compare 61 = .ok (.lcmp, 1) := by decide +kernel
theorem d_M_compare_62 : decode b_M_compare 62 = .ok (.ifCond .ge 7, 3) := by decide +kernel
theorem d_M_compare_65 : decode b_M_compare 65 = .ok (.iconst (-1), 1) := by decide +kernel
theorem d_M_compare_66 : decode b_M_compare 66 = .ok (.goto 4, 3) := by decide +kernel
theorem d_M_compare_69 : decode b_M_compare 69 = .ok (.iconst 1, 1) := by decide +kernel
theorem d_M_compare_70 : decode b_M_compare 70 = .ok (.ireturn, 1) := by decide +kernel
theorem d_M_compare_71 : decode b_M_compare 71 = .ok (.iinc 7 (-1), 3) := by decide +kernel
theorem d_M_compare_74 : decode b_M_compare 74 = .ok (.goto (-50), 3) := by decide +kernel
theorem d_M_compare_77 : decode b_M_compare 77 = .ok (.iconst 0, 1) := by decide +kernel
theorem d_M_compare_78 : decode b_M_compare 78 = .ok (.ireturn, 1) := by decide +kernel
theorem d_M_row_0 : decode b_M_row 0 = .ok (.iload_n 1, 1) := by decide +kernel
theorem d_M_row_1 : decode b_M_row 1 = .ok (.sipush (-300), 3) := by decide +kernel
theorem d_M_row_4 : decode b_M_row 4 = .ok (.if_icmp .lt 10, 3) := by decide +kernel
theorem d_M_row_7 : decode b_M_row 7 = .ok (.iload_n 1, 1) := by decide +kernel
theorem d_M_row_8 : decode b_M_row 8 = .ok (.sipush 300, 3) := by decide +kernel
theorem d_M_row_11 : decode b_M_row 11 = .ok (.if_icmp .le 5, 3) := by decide +kernel
theorem d_M_row_14 : decode b_M_row 14 = .ok (.lconst 0, 1) := by decide +kernel
theorem d_M_row_15 : decode b_M_row 15 = .ok (.lreturn, 1) := by decide +kernel
theorem d_M_row_16 : decode b_M_row 16 = .ok (.lconst 0, 1) := by decide +kernel
theorem d_M_row_17 : decode b_M_row 17 = .ok (.lstore_n 2, 1) := by decide +kernel
theorem d_M_row_18 : decode b_M_row 18 = .ok (.iconst 0, 1) := by decide +kernel
theorem d_M_row_19 : decode b_M_row 19 = .ok (.istore 4, 2) := by decide +kernel
theorem d_M_row_21 : decode b_M_row 21 = .ok (.iload 4, 2) := by decide +kernel
theorem d_M_row_23 : decode b_M_row 23 = .ok (.aload_n 0, 1) := by decide +kernel
theorem d_M_row_24 : decode b_M_row 24 = .ok (.getfield 30, 3) := by decide +kernel
theorem d_M_row_27 : decode b_M_row 27 = .ok (.if_icmp .ge 55, 3) := by decide +kernel
theorem d_M_row_30 : decode b_M_row 30 = .ok (.aload_n 0, 1) := by decide +kernel
theorem d_M_row_31 : decode b_M_row 31 = .ok (.ldc2_w 111, 3) := by decide +kernel
theorem d_M_row_34 : decode b_M_row 34 = .ok (.iload 4, 2) := by decide +kernel
theorem d_M_row_36 : decode b_M_row 36 = .ok (.i2l, 1) := by decide +kernel
theorem d_M_row_37 : decode b_M_row 37 = .ok (.lmul, 1) := by decide +kernel
theorem d_M_row_38 : decode b_M_row 38 = .ok (.ldc2_w 113, 3) := by decide +kernel
theorem d_M_row_41 : decode b_M_row 41 = .ok (.ladd, 1) := by decide +kernel
theorem d_M_row_42 : decode b_M_row 42 = .ok (.ldc2_w 111, 3) := by decide +kernel
theorem d_M_row_45 : decode b_M_row 45 = .ok (.iload_n 1, 1) := by decide +kernel
theorem d_M_row_46 : decode b_M_row 46 = .ok (.i2l, 1) := by decide +kernel
theorem d_M_row_47 : decode b_M_row 47 = .ok (.lmul, 1) := by decide +kernel
theorem d_M_row_48 : decode b_M_row 48 = .ok (.ldc2_w 113, 3) := by decide +kernel
theorem d_M_row_51 : decode b_M_row 51 = .ok (.ladd, 1) := by decide +kernel
theorem d_M_row_52 : decode b_M_row 52 = .ok (.invokevirtual 107, 3) := by decide +kernel
theorem d_M_row_55 : decode b_M_row 55 = .ok (.aload_n 0, 1) := by decide +kernel
theorem d_M_row_56 : decode b_M_row 56 = .ok (.getfield 52, 3) := by decide +kernel
theorem d_M_row_59 : decode b_M_row 59 = .ok (.ifCond .ne 10, 3) := by decide +kernel
theorem d_M_row_62 : decode b_M_row 62 = .ok (.aload_n 0, 1) := by decide +kernel
theorem d_M_row_63 : decode b_M_row 63 = .ok (.getfield 56, 3) := by decide +kernel
theorem d_M_row_66 : decode b_M_row 66 = .ok (.ifCond .eq 10, 3) := by decide +kernel
theorem d_M_row_69 : decode b_M_row 69 = .ok (.lload_n 2, 1) := by decide +kernel
theorem d_M_row_70 : decode b_M_row 70 = .ok (.lconst 1, 1) := by decide +kernel
theorem d_M_row_71 : decode b_M_row 71 = .ok (.iload 4, 2) := by decide +kernel
theorem d_M_row_73 : decode b_M_row 73 = .ok (.lshl, 1) := by decide +kernel
theorem d_M_row_74 : decode b_M_row 74 = .ok (.lor, 1) := by decide +kernel
theorem d_M_row_75 : decode b_M_row 75 = .ok (.lstore_n 2, 1) := by decide +kernel
theorem d_M_row_76 : decode b_M_row 76 = .ok (.iinc 4 1, 3) := by decide +kernel
theorem d_M_row_79 : decode b_M_row 79 = .ok (.goto (-58), 3) := by decide +kernel
theorem d_M_row_82 : decode b_M_row 82 = .ok (.lload_n 2, 1) := by decide +kernel
theorem d_M_row_83 : decode b_M_row 83 = .ok (.lreturn, 1) := by decide +kernel
theorem d_M_count_0 : decode b_M_count 0 = .ok (.iload_n 1, 1) := by decide +kernel
theorem d_M_count_1 : decode b_M_count 1 = .ok (.tableswitch 56 0 3 #[31, 36, 41, 46], 31) := by decide +kernel
theorem d_M_count_32 : decode b_M_count 32 = .ok (.aload_n 0, 1) := by decide +kernel
theorem d_M_count_33 : decode b_M_count 33 = .ok (.getfield 30, 3) := by decide +kernel
theorem d_M_count_36 : decode b_M_count 36 = .ok (.ireturn, 1) := by decide +kernel
theorem d_M_count_37 : decode b_M_count 37 = .ok (.aload_n 0, 1) := by decide +kernel
theorem d_M_count_38 : decode b_M_count 38 = .ok (.getfield 89, 3) := by decide +kernel
theorem d_M_count_41 : decode b_M_count 41 = .ok (.ireturn, 1) := by decide +kernel
theorem d_M_count_42 : decode b_M_count 42 = .ok (.aload_n 0, 1) := by decide +kernel
theorem d_M_count_43 : decode b_M_count 43 = .ok (.getfield 96, 3) := by decide +kernel
theorem d_M_count_46 : decode b_M_count 46 = .ok (.ireturn, 1) := by decide +kernel
theorem d_M_count_47 : decode b_M_count 47 = .ok (.aload_n 0, 1) := by decide +kernel
theorem d_M_count_48 : decode b_M_count 48 = .ok (.getfield 96, 3) := by decide +kernel
theorem d_M_count_51 : decode b_M_count 51 = .ok (.aload_n 0, 1) := by decide +kernel
theorem d_M_count_52 : decode b_M_count 52 = .ok (.invokevirtual 99, 3) := by decide +kernel
theorem d_M_count_55 : decode b_M_count 55 = .ok (.isub, 1) := by decide +kernel
theorem d_M_count_56 : decode b_M_count 56 = .ok (.ireturn, 1) := by decide +kernel
theorem d_M_count_57 : decode b_M_count 57 = .ok (.iconst (-1), 1) := by decide +kernel
theorem d_M_count_58 : decode b_M_count 58 = .ok (.ireturn, 1) := by decide +kernel
end
section
theorem d_S_init_0 : decode b_S_init 0 = .ok (.aload_n 0, 1) := by decide +kernel
theorem d_S_init_1 : decode b_S_init 1 = .ok (.invokespecial 1, 3) := by decide +kernel
theorem d_S_init_4 : decode b_S_init 4 = .ok (.aload_n 0, 1) := by decide +kernel
theorem d_S_init_5 : decode b_S_init 5 = .ok (.iconst 1, 1) := by decide +kernel
theorem d_S_init_6 : decode b_S_init 6 = .ok (.bipush 64, 2) := by decide +kernel
theorem d_S_init_8 : decode b_S_init 8 = .ok (.iload_n 1, 1) := by decide +kernel
theorem d_S_init_9 : decode b_S_init 9 = .ok (.invokestatic 9, 3) := by decide +kernel
theorem d_S_init_12 : decode b_S_init 12 = .ok (.invokestatic 15, 3) := by decide +kernel
theorem d_S_init_15 : decode b_S_init 15 = .ok (.putfield 18, 3) := by decide +kernel
theorem d_S_init_18 : decode b_S_init 18 = .ok (.aload_n 0, 1) := by decide +kernel
theorem d_S_init_19 : decode b_S_init 19 = .ok (.sipush 256, 3) := by decide +kernel
theorem d_S_init_22 : decode b_S_init 22 = .ok (.newarray .int, 2) := by decide +kernel
theorem d_S_init_24 : decode b_S_init 24 = .ok (.putfield 22, 3) := by decide +kernel
theorem d_S_init_27 : decode b_S_init 27 = .ok (.aload_n 0, 1) := by decide +kernel
theorem d_S_init_28 : decode b_S_init 28 = .ok (.sipush 256, 3) := by decide +kernel
theorem d_S_init_31 : decode b_S_init 31 = .ok (.newarray .int, 2) := by decide +kernel
theorem d_S_init_33 : decode b_S_init 33 = .ok (.putfield 26, 3) := by decide +kernel
theorem d_S_init_36 : decode b_S_init 36 = .ok (.aload_n 0, 1) := by decide +kernel
theorem d_S_init_37 : decode b_S_init 37 = .ok (.sipush 256, 3) := by decide +kernel
theorem d_S_init_40 : decode b_S_init 40 = .ok (.newarray .boolean, 2) := by decide +kernel
theorem d_S_init_42 : decode b_S_init 42 = .ok (.putfield 29, 3) := by decide +kernel
theorem d_S_init_45 : decode b_S_init 45 = .ok (.aload_n 0, 1) := by decide +kernel
theorem d_S_init_46 : decode b_S_init 46 = .ok (.bipush 64, 2) := by decide +kernel
theorem d_S_init_48 : decode b_S_init 48 = .ok (.newarray .int, 2) := by decide +kernel
theorem d_S_init_50 : decode b_S_init 50 = .ok (.putfield 33, 3) := by decide +kernel
theorem d_S_init_53 : decode b_S_init 53 = .ok (.aload_n 0, 1) := by decide +kernel
theorem d_S_init_54 : decode b_S_init 54 = .ok (.new 36, 3) := by decide +kernel
theorem d_S_init_57 : decode b_S_init 57 = .ok (.dup, 1) := by decide +kernel
theorem d_S_init_58 : decode b_S_init 58 = .ok (.invokespecial 38, 3) := by decide +kernel
theorem d_S_init_61 : decode b_S_init 61 = .ok (.putfield 39, 3) := by decide +kernel
theorem d_S_init_64 : decode b_S_init 64 = .ok (.return_, 1) := by decide +kernel
theorem d_S_point_0 : decode b_S_point 0 = .ok (.iload_n 1, 1) := by decide +kernel
theorem d_S_point_1 : decode b_S_point 1 = .ok (.invokestatic 43, 3) := by decide +kernel
theorem d_S_point_4 : decode b_S_point 4 = .ok (.ifCond .eq 10, 3) := by decide +kernel
theorem d_S_point_7 : decode b_S_point 7 = .ok (.iload_n 2, 1) := by decide +kernel
theorem d_S_point_8 : decode b_S_point 8 = .ok (.invokestatic 43, 3) := by decide +kernel
theorem d_S_point_11 : decode b_S_point 11 = .ok (.ifCond .ne 5, 3) := by decide +kernel
theorem d_S_point_14 : decode b_S_point 14 = .ok (.iconst (-1), 1) := by decide +kernel
theorem d_S_point_15 : decode b_S_point 15 = .ok (.ireturn, 1) := by decide +kernel
theorem d_S_point_16 : decode b_S_point 16 = .ok (.aload_n 0, 1) := by decide +kernel
theorem d_S_point_17 : decode b_S_point 17 = .ok (.getfield 47, 3) := by decide +kernel
theorem d_S_point_20 : decode b_S_point 20 = .ok (.aload_n 0, 1) := by decide +kernel
theorem d_S_point_21 : decode b_S_point 21 = .ok (.getfield 50, 3) := by decide +kernel
theorem d_S_point_24 : decode b_S_point 24 = .ok (.iadd, 1) := by decide +kernel
theorem d_S_point_25 : decode b_S_point 25 = .ok (.sipush 256, 3) := by decide +kernel
theorem d_S_point_28 : decode b_S_point 28 = .ok (.if_icmp .lt 6, 3) := by decide +kernel
theorem d_S_point_31 : decode b_S_point 31 = .ok (.bipush (-3), 2) := by decide +kernel
theorem d_S_point_33 : decode b_S_point 33 = .ok (.ireturn, 1) := by decide +kernel
theorem d_S_point_34 : decode b_S_point 34 = .ok (.aload_n 0, 1) := by decide +kernel
theorem d_S_point_35 : decode b_S_point 35 = .ok (.getfield 22, 3) := by decide +kernel
theorem d_S_point_38 : decode b_S_point 38 = .ok (.aload_n 0, 1) := by decide +kernel
theorem d_S_point_39 : decode b_S_point 39 = .ok (.getfield 50, 3) := by decide +kernel
theorem d_S_point_42 : decode b_S_point 42 = .ok (.iload_n 1, 1) := by decide +kernel
theorem d_S_point_43 : decode b_S_point 43 = .ok (.iastore, 1) := by decide +kernel
theorem d_S_point_44 : decode b_S_point 44 = .ok (.aload_n 0, 1) := by decide +kernel
theorem d_S_point_45 : decode b_S_point 45 = .ok (.getfield 26, 3) := by decide +kernel
theorem d_S_point_48 : decode b_S_point 48 = .ok (.aload_n 0, 1) := by decide +kernel
theorem d_S_point_49 : decode b_S_point 49 = .ok (.getfield 50, 3) := by decide +kernel
theorem d_S_point_52 : decode b_S_point 52 = .ok (.iload_n 2, 1) := by decide +kernel
theorem d_S_point_53 : decode b_S_point 53 = .ok (.iastore, 1) := by decide +kernel
theorem d_S_point_54 : decode b_S_point 54 = .ok (.aload_n 0, 1) := by decide +kernel
theorem d_S_point_55 : decode b_S_point 55 = .ok (.getfield 29, 3) := by decide +kernel
theorem d_S_point_58 : decode b_S_point 58 = .ok (.aload_n 0, 1) := by decide +kernel
theorem d_S_point_59 : decode b_S_point 59 = .ok (.getfield 50, 3) := by decide +kernel
theorem d_S_point_62 : decode b_S_point 62 = .ok (.iload_n 3, 1) := by decide +kernel
theorem d_S_point_63 : decode b_S_point 63 = .ok (.bastore, 1) := by decide +kernel
theorem d_S_point_64 : decode b_S_point 64 = .ok (.aload_n 0, 1) := by decide +kernel
theorem d_S_point_65 : decode b_S_point 65 = .ok (.dup, 1) := by decide +kernel
theorem d_S_point_66 : decode b_S_point 66 = .ok (.getfield 50, 3) := by decide +kernel
theorem d_S_point_69 : decode b_S_point 69 = .ok (.iconst 1, 1) := by decide +kernel
theorem d_S_point_70 : decode b_S_point 70 = .ok (.iadd, 1) := by decide +kernel
theorem d_S_point_71 : decode b_S_point 71 = .ok (.putfield 50, 3) := by decide +kernel
theorem d_S_point_74 : decode b_S_point 74 = .ok (.aload_n 0, 1) := by decide +kernel
theorem d_S_point_75 : decode b_S_point 75 = .ok (.getfield 50, 3) := by decide +kernel
theorem d_S_point_78 : decode b_S_point 78 = .ok (.ireturn, 1) := by decide +kernel
theorem d_S_inReach_0 : decode b_S_inReach 0 = .ok (.iload_n 0, 1) := by decide +kernel
theorem d_S_inReach_1 : decode b_S_inReach 1 = .ok (.sipush (-20000), 3) := by decide +kernel
theorem d_S_inReach_4 : decode b_S_inReach 4 = .ok (.if_icmp .lt 14, 3) := by decide +kernel
theorem d_S_inReach_7 : decode b_S_inReach 7 = .ok (.iload_n 0, 1) := by decide +kernel
theorem d_S_inReach_8 : decode b_S_inReach 8 = .ok (.sipush 20000, 3) := by decide +kernel
theorem d_S_inReach_11 : decode b_S_inReach 11 = .ok (.if_icmp .gt 7, 3) := by decide +kernel
theorem d_S_inReach_14 : decode b_S_inReach 14 = .ok (.iconst 1, 1) := by decide +kernel
theorem d_S_inReach_15 : decode b_S_inReach 15 = .ok (.goto 4, 3) := by decide +kernel
theorem d_S_inReach_18 : decode b_S_inReach 18 = .ok (.iconst 0, 1) := by decide +kernel
theorem d_S_inReach_19 : decode b_S_inReach 19 = .ok (.ireturn, 1) := by decide +kernel
theorem d_S_close_0 : decode b_S_close 0 = .ok (.aload_n 0, 1) := by decide +kernel
theorem d_S_close_1 : decode b_S_close 1 = .ok (.getfield 50, 3) := by decide +kernel
theorem d_S_close_4 : decode b_S_close 4 = .ok (.ifCond .ne 6, 3) := by decide +kernel
theorem d_S_close_7 : decode b_S_close 7 = .ok (.bipush (-2), 2) := by decide +kernel
theorem d_S_close_9 : decode b_S_close 9 = .ok (.ireturn, 1) := by decide +kernel
theorem d_S_close_10 : decode b_S_close 10 = .ok (.iconst 0, 1) := by decide +kernel
theorem d_S_close_11 : decode b_S_close 11 = .ok (.istore_n 1, 1) := by decide +kernel
theorem d_S_close_12 : decode b_S_close 12 = .ok (.iload_n 1, 1) := by decide +kernel
theorem d_S_close_13 : decode b_S_close 13 = .ok (.aload_n 0, 1) := by decide +kernel
theorem d_S_close_14 : decode b_S_close 14 = .ok (.getfield 50, 3) := by decide +kernel
theorem d_S_close_17 : decode b_S_close 17 = .ok (.if_icmp .ge 14, 3) := by decide +kernel
theorem d_S_close_20 : decode b_S_close 20 = .ok (.aload_n 0, 1) := by decide +kernel
theorem d_S_close_21 : decode b_S_close 21 = .ok (.iload_n 1, 1) := by decide +kernel
theorem d_S_close_22 : decode b_S_close 22 = .ok (.invokevirtual 53, 3) := by decide +kernel
theorem d_S_close_25 : decode b_S_close 25 = .ok (.iinc 1 1, 3) := by decide +kernel
theorem d_S_close_28 : decode b_S_close 28 = .ok (.goto (-16), 3) := by decide +kernel
theorem d_S_close_31 : decode b_S_close 31 = .ok (.aload_n 0, 1) := by decide +kernel
theorem d_S_close_32 : decode b_S_close 32 = .ok (.dup, 1) := by decide +kernel
theorem d_S_close_33 : decode b_S_close 33 = .ok (.getfield 47, 3) := by decide +kernel
theorem d_S_close_36 : decode b_S_close 36 = .ok (.aload_n 0, 1) := by decide +kernel
theorem d_S_close_37 : decode b_S_close 37 = .ok (.getfield 50, 3) := by decide +kernel
theorem d_S_close_40 : decode b_S_close 40 = .ok (.iadd, 1) := by decide +kernel
theorem d_S_close_41 : decode b_S_close 41 = .ok (.putfield 47, 3) := by decide +kernel
theorem d_S_close_44 : decode b_S_close 44 = .ok (.aload_n 0, 1) := by decide +kernel
theorem d_S_close_45 : decode b_S_close 45 = .ok (.iconst 0, 1) := by decide +kernel
theorem d_S_close_46 : decode b_S_close 46 = .ok (.putfield 50, 3) := by decide +kernel
theorem d_S_close_49 : decode b_S_close 49 = .ok (.aload_n 0, 1) := by decide +kernel
theorem d_S_close_50 : decode b_S_close 50 = .ok (.dup, 1) := by decide +kernel
theorem d_S_close_51 : decode b_S_close 51 = .ok (.getfield 57, 3) := by decide +kernel
theorem d_S_close_54 : decode b_S_close 54 = .ok (.iconst 1, 1) := by decide +kernel
theorem d_S_close_55 : decode b_S_close 55 = .ok (.iadd, 1) := by decide +kernel
theorem d_S_close_56 : decode b_S_close 56 = .ok (.putfield 57, 3) := by decide +kernel
theorem d_S_close_59 : decode b_S_close 59 = .ok (.aload_n 0, 1) := by decide +kernel
theorem d_S_close_60 : decode b_S_close 60 = .ok (.getfield 57, 3) := by decide +kernel
theorem d_S_close_63 : decode b_S_close 63 = .ok (.ireturn, 1) := by decide +kernel
theorem d_S_addArcOf_0 : decode b_S_addArcOf 0 = .ok (.iload_n 1, 1) := by decide +kernel
theorem d_S_addArcOf_1 : decode b_S_addArcOf 1 = .ok (.ifCond .ne 12, 3) := by decide +kernel
theorem d_S_addArcOf_4 : decode b_S_addArcOf 4 = .ok (.aload_n 0, 1) := by decide +kernel
theorem d_S_addArcOf_5 : decode b_S_addArcOf 5 = .ok (.getfield 50, 3) := by decide +kernel
theorem d_S_addArcOf_8 : decode b_S_addArcOf 8 = .ok (.iconst 1, 1) := by decide +kernel
theorem d_S_addArcOf_9 : decode b_S_addArcOf 9 = .ok (.isub, 1) := by decide +kernel
theorem d_S_addArcOf_10 : decode b_S_addArcOf 10 = .ok (.goto 6, 3) := by decide +kernel
theorem d_S_addArcOf_13 : decode b_S_addArcOf 13 = .ok (.iload_n 1, 1) := by decide +kernel
theorem d_S_addArcOf_14 : decode b_S_addArcOf 14 = .ok (.iconst 1, 1) := by decide +kernel
theorem d_S_addArcOf_15 : decode b_S_addArcOf 15 = .ok (.isub, 1) := by decide +kernel
theorem d_S_addArcOf_16 : decode b_S_addArcOf 16 = .ok (.istore_n 2, 1) := by decide +kernel
theorem d_S_addArcOf_17 : decode b_S_addArcOf 17 = .ok (.iload_n 1, 1) := by decide +kernel
theorem d_S_addArcOf_18 : decode b_S_addArcOf 18 = .ok (.iconst 1, 1) := by decide +kernel
theorem d_S_addArcOf_19 : decode b_S_addArcOf 19 = .ok (.iadd, 1) := by decide +kernel
theorem d_S_addArcOf_20 : decode b_S_addArcOf 20 = .ok (.aload_n 0, 1) := by decide +kernel
theorem d_S_addArcOf_21 : decode b_S_addArcOf 21 = .ok (.getfield 50, 3) := by decide +kernel
theorem d_S_addArcOf_24 : decode b_S_addArcOf 24 = .ok (.if_icmp .ne 7, 3) := by decide +kernel
theorem d_S_addArcOf_27 : decode b_S_addArcOf 27 = .ok (.iconst 0, 1) := by decide +kernel
theorem d_S_addArcOf_28 : decode b_S_addArcOf 28 = .ok (.goto 6, 3) := by decide +kernel
theorem d_S_addArcOf_31 : decode b_S_addArcOf 31 = .ok (.iload_n 1, 1) := by decide +kernel
theorem d_S_addArcOf_32 : decode b_S_addArcOf 32 = .ok (.iconst 1, 1) := by decide +kernel
theorem d_S_addArcOf_33 : decode b_S_addArcOf 33 = .ok (.iadd, 1) := by decide +kernel
theorem d_S_addArcOf_34 : decode b_S_addArcOf 34 = .ok (.istore_n 3, 1) := by decide +kernel
theorem d_S_addArcOf_35 : decode b_S_addArcOf 35 = .ok (.aload_n 0, 1) := by decide +kernel
theorem d_S_addArcOf_36 : decode b_S_addArcOf 36 = .ok (.getfield 29, 3) := by decide +kernel
theorem d_S_addArcOf_39 : decode b_S_addArcOf 39 = .ok (.iload_n 1, 1) := by decide +kernel
theorem d_S_addArcOf_40 : decode b_S_addArcOf 40 = .ok (.baload, 1) := by decide +kernel
theorem d_S_addArcOf_41 : decode b_S_addArcOf 41 = .ok (.ifCond .ne 77, 3) := by decide +kernel
theorem d_S_addArcOf_44 : decode b_S_addArcOf 44 = .ok (.aload_n 0, 1) := by decide +kernel
theorem d_S_addArcOf_45 : decode b_S_addArcOf 45 = .ok (.getfield 39, 3) := by decide +kernel
theorem d_S_addArcOf_48 : decode b_S_addArcOf 48 = .ok (.new 71, 3) := by decide +kernel
theorem d_S_addArcOf_51 : decode b_S_addArcOf 51 = .ok (.dup, 1) := by decide +kernel
theorem d_S_addArcOf_52 : decode b_S_addArcOf 52 = .ok (.aload_n 0, 1) := by decide +kernel
theorem d_S_addArcOf_53 : decode b_S_addArcOf 53 = .ok (.aload_n 0, 1) := by decide +kernel
theorem d_S_addArcOf_54 : decode b_S_addArcOf 54 = .ok (.getfield 22, 3) := by decide +kernel
theorem d_S_addArcOf_57 : decode b_S_addArcOf 57 = .ok (.iload_n 2, 1) := by decide +kernel
theorem d_S_addArcOf_58 : decode b_S_addArcOf 58 = .ok (.iload_n 1, 1) := by decide +kernel
theorem d_S_addArcOf_59 : decode b_S_addArcOf 59 = .ok (.invokevirtual 89, 3) := by decide +kernel
theorem d_S_addArcOf_62 : decode b_S_addArcOf 62 = .ok (.aload_n 0, 1) := by decide +kernel
theorem d_S_addArcOf_63 : decode b_S_addArcOf 63 = .ok (.aload_n 0, 1) := by decide +kernel
theorem d_S_addArcOf_64 : decode b_S_addArcOf 64 = .ok (.getfield 26, 3) := by decide +kernel
theorem d_S_addArcOf_67 : decode b_S_addArcOf 67 = .ok (.iload_n 2, 1) := by decide +kernel
theorem d_S_addArcOf_68 : decode b_S_addArcOf 68 = .ok (.iload_n 1, 1) := by decide +kernel
theorem d_S_addArcOf_69 : decode b_S_addArcOf 69 = .ok (.invokevirtual 89, 3) := by decide +kernel
theorem d_S_addArcOf_72 : decode b_S_addArcOf 72 = .ok (.iconst 2, 1) := by decide +kernel
theorem d_S_addArcOf_73 : decode b_S_addArcOf 73 = .ok (.aload_n 0, 1) := by decide +kernel
theorem d_S_addArcOf_74 : decode b_S_addArcOf 74 = .ok (.getfield 22, 3) := by decide +kernel
theorem d_S_addArcOf_77 : decode b_S_addArcOf 77 = .ok (.iload_n 1, 1) := by decide +kernel
theorem d_S_addArcOf_78 : decode b_S_addArcOf 78 = .ok (.iaload, 1) := by decide +kernel
theorem d_S_addArcOf_79 : decode b_S_addArcOf 79 = .ok (.imul, 1) := by decide +kernel
theorem d_S_addArcOf_80 : decode b_S_addArcOf 80 = .ok (.iconst 2, 1) := by decide +kernel
theorem d_S_addArcOf_81 : decode b_S_addArcOf 81 = .ok (.aload_n 0, 1) := by decide +kernel
theorem d_S_addArcOf_82 : decode b_S_addArcOf 82 = .ok (.getfield 26, 3) := by decide +kernel
theorem d_S_addArcOf_85 : decode b_S_addArcOf 85 = .ok (.iload_n 1, 1) := by decide +kernel
theorem d_S_addArcOf_86 : decode b_S_addArcOf 86 = .ok (.iaload, 1) := by decide +kernel
theorem d_S_addArcOf_87 : decode b_S_addArcOf 87 = .ok (.imul, 1) := by decide +kernel
theorem d_S_addArcOf_88 : decode b_S_addArcOf 88 = .ok (.aload_n 0, 1) := by decide +kernel
theorem d_S_addArcOf_89 : decode b_S_addArcOf 89 = .ok (.aload_n 0, 1) := by decide +kernel
theorem d_S_addArcOf_90 : decode b_S_addArcOf 90 = .ok (.getfield 22, 3) := by decide +kernel
theorem d_S_addArcOf_93 : decode b_S_addArcOf 93 = .ok (.iload_n 3, 1) := by decide +kernel
theorem d_S_addArcOf_94 : decode b_S_addArcOf 94 = .ok (.iload_n 1, 1) := by decide +kernel
theorem d_S_addArcOf_95 : decode b_S_addArcOf 95 = .ok (.invokevirtual 89, 3) := by decide +kernel
theorem d_S_addArcOf_98 : decode b_S_addArcOf 98 = .ok (.aload_n 0, 1) := by decide +kernel
theorem d_S_addArcOf_99 : decode b_S_addArcOf 99 = .ok (.aload_n 0, 1) := by decide +kernel
theorem d_S_addArcOf_100 : decode b_S_addArcOf 100 = .ok (.getfield 26, 3) := by decide +kernel
theorem d_S_addArcOf_103 : decode b_S_addArcOf 103 = .ok (.iload_n 3, 1) := by decide +kernel
theorem d_S_addArcOf_104 : decode b_S_addArcOf 104 = .ok (.iload_n 1, 1) := by decide +kernel
theorem d_S_addArcOf_105 : decode b_S_addArcOf 105 = .ok (.invokevirtual 89, 3) := by decide +kernel
theorem d_S_addArcOf_108 : decode b_S_addArcOf 108 = .ok (.invokespecial 93, 3) := by decide +kernel
theorem d_S_addArcOf_111 : decode b_S_addArcOf 111 = .ok (.invokevirtual 96, 3) := by decide +kernel
theorem d_S_addArcOf_114 : decode b_S_addArcOf 114 = .ok (.pop, 1) := by decide +kernel
theorem d_S_addArcOf_115 : decode b_S_addArcOf 115 = .ok (.goto 75, 3) := by decide +kernel
theorem d_S_addArcOf_118 : decode b_S_addArcOf 118 = .ok (.aload_n 0, 1) := by decide +kernel
theorem d_S_addArcOf_119 : decode b_S_addArcOf 119 = .ok (.getfield 29, 3) := by decide +kernel
theorem d_S_addArcOf_122 : decode b_S_addArcOf 122 = .ok (.iload_n 3, 1) := by decide +kernel
theorem d_S_addArcOf_123 : decode b_S_addArcOf 123 = .ok (.baload, 1) := by decide +kernel
theorem d_S_addArcOf_124 : decode b_S_addArcOf 124 = .ok (.ifCond .eq 66, 3) := by decide +kernel
theorem d_S_addArcOf_127 : decode b_S_addArcOf 127 = .ok (.aload_n 0, 1) := by decide +kernel
theorem d_S_addArcOf_128 : decode b_S_addArcOf 128 = .ok (.getfield 39, 3) := by decide +kernel
theorem d_S_addArcOf_131 : decode b_S_addArcOf 131 = .ok (.new 71, 3) := by decide +kernel
theorem d_S_addArcOf_134 : decode b_S_addArcOf 134 = .ok (.dup, 1) := by decide +kernel
theorem d_S_addArcOf_135 : decode b_S_addArcOf 135 = .ok (.iconst 2, 1) := by decide +kernel
theorem d_S_addArcOf_136 : decode b_S_addArcOf 136 = .ok (.aload_n 0, 1) := by decide +kernel
theorem d_S_addArcOf_137 : decode b_S_addArcOf 137 = .ok (.getfield 22, 3) := by decide +kernel
theorem d_S_addArcOf_140 : decode b_S_addArcOf 140 = .ok (.iload_n 1, 1) := by decide +kernel
theorem d_S_addArcOf_141 : decode b_S_addArcOf 141 = .ok (.iaload, 1) := by decide +kernel
theorem d_S_addArcOf_142 : decode b_S_addArcOf 142 = .ok (.imul, 1) := by decide +kernel
theorem d_S_addArcOf_143 : decode b_S_addArcOf 143 = .ok (.iconst 2, 1) := by decide +kernel
theorem d_S_addArcOf_144 : decode b_S_addArcOf 144 = .ok (.aload_n 0, 1) := by decide +kernel
theorem d_S_addArcOf_145 : decode b_S_addArcOf 145 = .ok (.getfield 26, 3) := by decide +kernel
theorem d_S_addArcOf_148 : decode b_S_addArcOf 148 = .ok (.iload_n 1, 1) := by decide +kernel
theorem d_S_addArcOf_149 : decode b_S_addArcOf 149 = .ok (.iaload, 1) := by decide +kernel
theorem d_S_addArcOf_150 : decode b_S_addArcOf 150 = .ok (.imul, 1) := by decide +kernel
theorem d_S_addArcOf_151 : decode b_S_addArcOf 151 = .ok (.iconst 2, 1) := by decide +kernel
theorem d_S_addArcOf_152 : decode b_S_addArcOf 152 = .ok (.aload_n 0, 1) := by decide +kernel
theorem d_S_addArcOf_153 : decode b_S_addArcOf 153 = .ok (.getfield 22, 3) := by decide +kernel
theorem d_S_addArcOf_156 : decode b_S_addArcOf 156 = .ok (.iload_n 1, 1) := by decide +kernel
theorem d_S_addArcOf_157 : decode b_S_addArcOf 157 = .ok (.iaload, 1) := by decide +kernel
theorem d_S_addArcOf_158 : decode b_S_addArcOf 158 = .ok (.imul, 1) := by decide +kernel
theorem d_S_addArcOf_159 : decode b_S_addArcOf 159 = .ok (.iconst 2, 1) := by decide +kernel
theorem d_S_addArcOf_160 : decode b_S_addArcOf 160 = .ok (.aload_n 0, 1) := by decide +kernel
theorem d_S_addArcOf_161 : decode b_S_addArcOf 161 = .ok (.getfield 26, 3) := by decide +kernel
theorem d_S_addArcOf_164 : decode b_S_addArcOf 164 = .ok (.iload_n 1, 1) := by decide +kernel
theorem d_S_addArcOf_165 : decode b_S_addArcOf 165 = .ok (.iaload, 1) := by decide +kernel
theorem d_S_addArcOf_166 : decode b_S_addArcOf 166 = .ok (.imul, 1) := by decide +kernel
theorem d_S_addArcOf_167 : decode b_S_addArcOf 167 = .ok (.iconst 2, 1) := by decide +kernel
theorem d_S_addArcOf_168 : decode b_S_addArcOf 168 = .ok (.aload_n 0, 1) := by decide +kernel
theorem d_S_addArcOf_169 : decode b_S_addArcOf 169 = .ok (.getfield 22, 3) := by decide +kernel
theorem d_S_addArcOf_172 : decode b_S_addArcOf 172 = .ok (.iload_n 3, 1) := by decide +kernel
theorem d_S_addArcOf_173 : decode b_S_addArcOf 173 = .ok (.iaload, 1) := by decide +kernel
theorem d_S_addArcOf_174 : decode b_S_addArcOf 174 = .ok (.imul, 1) := by decide +kernel
theorem d_S_addArcOf_175 : decode b_S_addArcOf 175 = .ok (.iconst 2, 1) := by decide +kernel
theorem d_S_addArcOf_176 : decode b_S_addArcOf 176 = .ok (.aload_n 0, 1) := by decide +kernel
theorem d_S_addArcOf_177 : decode b_S_addArcOf 177 = .ok (.getfield 26, 3) := by decide +kernel
theorem d_S_addArcOf_180 : decode b_S_addArcOf 180 = .ok (.iload_n 3, 1) := by decide +kernel
theorem d_S_addArcOf_181 : decode b_S_addArcOf 181 = .ok (.iaload, 1) := by decide +kernel
theorem d_S_addArcOf_182 : decode b_S_addArcOf 182 = .ok (.imul, 1) := by decide +kernel
theorem d_S_addArcOf_183 : decode b_S_addArcOf 183 = .ok (.invokespecial 93, 3) := by decide +kernel
theorem d_S_addArcOf_186 : decode b_S_addArcOf 186 = .ok (.invokevirtual 96, 3) := by decide +kernel
theorem d_S_addArcOf_189 : decode b_S_addArcOf 189 = .ok (.pop, 1) := by decide +kernel
theorem d_S_addArcOf_190 : decode b_S_addArcOf 190 = .ok (.return_, 1) := by decide +kernel
theorem d_S_joint_0 : decode b_S_joint 0 = .ok (.aload_n 0, 1) := by decide +kernel
theorem d_S_joint_1 : decode b_S_joint 1 = .ok (.getfield 29, 3) := by decide +kernel
theorem d_S_joint_4 : decode b_S_joint 4 = .ok (.iload_n 2, 1) := by decide +kernel
theorem d_S_joint_5 : decode b_S_joint 5 = .ok (.baload, 1) := by decide +kernel
theorem d_S_joint_6 : decode b_S_joint 6 = .ok (.ifCond .eq 11, 3) := by decide +kernel
theorem d_S_joint_9 : decode b_S_joint 9 = .ok (.iconst 2, 1) := by decide +kernel
theorem d_S_joint_10 : decode b_S_joint 10 = .ok (.aload_n 1, 1) := by decide +kernel
theorem d_S_joint_11 : decode b_S_joint 11 = .ok (.iload_n 2, 1) := by decide +kernel
theorem d_S_joint_12 : decode b_S_joint 12 = .ok (.iaload, 1) := by decide +kernel
theorem d_S_joint_13 : decode b_S_joint 13 = .ok (.imul, 1) := by decide +kernel
theorem d_S_joint_14 : decode b_S_joint 14 = .ok (.goto 10, 3) := by decide +kernel
theorem d_S_joint_17 : decode b_S_joint 17 = .ok (.aload_n 1, 1) := by decide +kernel
theorem d_S_joint_18 : decode b_S_joint 18 = .ok (.iload_n 2, 1) := by decide +kernel
theorem d_S_joint_19 : decode b_S_joint 19 = .ok (.iaload, 1) := by decide +kernel
theorem d_S_joint_20 : decode b_S_joint 20 = .ok (.aload_n 1, 1) := by decide +kernel
theorem d_S_joint_21 : decode b_S_joint 21 = .ok (.iload_n 3, 1) := by decide +kernel
theorem d_S_joint_22 : decode b_S_joint 22 = .ok (.iaload, 1) := by decide +kernel
theorem d_S_joint_23 : decode b_S_joint 23 = .ok (.iadd, 1) := by decide +kernel
theorem d_S_joint_24 : decode b_S_joint 24 = .ok (.ireturn, 1) := by decide +kernel
theorem d_S_clear_0 : decode b_S_clear 0 = .ok (.aload_n 0, 1) := by decide +kernel
theorem d_S_clear_1 : decode b_S_clear 1 = .ok (.getfield 57, 3) := by decide +kernel
theorem d_S_clear_4 : decode b_S_clear 4 = .ok (.istore_n 1, 1) := by decide +kernel
theorem d_S_clear_5 : decode b_S_clear 5 = .ok (.aload_n 0, 1) := by decide +kernel
theorem d_S_clear_6 : decode b_S_clear 6 = .ok (.getfield 39, 3) := by decide +kernel
theorem d_S_clear_9 : decode b_S_clear 9 = .ok (.invokevirtual 60, 3) := by decide +kernel
theorem d_S_clear_12 : decode b_S_clear 12 = .ok (.aload_n 0, 1) := by decide +kernel
theorem d_S_clear_13 : decode b_S_clear 13 = .ok (.iconst 0, 1) := by decide +kernel
theorem d_S_clear_14 : decode b_S_clear 14 = .ok (.putfield 50, 3) := by decide +kernel
theorem d_S_clear_17 : decode b_S_clear 17 = .ok (.aload_n 0, 1) := by decide +kernel
theorem d_S_clear_18 : decode b_S_clear 18 = .ok (.iconst 0, 1) := by decide +kernel
theorem d_S_clear_19 : decode b_S_clear 19 = .ok (.putfield 47, 3) := by decide +kernel
theorem d_S_clear_22 : decode b_S_clear 22 = .ok (.aload_n 0, 1) := by decide +kernel
theorem d_S_clear_23 : decode b_S_clear 23 = .ok (.iconst 0, 1) := by decide +kernel
theorem d_S_clear_24 : decode b_S_clear 24 = .ok (.putfield 57, 3) := by decide +kernel
theorem d_S_clear_27 : decode b_S_clear 27 = .ok (.iload_n 1, 1) := by decide +kernel
theorem d_S_clear_28 : decode b_S_clear 28 = .ok (.ireturn, 1) := by decide +kernel
theorem d_S_winding_0 : decode b_S_winding 0 = .ok (.iload_n 1, 1) := by decide +kernel
theorem d_S_winding_1 : decode b_S_winding 1 = .ok (.invokestatic 43, 3) := by decide +kernel
theorem d_S_winding_4 : decode b_S_winding 4 = .ok (.ifCond .eq 10, 3) := by decide +kernel
theorem d_S_winding_7 : decode b_S_winding 7 = .ok (.iload_n 2, 1) := by decide +kernel
theorem d_S_winding_8 : decode b_S_winding 8 = .ok (.invokestatic 43, 3) := by decide +kernel
theorem d_S_winding_11 : decode b_S_winding 11 = .ok (.ifCond .ne 7, 3) := by decide +kernel
theorem d_S_winding_14 : decode b_S_winding 14 = .ok (.sipush 2000, 3) := by decide +kernel
theorem d_S_winding_17 : decode b_S_winding 17 = .ok (.ireturn, 1) := by decide +kernel
theorem d_S_winding_18 : decode b_S_winding 18 = .ok (.iconst 0, 1) := by decide +kernel
theorem d_S_winding_19 : decode b_S_winding 19 = .ok (.istore_n 3, 1) := by decide +kernel
theorem d_S_winding_20 : decode b_S_winding 20 = .ok (.iconst 0, 1) := by decide +kernel
theorem d_S_winding_21 : decode b_S_winding 21 = .ok (.istore 4, 2) := by decide +kernel
theorem d_S_winding_23 : decode b_S_winding 23 = .ok (.iload 4, 2) := by decide +kernel
theorem d_S_winding_25 : decode b_S_winding 25 = .ok (.aload_n 0, 1) := by decide +kernel
theorem d_S_winding_26 : decode b_S_winding 26 = .ok (.getfield 39, 3) := by decide +kernel
theorem d_S_winding_29 : decode b_S_winding 29 = .ok (.invokevirtual 63, 3) := by decide +kernel
theorem d_S_winding_32 : decode b_S_winding 32 = .ok (.if_icmp .ge 49, 3) := by decide +kernel
theorem d_S_winding_35 : decode b_S_winding 35 = .ok (.aload_n 0, 1) := by decide +kernel
theorem d_S_winding_36 : decode b_S_winding 36 = .ok (.getfield 39, 3) := by decide +kernel
theorem d_S_winding_39 : decode b_S_winding 39 = .ok (.iload 4, 2) := by decide +kernel
theorem d_S_winding_41 : decode b_S_winding 41 = .ok (.invokevirtual 67, 3) := by decide +kernel
theorem d_S_winding_44 : decode b_S_winding 44 = .ok (.checkcast 71, 3) := by decide +kernel
theorem d_S_winding_47 : decode b_S_winding 47 = .ok (.iconst 2, 1) := by decide +kernel
theorem d_S_winding_48 : decode b_S_winding 48 = .ok (.iload_n 1, 1) := by decide +kernel
theorem d_S_winding_49 : decode b_S_winding 49 = .ok (.imul, 1) := by decide +kernel
theorem d_S_winding_50 : decode b_S_winding 50 = .ok (.iconst 2, 1) := by decide +kernel
theorem d_S_winding_51 : decode b_S_winding 51 = .ok (.iload_n 2, 1) := by decide +kernel
theorem d_S_winding_52 : decode b_S_winding 52 = .ok (.imul, 1) := by decide +kernel
theorem d_S_winding_53 : decode b_S_winding 53 = .ok (.invokevirtual 73, 3) := by decide +kernel
theorem d_S_winding_56 : decode b_S_winding 56 = .ok (.istore 5, 2) := by decide +kernel
theorem d_S_winding_58 : decode b_S_winding 58 = .ok (.iload 5, 2) := by decide +kernel
theorem d_S_winding_60 : decode b_S_winding 60 = .ok (.sipush 1000, 3) := by decide +kernel
theorem d_S_winding_63 : decode b_S_winding 63 = .ok (.if_icmp .ne 7, 3) := by decide +kernel
theorem d_S_winding_66 : decode b_S_winding 66 = .ok (.sipush 1000, 3) := by decide +kernel
theorem d_S_winding_69 : decode b_S_winding 69 = .ok (.ireturn, 1) := by decide +kernel
theorem d_S_winding_70 : decode b_S_winding 70 = .ok (.iload_n 3, 1) := by decide +kernel
theorem d_S_winding_71 : decode b_S_winding 71 = .ok (.iload 5, 2) := by decide +kernel
theorem d_S_winding_73 : decode b_S_winding 73 = .ok (.iadd, 1) := by decide +kernel
theorem d_S_winding_74 : decode b_S_winding 74 = .ok (.istore_n 3, 1) := by decide +kernel
theorem d_S_winding_75 : decode b_S_winding 75 = .ok (.iinc 4 1, 3) := by decide +kernel
theorem d_S_winding_78 : decode b_S_winding 78 = .ok (.goto (-55), 3) := by decide +kernel
theorem d_S_winding_81 : decode b_S_winding 81 = .ok (.iload_n 3, 1) := by decide +kernel
theorem d_S_winding_82 : decode b_S_winding 82 = .ok (.ireturn, 1) := by decide +kernel
theorem d_S_row_0 : decode b_S_row 0 = .ok (.iload_n 1, 1) := by decide +kernel
theorem d_S_row_1 : decode b_S_row 1 = .ok (.sipush (-300), 3) := by decide +kernel
theorem d_S_row_4 : decode b_S_row 4 = .ok (.if_icmp .lt 10, 3) := by decide +kernel
theorem d_S_row_7 : decode b_S_row 7 = .ok (.iload_n 1, 1) := by decide +kernel
theorem d_S_row_8 : decode b_S_row 8 = .ok (.sipush 300, 3) := by decide +kernel
theorem d_S_row_11 : decode b_S_row 11 = .ok (.if_icmp .le 5, 3) := by decide +kernel
theorem d_S_row_14 : decode b_S_row 14 = .ok (.lconst 0, 1) := by decide +kernel
theorem d_S_row_15 : decode b_S_row 15 = .ok (.lreturn, 1) := by decide +kernel
theorem d_S_row_16 : decode b_S_row 16 = .ok (.sipush 128, 3) := by decide +kernel
theorem d_S_row_19 : decode b_S_row 19 = .ok (.iload_n 1, 1) := by decide +kernel
theorem d_S_row_20 : decode b_S_row 20 = .ok (.imul, 1) := by decide +kernel
theorem d_S_row_21 : decode b_S_row 21 = .ok (.bipush 64, 2) := by decide +kernel
theorem d_S_row_23 : decode b_S_row 23 = .ok (.iadd, 1) := by decide +kernel
theorem d_S_row_24 : decode b_S_row 24 = .ok (.istore_n 2, 1) := by decide +kernel
theorem d_S_row_25 : decode b_S_row 25 = .ok (.lconst 0, 1) := by decide +kernel
theorem d_S_row_26 : decode b_S_row 26 = .ok (.lstore_n 3, 1) := by decide +kernel
theorem d_S_row_27 : decode b_S_row 27 = .ok (.aload_n 0, 1) := by decide +kernel
theorem d_S_row_28 : decode b_S_row 28 = .ok (.getfield 33, 3) := by decide +kernel
theorem d_S_row_31 : decode b_S_row 31 = .ok (.iconst 0, 1) := by decide +kernel
theorem d_S_row_32 : decode b_S_row 32 = .ok (.invokestatic 76, 3) := by decide +kernel
theorem d_S_row_35 : decode b_S_row 35 = .ok (.iconst 0, 1) := by decide +kernel
theorem d_S_row_36 : decode b_S_row 36 = .ok (.istore 5, 2) := by decide +kernel
theorem d_S_row_38 : decode b_S_row 38 = .ok (.iload 5, 2) := by decide +kernel
theorem d_S_row_40 : decode b_S_row 40 = .ok (.aload_n 0, 1) := by decide +kernel
theorem d_S_row_41 : decode b_S_row 41 = .ok (.getfield 39, 3) := by decide +kernel
theorem d_S_row_44 : decode b_S_row 44 = .ok (.invokevirtual 63, 3) := by decide +kernel
theorem d_S_row_47 : decode b_S_row 47 = .ok (.if_icmp .ge 42, 3) := by decide +kernel
theorem d_S_row_50 : decode b_S_row 50 = .ok (.aload_n 0, 1) := by decide +kernel
theorem d_S_row_51 : decode b_S_row 51 = .ok (.getfield 39, 3) := by decide +kernel
theorem d_S_row_54 : decode b_S_row 54 = .ok (.iload 5, 2) := by decide +kernel
theorem d_S_row_56 : decode b_S_row 56 = .ok (.invokevirtual 67, 3) := by decide +kernel
theorem d_S_row_59 : decode b_S_row 59 = .ok (.checkcast 71, 3) := by decide +kernel
theorem d_S_row_62 : decode b_S_row 62 = .ok (.astore 6, 2) := by decide +kernel
theorem d_S_row_64 : decode b_S_row 64 = .ok (.aload 6, 2) := by decide +kernel
theorem d_S_row_66 : decode b_S_row 66 = .ok (.iload_n 2, 1) := by decide +kernel
theorem d_S_row_67 : decode b_S_row 67 = .ok (.invokevirtual 82, 3) := by decide +kernel
theorem d_S_row_70 : decode b_S_row 70 = .ok (.ifCond .eq 13, 3) := by decide +kernel
theorem d_S_row_73 : decode b_S_row 73 = .ok (.lload_n 3, 1) := by decide +kernel
theorem d_S_row_74 : decode b_S_row 74 = .ok (.aload_n 0, 1) := by decide +kernel
theorem d_S_row_75 : decode b_S_row 75 = .ok (.aload 6, 2) := by decide +kernel
theorem d_S_row_77 : decode b_S_row 77 = .ok (.iload_n 2, 1) := by decide +kernel
theorem d_S_row_78 : decode b_S_row 78 = .ok (.invokevirtual 85, 3) := by decide +kernel
theorem d_S_row_81 : decode b_S_row 81 = .ok (.lor, 1) := by decide +kernel
theorem d_S_row_82 : decode b_S_row 82 = .ok (.lstore_n 3, 1) := by decide +kernel
theorem d_S_row_83 : decode b_S_row 83 = .ok (.iinc 5 1, 3) := by decide +kernel
theorem d_S_row_86 : decode b_S_row 86 = .ok (.goto (-48), 3) := by decide +kernel
theorem d_S_row_89 : decode b_S_row 89 = .ok (.iconst 0, 1) := by decide +kernel
theorem d_S_row_90 : decode b_S_row 90 = .ok (.istore 5, 2) := by decide +kernel
theorem d_S_row_92 : decode b_S_row 92 = .ok (.iload 5, 2) := by decide +kernel
theorem d_S_row_94 : decode b_S_row 94 = .ok (.aload_n 0, 1) := by decide +kernel
theorem d_S_row_95 : decode b_S_row 95 = .ok (.getfield 18, 3) := by decide +kernel
theorem d_S_row_98 : decode b_S_row 98 = .ok (.if_icmp .ge 26, 3) := by decide +kernel
theorem d_S_row_101 : decode b_S_row 101 = .ok (.aload_n 0, 1) := by decide +kernel
theorem d_S_row_102 : decode b_S_row 102 = .ok (.getfield 33, 3) := by decide +kernel
theorem d_S_row_105 : decode b_S_row 105 = .ok (.iload 5, 2) := by decide +kernel
theorem d_S_row_107 : decode b_S_row 107 = .ok (.iaload, 1) := by decide +kernel
theorem d_S_row_108 : decode b_S_row 108 = .ok (.ifCond .eq 10, 3) := by decide +kernel
theorem d_S_row_111 : decode b_S_row 111 = .ok (.lload_n 3, 1) := by decide +kernel
theorem d_S_row_112 : decode b_S_row 112 = .ok (.lconst 1, 1) := by decide +kernel
theorem d_S_row_113 : decode b_S_row 113 = .ok (.iload 5, 2) := by decide +kernel
theorem d_S_row_115 : decode b_S_row 115 = .ok (.lshl, 1) := by decide +kernel
theorem d_S_row_116 : decode b_S_row 116 = .ok (.lor, 1) := by decide +kernel
theorem d_S_row_117 : decode b_S_row 117 = .ok (.lstore_n 3, 1) := by decide +kernel
theorem d_S_row_118 : decode b_S_row 118 = .ok (.iinc 5 1, 3) := by decide +kernel
theorem d_S_row_121 : decode b_S_row 121 = .ok (.goto (-29), 3) := by decide +kernel
theorem d_S_row_124 : decode b_S_row 124 = .ok (.lload_n 3, 1) := by decide +kernel
theorem d_S_row_125 : decode b_S_row 125 = .ok (.lreturn, 1) := by decide +kernel
theorem d_S_addRowTurns_0 : decode b_S_addRowTurns 0 = .ok (.lconst 0, 1) := by decide +kernel
theorem d_S_addRowTurns_1 : decode b_S_addRowTurns 1 = .ok (.lstore_n 3, 1) := by decide +kernel
theorem d_S_addRowTurns_2 : decode b_S_addRowTurns 2 = .ok (.iconst 0, 1) := by decide +kernel
theorem d_S_addRowTurns_3 : decode b_S_addRowTurns 3 = .ok (.istore 5, 2) := by decide +kernel
theorem d_S_addRowTurns_5 : decode b_S_addRowTurns 5 = .ok (.iload 5, 2) := by decide +kernel
theorem d_S_addRowTurns_7 : decode b_S_addRowTurns 7 = .ok (.aload_n 0, 1) := by decide +kernel
theorem d_S_addRowTurns_8 : decode b_S_addRowTurns 8 = .ok (.getfield 18, 3) := by decide +kernel
theorem d_S_addRowTurns_11 : decode b_S_addRowTurns 11 = .ok (.if_icmp .ge 55, 3) := by decide +kernel
theorem d_S_addRowTurns_14 : decode b_S_addRowTurns 14 = .ok (.aload_n 1, 1) := by decide +kernel
theorem d_S_addRowTurns_15 : decode b_S_addRowTurns 15 = .ok (.sipush 128, 3) := by decide +kernel
theorem d_S_addRowTurns_18 : decode b_S_addRowTurns 18 = .ok (.iload 5, 2) := by decide +kernel
theorem d_S_addRowTurns_20 : decode b_S_addRowTurns 20 = .ok (.imul, 1) := by decide +kernel
theorem d_S_addRowTurns_21 : decode b_S_addRowTurns 21 = .ok (.bipush 64, 2) := by decide +kernel
theorem d_S_addRowTurns_23 : decode b_S_addRowTurns 23 = .ok (.iadd, 1) := by decide +kernel
theorem d_S_addRowTurns_24 : decode b_S_addRowTurns 24 = .ok (.iload_n 2, 1) := by decide +kernel
theorem d_S_addRowTurns_25 : decode b_S_addRowTurns 25 = .ok (.invokevirtual 73, 3) := by decide +kernel
theorem d_S_addRowTurns_28 : decode b_S_addRowTurns 28 = .ok (.istore 6, 2) := by decide +kernel
theorem d_S_addRowTurns_30 : decode b_S_addRowTurns 30 = .ok (.iload 6, 2) := by decide +kernel
theorem d_S_addRowTurns_32 : decode b_S_addRowTurns 32 = .ok (.sipush 1000, 3) := by decide +kernel
theorem d_S_addRowTurns_35 : decode b_S_addRowTurns 35 = .ok (.if_icmp .ne 13, 3) := by decide +kernel
theorem d_S_addRowTurns_38 : decode b_S_addRowTurns 38 = .ok (.lload_n 3, 1) := by decide +kernel
theorem d_S_addRowTurns_39 : decode b_S_addRowTurns 39 = .ok (.lconst 1, 1) := by decide +kernel
theorem d_S_addRowTurns_40 : decode b_S_addRowTurns 40 = .ok (.iload 5, 2) := by decide +kernel
theorem d_S_addRowTurns_42 : decode b_S_addRowTurns 42 = .ok (.lshl, 1) := by decide +kernel
theorem d_S_addRowTurns_43 : decode b_S_addRowTurns 43 = .ok (.lor, 1) := by decide +kernel
theorem d_S_addRowTurns_44 : decode b_S_addRowTurns 44 = .ok (.lstore_n 3, 1) := by decide +kernel
theorem d_S_addRowTurns_45 : decode b_S_addRowTurns 45 = .ok (.goto 15, 3) := by decide +kernel
theorem d_S_addRowTurns_48 : decode b_S_addRowTurns 48 = .ok (.aload_n 0, 1) := by decide +kernel
theorem d_S_addRowTurns_49 : decode b_S_addRowTurns 49 = .ok (.getfield 33, 3) := by decide +kernel
theorem d_S_addRowTurns_52 : decode b_S_addRowTurns 52 = .ok (.iload 5, 2) := by decide +kernel
theorem d_S_addRowTurns_54 : decode b_S_addRowTurns 54 = .ok (.dup2, 1) := by decide +kernel
theorem d_S_addRowTurns_55 : decode b_S_addRowTurns 55 = .ok (.iaload, 1) := by decide +kernel
theorem d_S_addRowTurns_56 : decode b_S_addRowTurns 56 = .ok (.iload 6, 2) := by decide +kernel
theorem d_S_addRowTurns_58 : decode b_S_addRowTurns 58 = .ok (.iadd, 1) := by decide +kernel
theorem d_S_addRowTurns_59 : decode b_S_addRowTurns 59 = .ok (.iastore, 1) := by decide +kernel
theorem d_S_addRowTurns_60 : decode b_S_addRowTurns 60 = .ok (.iinc 5 1, 3) := by decide +kernel
theorem d_S_addRowTurns_63 : decode b_S_addRowTurns 63 = .ok (.goto (-58), 3) := by decide +kernel
theorem d_S_addRowTurns_66 : decode b_S_addRowTurns 66 = .ok (.lload_n 3, 1) := by decide +kernel
theorem d_S_addRowTurns_67 : decode b_S_addRowTurns 67 = .ok (.lreturn, 1) := by decide +kernel
theorem d_S_count_0 : decode b_S_count 0 = .ok (.iload_n 1, 1) := by decide +kernel
theorem d_S_count_1 : decode b_S_count 1 = .ok (.tableswitch 56 0 3 #[31, 36, 41, 51], 31) := by decide +kernel
theorem d_S_count_32 : decode b_S_count 32 = .ok (.aload_n 0, 1) := by decide +kernel
theorem d_S_count_33 : decode b_S_count 33 = .ok (.getfield 18, 3) := by decide +kernel
theorem d_S_count_36 : decode b_S_count 36 = .ok (.ireturn, 1) := by decide +kernel
theorem d_S_count_37 : decode b_S_count 37 = .ok (.aload_n 0, 1) := by decide +kernel
theorem d_S_count_38 : decode b_S_count 38 = .ok (.getfield 57, 3) := by decide +kernel
theorem d_S_count_41 : decode b_S_count 41 = .ok (.ireturn, 1) := by decide +kernel
theorem d_S_count_42 : decode b_S_count 42 = .ok (.aload_n 0, 1) := by decide +kernel
theorem d_S_count_43 : decode b_S_count 43 = .ok (.getfield 47, 3) := by decide +kernel
theorem d_S_count_46 : decode b_S_count 46 = .ok (.aload_n 0, 1) := by decide +kernel
theorem d_S_count_47 : decode b_S_count 47 = .ok (.getfield 50, 3) := by decide +kernel
theorem d_S_count_50 : decode b_S_count 50 = .ok (.iadd, 1) := by decide +kernel
theorem d_S_count_51 : decode b_S_count 51 = .ok (.ireturn, 1) := by decide +kernel
theorem d_S_count_52 : decode b_S_count 52 = .ok (.aload_n 0, 1) := by decide +kernel
theorem d_S_count_53 : decode b_S_count 53 = .ok (.getfield 50, 3) := by decide +kernel
theorem d_S_count_56 : decode b_S_count 56 = .ok (.ireturn, 1) := by decide +kernel
theorem d_S_count_57 : decode b_S_count 57 = .ok (.iconst (-1), 1) := by decide +kernel
theorem d_S_count_58 : decode b_S_count 58 = .ok (.ireturn, 1) := by decide +kernel
end
section
-- shifts of longs, by name
abbrev jv_lushr (x : Int64) (y : Int32) : Int64 := (x.toUInt64 >>> (y.toInt64.toUInt64 &&& Int64.toUInt64 63)).toInt64
abbrev jv_lshl (x : Int64) (y : Int32) : Int64 := x <<< (y.toInt64 &&& 63)
abbrev jv_lshr (x : Int64) (y : Int32) : Int64 := x >>> (y.toInt64 &&& 63)
-- contracts of methods that change nothing: a pure one, and one that reads cells
abbrev pq_i (l : Launch) (y : MethodName) (ws : List Cond) (rm : Room) (As : List Value) (r : Int32) : Prop := ∀ sz : Nat, Met l y ws rm (va_Pc As (fun U => U.heap.size = sz)) (va_Qi (fun x (_ : Unit) => x = r) (fun _ _ => True) (fun q => sz ≤ q)) 0 0 (fun q => sz ≤ q)
abbrev pq_l (l : Launch) (y : MethodName) (ws : List Cond) (rm : Room) (As : List Value) (r : Int64) : Prop := ∀ sz : Nat, Met l y ws rm (va_Pc As (fun U => U.heap.size = sz)) (va_Ql (fun x (_ : Unit) => x = r) (fun _ _ => True) (fun q => sz ≤ q)) 0 0 (fun q => sz ≤ q)
abbrev pr_i (l : Launch) (y : MethodName) (ws : List Cond) (rm : Room) (D : va_G) (cl : List vw_C) (w1 : va_W) (tys : List (ClassId × FieldType)) (As : List Value) (r : Int32) : Prop := ∀ sz : Nat, Met l y ws rm (va_Pc As (fun U => U.heap.size = sz ∧ va_P D cl w1 U.heap ∧ va_K D cl tys U)) (va_Qi (fun x (_ : Unit) => x = r) (fun _ _ => True) (fun q => sz ≤ q)) 0 0 (fun q => sz ≤ q)
abbrev pr_l (l : Launch) (y : MethodName) (ws : List Cond) (rm : Room) (D : va_G) (cl : List vw_C) (w1 : va_W) (tys : List (ClassId × FieldType)) (As : List Value) (r : Int64) : Prop := ∀ sz : Nat, Met l y ws rm (va_Pc As (fun U => U.heap.size = sz ∧ va_P D cl w1 U.heap ∧ va_K D cl tys U)) (va_Ql (fun x (_ : Unit) => x = r) (fun _ _ => True) (fun q => sz ≤ q)) 0 0 (fun q => sz ≤ q)
/-- contracts of methods that change cells: the world W0 becomes W1; nothing is made -/
abbrev mc_v (l : Launch) (y : MethodName) (ws : List Cond) (rm : Room) (D : va_G) (cl : List vw_C) (W0 W1 : va_W) (tys : List (ClassId × FieldType)) (As : List Value) : Prop := ∀ sz : Nat, Met l y ws rm (va_Pc As (fun U => U.heap.size = sz ∧ va_P D cl W0 U.heap ∧ va_K D cl tys U ∧ va_D (fun _ => True) W0)) (va_Qv (fun (_ : Unit) => True) (fun _ t => va_P D cl W1 t.heap ∧ va_K D cl tys t ∧ va_D (va_A W0 sz) W1) (va_A W0 sz)) 0 0 (va_A W0 sz)
abbrev mc_i (l : Launch) (y : MethodName) (ws : List Cond) (rm : Room) (D : va_G) (cl : List vw_C) (W0 W1 : va_W) (tys : List (ClassId × FieldType)) (As : List Value) (r : Int32) : Prop := ∀ sz : Nat, Met l y ws rm (va_Pc As (fun U => U.heap.size = sz ∧ va_P D cl W0 U.heap ∧ va_K D cl tys U ∧ va_D (fun _ => True) W0)) (va_Qi (fun x (_ : Unit) => x = r) (fun _ t => va_P D cl W1 t.heap ∧ va_K D cl tys t ∧ va_D (va_A W0 sz) W1) (va_A W0 sz)) 0 0 (va_A W0 sz)
abbrev mc_l (l : Launch) (y : MethodName) (ws : List Cond) (rm : Room) (D : va_G) (cl : List vw_C) (W0 W1 : va_W) (tys : List (ClassId × FieldType)) (As : List Value) (r : Int64) : Prop := ∀ sz : Nat, Met l y ws rm (va_Pc As (fun U => U.heap.size = sz ∧ va_P D cl W0 U.heap ∧ va_K D cl tys U ∧ va_D (fun _ => True) W0)) (va_Ql (fun x (_ : Unit) => x = r) (fun _ t => va_P D cl W1 t.heap ∧ va_K D cl tys t ∧ va_D (va_A W0 sz) W1) (va_A W0 sz)) 0 0 (va_A W0 sz)
theorem mc_blind {D : va_G} {cl : List vw_C} {W0 : va_W} {tys : List (ClassId × FieldType)} {As : List Value} {sz : Nat} : FrameBlind (va_Pc As (fun U => U.heap.size = sz ∧ va_P D cl W0 U.heap ∧ va_K D cl tys U ∧ va_D (fun _ => True) W0)) :=
  fun a U g mk q => ⟨q.1, q.2.1, q.2.2.1, va_K.moved (u := U) (U := U.calling g mk a) (Vm.Alike.refl U.vm) q.2.2.2.1, q.2.2.2.2⟩
theorem mc_pre {s : State} {H : Heap} {A : Nat → Prop} {D : va_G} {cl : List vw_C} {W0 : va_W} {tys : List (ClassId × FieldType)} {As : List Value} (hP : va_P D cl W0 H) (hK : va_K D cl tys s) (hD : va_D A W0) : ∀ U : State, U.heap = H → s.WarmedH U.vm → va_Pc As (fun U => U.heap.size = H.size ∧ va_P D cl W0 U.heap ∧ va_K D cl tys U ∧ va_D (fun _ => True) W0) As.toArray U :=
  fun U hU hW => ⟨rfl, by rw [hU], by rw [hU]; exact hP, va_K.moved hW.alike hK, hD.weaken (fun _ _ _ _ => trivial)⟩
section
variable {p : Program} {l : Launch} {e : Env} {R : Room} {s : State} {m : MethodId} {args : Array Value} {below : List Frame} {meth : Method} {c : Code} {H : Heap} {locs : List Loc} {cells slots : Nat} {Q : State → Prop}
variable {D : va_G} {cl : List vw_C} {w0 w1 : va_W} {A : Nat → Prop} {H0 : Heap} {pc : Nat} {ls : Array Slot} {st0 rest : List Value}
/-- a call that changes nothing: the whole world stays -/
theorem cq_i {r : Int32} {a : Array Value}
    (hr : va_Run p l e R s m args below meth c H locs cells slots 0 0 (F0 m pc ls st0) rest (va_Qi (fun x (_ : Unit) => x = r) (fun _ _ => True) (fun q => H.size ≤ q) a) (fun q => H.size ≤ q))
    (hP : va_P D cl w0 H) (hS : va_S A H0 H locs) (hA : ∀ q, H0.size ≤ q → A q)
    (kk : ∀ (H : Heap) (locs : List Loc), va_P D cl w0 H → va_S A H0 H locs → W p l e R s m args below meth c H locs cells slots Q (F0 m (pc + 3) ls (.int r :: rest))) : W p l e R s m args below meth c H locs cells slots Q (F0 m pc ls st0) := by
  refine va_calli hr hS (fun q h1 h2 => absurd h1 (Nat.not_lt.mpr h2)) (fun q h => hA q (Nat.le_trans hS.1 h)) (fun x u t H1 locs1 ht hvm hpost hB hz hk hS1 => ?_)
  subst hpost
  exact kk H1 locs1 (hP.kept fun k q hq => hk q.1 (hP k q hq).lt (Nat.not_le.mpr (hP k q hq).lt)) hS1
theorem cq_l {r : Int64} {a : Array Value}
    (hr : va_Run p l e R s m args below meth c H locs cells slots 0 0 (F0 m pc ls st0) rest (va_Ql (fun x (_ : Unit) => x = r) (fun _ _ => True) (fun q => H.size ≤ q) a) (fun q => H.size ≤ q))
    (hP : va_P D cl w0 H) (hS : va_S A H0 H locs) (hA : ∀ q, H0.size ≤ q → A q)
    (kk : ∀ (H : Heap) (locs : List Loc), va_P D cl w0 H → va_S A H0 H locs → W p l e R s m args below meth c H locs cells slots Q (F0 m (pc + 3) ls (.long r :: rest))) : W p l e R s m args below meth c H locs cells slots Q (F0 m pc ls st0) := by
  refine va_calll hr hS (fun q h1 h2 => absurd h1 (Nat.not_lt.mpr h2)) (fun q h => hA q (Nat.le_trans hS.1 h)) (fun x u t H1 locs1 ht hvm hpost hB hz hk hS1 => ?_)
  subst hpost
  exact kk H1 locs1 (hP.kept fun k q hq => hk q.1 (hP k q hq).lt (Nat.not_le.mpr (hP k q hq).lt)) hS1
variable {y : MethodName} {bytes cc : ByteArray} {maxL nL n index : Nat} {ret : Option FieldType} {ws Ts : List Cond} {rm : Room} {own C : String} {As : List Value} {b : Nat} {tys tys0 : List (ClassId × FieldType)} {ci : Nat} {fs : List Value} {T : u_T} {N : Nat}
theorem cq_Si {r : Int32} (S : CallFix p m c cc nL s args Ts own) (hM : pq_i l y ws rm As r) (cw : CallB R s args own index y bytes maxL ret ws rm 0 0 n ∧ (Cond.static y).before args s = true) (hst : st0 = As.reverse ++ rest) (hn : As.length = n) (hsize : ls.size = nL) (hW : (rest.map fun v => v.category).sum ≤ 8) (hdg : decode cc pc = .ok (.invokestatic index, 3)) (hf : cells ≤ R.cells ∧ slots ≤ R.slots)
    (hP : va_P D cl w0 H) (hS : va_S A H0 H locs) (hA : ∀ q, H0.size ≤ q → A q)
    (kk : ∀ (H : Heap) (locs : List Loc), va_P D cl w0 H → va_S A H0 H locs → W p l e R s m args below meth c H locs cells slots Q (F0 m (pc + 3) ls (.int r :: rest))) : W p l e R s m args below meth c H locs cells slots Q (F0 m pc ls st0) :=
  cq_i (va_runS (g := F0 m pc ls st0) S (hM H.size) cw ⟨fun a U g mk q => q, fun U hU hW => ⟨rfl, congrArg Array.size hU⟩⟩ rfl hn hsize hst (lv_room hW) hdg hf) hP hS hA kk
theorem cq_Sl {r : Int64} (S : CallFix p m c cc nL s args Ts own) (hM : pq_l l y ws rm As r) (cw : CallB R s args own index y bytes maxL ret ws rm 0 0 n ∧ (Cond.static y).before args s = true) (hst : st0 = As.reverse ++ rest) (hn : As.length = n) (hsize : ls.size = nL) (hW : (rest.map fun v => v.category).sum ≤ 8) (hdg : decode cc pc = .ok (.invokestatic index, 3)) (hf : cells ≤ R.cells ∧ slots ≤ R.slots)
    (hP : va_P D cl w0 H) (hS : va_S A H0 H locs) (hA : ∀ q, H0.size ≤ q → A q)
    (kk : ∀ (H : Heap) (locs : List Loc), va_P D cl w0 H → va_S A H0 H locs → W p l e R s m args below meth c H locs cells slots Q (F0 m (pc + 3) ls (.long r :: rest))) : W p l e R s m args below meth c H locs cells slots Q (F0 m pc ls st0) :=
  cq_l (va_runS (g := F0 m pc ls st0) S (hM H.size) cw ⟨fun a U g mk q => q, fun U hU hW => ⟨rfl, congrArg Array.size hU⟩⟩ rfl hn hsize hst (lv_room hW) hdg hf) hP hS hA kk
/-- a virtual call of a method that only reads -/
theorem cq_Vi {r : Int32} (S : CallFix p m c cc nL s args Ts own) (hM : pr_i l y ws rm D cl w1 tys (.ref b :: As) r) (cw : CallW R s args own C index y bytes maxL ret ws rm 0 0 n) (hK : va_K D cl tys0 s) (hP1 : va_P D cl w1 H) (hK1 : va_K D cl tys s) (q0 : Nat) (he : w0[q0]? = some (b, .inr (ci, fs))) (hc : cl[ci]? = some (C, T, N)) (hst : st0 = As.reverse ++ .ref b :: rest) (hn : As.length = n) (hsize : ls.size = nL) (hW : (rest.map fun v => v.category).sum ≤ 8) (hdg : decode cc pc = .ok (.invokevirtual index, 3)) (hf : cells ≤ R.cells ∧ slots ≤ R.slots)
    (hP : va_P D cl w0 H) (hS : va_S A H0 H locs) (hA : ∀ q, H0.size ≤ q → A q)
    (kk : ∀ (H : Heap) (locs : List Loc), va_P D cl w0 H → va_S A H0 H locs → W p l e R s m args below meth c H locs cells slots Q (F0 m (pc + 3) ls (.int r :: rest))) : W p l e R s m args below meth c H locs cells slots Q (F0 m pc ls st0) :=
  cq_i (va_runV (g := F0 m pc ls st0) S (hM H.size) cw ⟨fun a U g mk q => ⟨q.1, q.2.1, q.2.2.1, va_K.moved (u := U) (U := U.calling g mk a) (Vm.Alike.refl U.vm) q.2.2.2⟩, va_recv hK hP hc he, fun U hU hW => ⟨rfl, by rw [hU], by rw [hU]; exact hP1, va_K.moved hW.alike hK1⟩⟩ rfl hn hsize hst (lv_room hW) hdg hf) hP hS hA kk
theorem cq_Vl {r : Int64} (S : CallFix p m c cc nL s args Ts own) (hM : pr_l l y ws rm D cl w1 tys (.ref b :: As) r) (cw : CallW R s args own C index y bytes maxL ret ws rm 0 0 n) (hK : va_K D cl tys0 s) (hP1 : va_P D cl w1 H) (hK1 : va_K D cl tys s) (q0 : Nat) (he : w0[q0]? = some (b, .inr (ci, fs))) (hc : cl[ci]? = some (C, T, N)) (hst : st0 = As.reverse ++ .ref b :: rest) (hn : As.length = n) (hsize : ls.size = nL) (hW : (rest.map fun v => v.category).sum ≤ 8) (hdg : decode cc pc = .ok (.invokevirtual index, 3)) (hf : cells ≤ R.cells ∧ slots ≤ R.slots)
    (hP : va_P D cl w0 H) (hS : va_S A H0 H locs) (hA : ∀ q, H0.size ≤ q → A q)
    (kk : ∀ (H : Heap) (locs : List Loc), va_P D cl w0 H → va_S A H0 H locs → W p l e R s m args below meth c H locs cells slots Q (F0 m (pc + 3) ls (.long r :: rest))) : W p l e R s m args below meth c H locs cells slots Q (F0 m pc ls st0) :=
  cq_l (va_runV (g := F0 m pc ls st0) S (hM H.size) cw ⟨fun a U g mk q => ⟨q.1, q.2.1, q.2.2.1, va_K.moved (u := U) (U := U.calling g mk a) (Vm.Alike.refl U.vm) q.2.2.2⟩, va_recv hK hP hc he, fun U hU hW => ⟨rfl, by rw [hU], by rw [hU]; exact hP1, va_K.moved hW.alike hK1⟩⟩ rfl hn hsize hst (lv_room hW) hdg hf) hP hS hA kk
/-- a call that turns the cells wc into W1; w2: the world behind it, in the caller's order -/
theorem cm_v {a : Array Value} {wc wr W1 w2 : va_W}
    (hr : va_Run p l e R s m args below meth c H locs cells slots 0 0 (F0 m pc ls st0) rest (va_Qv (fun (_ : Unit) => True) (fun _ t => va_P D cl W1 t.heap ∧ va_K D cl tys t ∧ va_D (va_A wc H.size) W1) (va_A wc H.size) a) (va_A wc H.size))
    (hP : va_P D cl w0 H) (hD : va_D A w0) (hS : va_S A H0 H locs) (hA : ∀ q, H0.size ≤ q → A q) (isC isR ord : List Nat) (hC : isC.map (fun i => w0[i]?) = wc.map some) (hRr : isR.map (fun i => w0[i]?) = wr.map some) (hn : va_nd isR = true) (hdis : ∀ i ∈ isR, i ∉ isC) (ho1 : ord.filterMap (fun i => (wr ++ W1)[i]?) = w2) (ho2 : ord.map (fun i => (wr ++ W1)[i]?) = w2.map some) (ho3 : va_nd ord = true)
    (kk : ∀ (H : Heap) (locs : List Loc), va_P D cl w2 H → va_D A w2 → va_S A H0 H locs → W p l e R s m args below meth c H locs cells slots Q (F0 m (pc + 3) ls (rest))) : W p l e R s m args below meth c H locs cells slots Q (F0 m pc ls st0) := by
  have hFc := va_free (wc := wc) hD hS hA isC hC
  refine va_callv hr hS (fun q _ h => hFc q h) hFc (fun u t H1 locs1 ht hvm hp hB hz hk hS1 => ?_)
  obtain ⟨hP1, hK1, hD1⟩ := hB
  rw [ht] at hP1
  obtain ⟨hP2, hD2⟩ := va_join hP hD isC isR hC hRr hn hdis hk hFc hP1 hD1
  exact kk H1 locs1 (hP2.sub ord ho1) (hD2.sub ord ho3 ho2) hS1
/-- a call that turns the cells wc into W1; w2: the world behind it, in the caller's order -/
theorem cm_i {r : Int32} {a : Array Value} {wc wr W1 w2 : va_W}
    (hr : va_Run p l e R s m args below meth c H locs cells slots 0 0 (F0 m pc ls st0) rest (va_Qi (fun x (_ : Unit) => x = r) (fun _ t => va_P D cl W1 t.heap ∧ va_K D cl tys t ∧ va_D (va_A wc H.size) W1) (va_A wc H.size) a) (va_A wc H.size))
    (hP : va_P D cl w0 H) (hD : va_D A w0) (hS : va_S A H0 H locs) (hA : ∀ q, H0.size ≤ q → A q) (isC isR ord : List Nat) (hC : isC.map (fun i => w0[i]?) = wc.map some) (hRr : isR.map (fun i => w0[i]?) = wr.map some) (hn : va_nd isR = true) (hdis : ∀ i ∈ isR, i ∉ isC) (ho1 : ord.filterMap (fun i => (wr ++ W1)[i]?) = w2) (ho2 : ord.map (fun i => (wr ++ W1)[i]?) = w2.map some) (ho3 : va_nd ord = true)
    (kk : ∀ (H : Heap) (locs : List Loc), va_P D cl w2 H → va_D A w2 → va_S A H0 H locs → W p l e R s m args below meth c H locs cells slots Q (F0 m (pc + 3) ls (.int r :: rest))) : W p l e R s m args below meth c H locs cells slots Q (F0 m pc ls st0) := by
  have hFc := va_free (wc := wc) hD hS hA isC hC
  refine va_calli hr hS (fun q _ h => hFc q h) hFc (fun x u t H1 locs1 ht hvm hp hB hz hk hS1 => ?_)
  obtain ⟨hP1, hK1, hD1⟩ := hB
  rw [ht] at hP1
  obtain ⟨hP2, hD2⟩ := va_join hP hD isC isR hC hRr hn hdis hk hFc hP1 hD1
  subst hp
  exact kk H1 locs1 (hP2.sub ord ho1) (hD2.sub ord ho3 ho2) hS1
/-- a call that turns the cells wc into W1; w2: the world behind it, in the caller's order -/
theorem cm_l {r : Int64} {a : Array Value} {wc wr W1 w2 : va_W}
    (hr : va_Run p l e R s m args below meth c H locs cells slots 0 0 (F0 m pc ls st0) rest (va_Ql (fun x (_ : Unit) => x = r) (fun _ t => va_P D cl W1 t.heap ∧ va_K D cl tys t ∧ va_D (va_A wc H.size) W1) (va_A wc H.size) a) (va_A wc H.size))
    (hP : va_P D cl w0 H) (hD : va_D A w0) (hS : va_S A H0 H locs) (hA : ∀ q, H0.size ≤ q → A q) (isC isR ord : List Nat) (hC : isC.map (fun i => w0[i]?) = wc.map some) (hRr : isR.map (fun i => w0[i]?) = wr.map some) (hn : va_nd isR = true) (hdis : ∀ i ∈ isR, i ∉ isC) (ho1 : ord.filterMap (fun i => (wr ++ W1)[i]?) = w2) (ho2 : ord.map (fun i => (wr ++ W1)[i]?) = w2.map some) (ho3 : va_nd ord = true)
    (kk : ∀ (H : Heap) (locs : List Loc), va_P D cl w2 H → va_D A w2 → va_S A H0 H locs → W p l e R s m args below meth c H locs cells slots Q (F0 m (pc + 3) ls (.long r :: rest))) : W p l e R s m args below meth c H locs cells slots Q (F0 m pc ls st0) := by
  have hFc := va_free (wc := wc) hD hS hA isC hC
  refine va_calll hr hS (fun q _ h => hFc q h) hFc (fun x u t H1 locs1 ht hvm hp hB hz hk hS1 => ?_)
  obtain ⟨hP1, hK1, hD1⟩ := hB
  rw [ht] at hP1
  obtain ⟨hP2, hD2⟩ := va_join hP hD isC isR hC hRr hn hdis hk hFc hP1 hD1
  subst hp
  exact kk H1 locs1 (hP2.sub ord ho1) (hD2.sub ord ho3 ho2) hS1
end
end
section
set_option maxRecDepth 20000 in
theorem in_S : ∀ w ∈ u_ws R_S F_S 9, w ∈ lw_w := by decide +kernel
set_option maxRecDepth 20000 in
theorem in_A : ∀ w ∈ u_ws R_A F_A 6, w ∈ lw_w := by decide +kernel
set_option maxRecDepth 20000 in
theorem in_M : ∀ w ∈ u_ws R_M F_M 11, w ∈ lw_w := by decide +kernel
set_option maxRecDepth 20000 in
theorem in_T : ∀ w ∈ u_ws R_T F_T 3, w ∈ lw_w := by decide +kernel
def jl_cmp (a : Int64) (b : Int64) : Int32 := (if 0 ≤ (lg_cmp a b) then (if (lg_cmp a b) = 0 then 0 else 1) else (-1))
set_option maxHeartbeats 4000000 in
set_option maxRecDepth 100000 in
theorem c_jl_cmp (l : Launch) (dC : Nat → ClassId) (dI : Nat → Nat → Nat) (a : Int64) (b : Int64) : pq_i l y_J_compare w_J_compare { frames := 0, cells := 0, slots := 0, locals := 0 } [.long a, .long b] (jl_cmp a b) := by
  intro sz
  refine Met.ofW (cc := b_J_compare) (maxL := 4) (ret := (some .int)) (by decide) rfl ?_
  intro p e s m args below meth c s₁ B hml hv
  obtain ⟨hargs, hsz⟩ := hv
  have hx := B.exec
  have hb := B.bytes
  have hr := B.returns
  have hts : ∀ w ∈ lw_w, w.before args s = true := fun w h => atoms_spec (ws := w_J_compare) B.pre w (List.mem_cons_of_mem _ h)
  have hown : s.vm.findClass R_J = some m.cls := findClass_of_methodNamed B.named
  have hlocks := B.notSynchronized
  subst hsz
  generalize hR : (headSpec w_J_compare { frames := 0, cells := 0, slots := 0, locals := 0 }).room = R
  generalize hAe : (fun q : Nat => s.heap.size ≤ q) = A
  have hA : ∀ q : Nat, s.heap.size ≤ q → A q := fun q h => by rw [← hAe]; exact h
  have hS : va_S A s.heap s.heap [] := va_S.rf
  have hP : va_P (dC, dI) cls9 [] s.heap := fun k q h => by cases h
  generalize hRES : jl_cmp a b = RES
  have hres := hRES
  replace hRES := hRES.symm
  have hl := lv_entry [.long a, .long b] (n := 4) (Nat.le_of_ble_eq_true rfl)
  have hent : entryFrame m args 4 = F0 m 0 (lg_sl [.long a, .long b] ++ List.replicate (4 - (lg_sl [.long a, .long b]).length) Slot.unset).toArray [] := by rw [hargs]; exact lg_entry_eq m [.long a, .long b] 4
  rw [hent]
  clear hent
  generalize (lg_sl [.long a, .long b] ++ List.replicate (4 - (lg_sl [.long a, .long b]).length) Slot.unset).toArray = ls at hl ⊢
  have hl : lv_has ls 4 [(0, .long a), (2, .long b)] := hl
  unfold jl_cmp at hres
  generalize hQ : MQ below (va_Qi (fun x (_ : Unit) => x = RES) (fun _ _ => True) A) args s 0 0 A = Q
  replace hQ := hQ.symm
  refine lv_lload_n hx hb d_J_compare_0 rfl (lv_at hl 0 rfl) ?_
  refine lv_lload_n hx hb d_J_compare_1 rfl (lv_at hl 1 rfl) ?_
  refine W.lcmp hx hb d_J_compare_2 ?_
  refine lv_if_ge (tgt := 10) hx hb d_J_compare_3 rfl (fun h3 => ?_) (fun h3 => ?_)
  · rw [if_pos h3] at hres
    refine lv_lload_n hx hb d_J_compare_10 rfl (lv_at hl 0 rfl) ?_
    refine lv_lload_n hx hb d_J_compare_11 rfl (lv_at hl 1 rfl) ?_
    refine W.lcmp hx hb d_J_compare_12 ?_
    refine lv_if_ne (tgt := 20) hx hb d_J_compare_13 rfl (fun h13 => ?_) (fun h13 => ?_)
    · rw [if_neg h13] at hres
      refine lv_iconst (v := 1) hx hb d_J_compare_20 (by decide) ?_
      rw [hQ]
      exact W.iret (v := 1) hx hb hr (fun t ht hW => ⟨⟨_, (), rfl, hres, trivial⟩, hS.F ht⟩) hS.2.2 d_J_compare_21
    · rw [if_pos h13] at hres
      refine lv_iconst (v := 0) hx hb d_J_compare_16 (by decide) ?_
      refine lv_goto (tgt := 21) hx hb d_J_compare_17 rfl ?_
      rw [hQ]
      exact W.iret (v := 0) hx hb hr (fun t ht hW => ⟨⟨_, (), rfl, hres, trivial⟩, hS.F ht⟩) hS.2.2 d_J_compare_21
  · rw [if_neg h3] at hres
    refine lv_iconst (v := (-1)) hx hb d_J_compare_6 (by decide) ?_
    refine lv_goto (tgt := 21) hx hb d_J_compare_7 rfl ?_
    rw [hQ]
    exact W.iret (v := (-1)) hx hb hr (fun t ht hW => ⟨⟨_, (), rfl, hres, trivial⟩, hS.F ht⟩) hS.2.2 d_J_compare_21
def ji_cmp (a : Int32) (b : Int32) : Int32 := (if b ≤ a then (if a = b then 0 else 1) else (-1))
set_option maxHeartbeats 4000000 in
set_option maxRecDepth 100000 in
theorem c_ji_cmp (l : Launch) (dC : Nat → ClassId) (dI : Nat → Nat → Nat) (a : Int32) (b : Int32) : pq_i l y_I_compare w_I_compare { frames := 0, cells := 0, slots := 0, locals := 0 } [.int a, .int b] (ji_cmp a b) := by
  intro sz
  refine Met.ofW (cc := b_I_compare) (maxL := 2) (ret := (some .int)) (by decide) rfl ?_
  intro p e s m args below meth c s₁ B hml hv
  obtain ⟨hargs, hsz⟩ := hv
  have hx := B.exec
  have hb := B.bytes
  have hr := B.returns
  have hts : ∀ w ∈ lw_w, w.before args s = true := fun w h => atoms_spec (ws := w_I_compare) B.pre w (List.mem_cons_of_mem _ h)
  have hown : s.vm.findClass R_I = some m.cls := findClass_of_methodNamed B.named
  have hlocks := B.notSynchronized
  subst hsz
  generalize hR : (headSpec w_I_compare { frames := 0, cells := 0, slots := 0, locals := 0 }).room = R
  generalize hAe : (fun q : Nat => s.heap.size ≤ q) = A
  have hA : ∀ q : Nat, s.heap.size ≤ q → A q := fun q h => by rw [← hAe]; exact h
  have hS : va_S A s.heap s.heap [] := va_S.rf
  have hP : va_P (dC, dI) cls9 [] s.heap := fun k q h => by cases h
  generalize hRES : ji_cmp a b = RES
  have hres := hRES
  replace hRES := hRES.symm
  have hl := lv_entry [.int a, .int b] (n := 2) (Nat.le_of_ble_eq_true rfl)
  have hent : entryFrame m args 2 = F0 m 0 (lg_sl [.int a, .int b] ++ List.replicate (2 - (lg_sl [.int a, .int b]).length) Slot.unset).toArray [] := by rw [hargs]; exact lg_entry_eq m [.int a, .int b] 2
  rw [hent]
  clear hent
  generalize (lg_sl [.int a, .int b] ++ List.replicate (2 - (lg_sl [.int a, .int b]).length) Slot.unset).toArray = ls at hl ⊢
  have hl : lv_has ls 2 [(0, .int a), (1, .int b)] := hl
  unfold ji_cmp at hres
  generalize hQ : MQ below (va_Qi (fun x (_ : Unit) => x = RES) (fun _ _ => True) A) args s 0 0 A = Q
  replace hQ := hQ.symm
  refine lv_iload_n hx hb d_I_compare_0 rfl (lv_at hl 0 rfl) ?_
  refine lv_iload_n hx hb d_I_compare_1 rfl (lv_at hl 1 rfl) ?_
  refine lv_icmp_ge (tgt := 9) hx hb d_I_compare_2 rfl (fun h2 => ?_) (fun h2 => ?_)
  · rw [if_pos h2] at hres
    refine lv_iload_n hx hb d_I_compare_9 rfl (lv_at hl 0 rfl) ?_
    refine lv_iload_n hx hb d_I_compare_10 rfl (lv_at hl 1 rfl) ?_
    refine lv_icmp_ne (tgt := 18) hx hb d_I_compare_11 rfl (fun h11 => ?_) (fun h11 => ?_)
    · rw [if_neg h11] at hres
      refine lv_iconst (v := 1) hx hb d_I_compare_18 (by decide) ?_
      rw [hQ]
      exact W.iret (v := 1) hx hb hr (fun t ht hW => ⟨⟨_, (), rfl, hres, trivial⟩, hS.F ht⟩) hS.2.2 d_I_compare_19
    · rw [if_pos h11] at hres
      refine lv_iconst (v := 0) hx hb d_I_compare_14 (by decide) ?_
      refine lv_goto (tgt := 19) hx hb d_I_compare_15 rfl ?_
      rw [hQ]
      exact W.iret (v := 0) hx hb hr (fun t ht hW => ⟨⟨_, (), rfl, hres, trivial⟩, hS.F ht⟩) hS.2.2 d_I_compare_19
  · rw [if_neg h2] at hres
    refine lv_iconst (v := (-1)) hx hb d_I_compare_5 (by decide) ?_
    refine lv_goto (tgt := 19) hx hb d_I_compare_6 rfl ?_
    rw [hQ]
    exact W.iret (v := (-1)) hx hb hr (fun t ht hW => ⟨⟨_, (), rfl, hres, trivial⟩, hS.F ht⟩) hS.2.2 d_I_compare_19
def ka_turn (a : Int64) (b : Int64) (c0 : Int64) (d : Int64) : Int64 := ((a * d) - (b * c0))
set_option maxHeartbeats 4000000 in
set_option maxRecDepth 100000 in
theorem c_ka_turn (l : Launch) (dC : Nat → ClassId) (dI : Nat → Nat → Nat) (a : Int64) (b : Int64) (c0 : Int64) (d : Int64) : pq_l l y_A_turn w_A_turn { frames := 0, cells := 0, slots := 0, locals := 0 } [.long a, .long b, .long c0, .long d] (ka_turn a b c0 d) := by
  intro sz
  refine Met.ofW (cc := b_A_turn) (maxL := 8) (ret := (some .long)) (by decide) rfl ?_
  intro p e s m args below meth c s₁ B hml hv
  obtain ⟨hargs, hsz⟩ := hv
  have hx := B.exec
  have hb := B.bytes
  have hr := B.returns
  have hts : ∀ w ∈ lw_w, w.before args s = true := fun w h => atoms_spec (ws := w_A_turn) B.pre w (List.mem_cons_of_mem _ h)
  have hown : s.vm.findClass R_A = some m.cls := findClass_of_methodNamed B.named
  have hlocks := B.notSynchronized
  subst hsz
  generalize hR : (headSpec w_A_turn { frames := 0, cells := 0, slots := 0, locals := 0 }).room = R
  generalize hAe : (fun q : Nat => s.heap.size ≤ q) = A
  have hA : ∀ q : Nat, s.heap.size ≤ q → A q := fun q h => by rw [← hAe]; exact h
  have hS : va_S A s.heap s.heap [] := va_S.rf
  have hP : va_P (dC, dI) cls9 [] s.heap := fun k q h => by cases h
  generalize hRES : ka_turn a b c0 d = RES
  have hres := hRES
  replace hRES := hRES.symm
  have hl := lv_entry [.long a, .long b, .long c0, .long d] (n := 8) (Nat.le_of_ble_eq_true rfl)
  have hent : entryFrame m args 8 = F0 m 0 (lg_sl [.long a, .long b, .long c0, .long d] ++ List.replicate (8 - (lg_sl [.long a, .long b, .long c0, .long d]).length) Slot.unset).toArray [] := by rw [hargs]; exact lg_entry_eq m [.long a, .long b, .long c0, .long d] 8
  rw [hent]
  clear hent
  generalize (lg_sl [.long a, .long b, .long c0, .long d] ++ List.replicate (8 - (lg_sl [.long a, .long b, .long c0, .long d]).length) Slot.unset).toArray = ls at hl ⊢
  have hl : lv_has ls 8 [(0, .long a), (2, .long b), (4, .long c0), (6, .long d)] := hl
  unfold ka_turn at hres
  generalize hQ : MQ below (va_Ql (fun x (_ : Unit) => x = RES) (fun _ _ => True) A) args s 0 0 A = Q
  replace hQ := hQ.symm
  refine lv_lload_n hx hb d_A_turn_0 rfl (lv_at hl 0 rfl) ?_
  refine lv_lload hx hb d_A_turn_1 (lv_at hl 3 rfl) ?_
  refine lv_lmul hx hb d_A_turn_3 ?_
  refine lv_lload_n hx hb d_A_turn_4 rfl (lv_at hl 1 rfl) ?_
  refine lv_lload hx hb d_A_turn_5 (lv_at hl 2 rfl) ?_
  refine lv_lmul hx hb d_A_turn_7 ?_
  refine lv_lsub hx hb d_A_turn_8 ?_
  rw [hQ]
  exact W.lret (v := (a * d) - (b * c0)) hx hb hr (fun t ht hW => ⟨⟨_, (), rfl, hres, trivial⟩, hS.F ht⟩) hS.2.2 d_A_turn_9
def ka_high (a : Int64) (b : Int64) : Int64 := (((jv_lshr a 20) * b) + (jv_lshr ((a &&& 1048575) * b) 20))
set_option maxHeartbeats 4000000 in
set_option maxRecDepth 100000 in
theorem c_ka_high (l : Launch) (dC : Nat → ClassId) (dI : Nat → Nat → Nat) (a : Int64) (b : Int64) : pq_l l y_A_highPart w_A_highPart { frames := 0, cells := 0, slots := 0, locals := 0 } [.long a, .long b] (ka_high a b) := by
  intro sz
  refine Met.ofW (cc := b_A_highPart) (maxL := 4) (ret := (some .long)) (by decide) rfl ?_
  intro p e s m args below meth c s₁ B hml hv
  obtain ⟨hargs, hsz⟩ := hv
  have hx := B.exec
  have hb := B.bytes
  have hr := B.returns
  have hts : ∀ w ∈ lw_w, w.before args s = true := fun w h => atoms_spec (ws := w_A_highPart) B.pre w (List.mem_cons_of_mem _ h)
  have hown : s.vm.findClass R_A = some m.cls := findClass_of_methodNamed B.named
  have hlocks := B.notSynchronized
  subst hsz
  generalize hR : (headSpec w_A_highPart { frames := 0, cells := 0, slots := 0, locals := 0 }).room = R
  generalize hAe : (fun q : Nat => s.heap.size ≤ q) = A
  have hA : ∀ q : Nat, s.heap.size ≤ q → A q := fun q h => by rw [← hAe]; exact h
  have hS : va_S A s.heap s.heap [] := va_S.rf
  have hP : va_P (dC, dI) cls9 [] s.heap := fun k q h => by cases h
  generalize hRES : ka_high a b = RES
  have hres := hRES
  replace hRES := hRES.symm
  have hl := lv_entry [.long a, .long b] (n := 4) (Nat.le_of_ble_eq_true rfl)
  have hent : entryFrame m args 4 = F0 m 0 (lg_sl [.long a, .long b] ++ List.replicate (4 - (lg_sl [.long a, .long b]).length) Slot.unset).toArray [] := by rw [hargs]; exact lg_entry_eq m [.long a, .long b] 4
  rw [hent]
  clear hent
  generalize (lg_sl [.long a, .long b] ++ List.replicate (4 - (lg_sl [.long a, .long b]).length) Slot.unset).toArray = ls at hl ⊢
  have hl : lv_has ls 4 [(0, .long a), (2, .long b)] := hl
  unfold ka_high at hres
  generalize hQ : MQ below (va_Ql (fun x (_ : Unit) => x = RES) (fun _ _ => True) A) args s 0 0 A = Q
  replace hQ := hQ.symm
  refine lv_lload_n hx hb d_A_highPart_0 rfl (lv_at hl 0 rfl) ?_
  refine lv_bipush (v := 20) hx hb d_A_highPart_1 (by decide) ?_
  refine lv_lshr (v := jv_lshr a 20) hx hb d_A_highPart_3 rfl ?_
  refine lv_lload_n hx hb d_A_highPart_4 rfl (lv_at hl 1 rfl) ?_
  refine lv_lmul hx hb d_A_highPart_5 ?_
  refine lv_lload_n hx hb d_A_highPart_6 rfl (lv_at hl 0 rfl) ?_
  refine lv_ldc2 (v := 1048575) hx hb hown (hts _ tw_250) d_A_highPart_7 ?_
  refine lv_land hx hb d_A_highPart_10 ?_
  refine lv_lload_n hx hb d_A_highPart_11 rfl (lv_at hl 1 rfl) ?_
  refine lv_lmul hx hb d_A_highPart_12 ?_
  refine lv_bipush (v := 20) hx hb d_A_highPart_13 (by decide) ?_
  refine lv_lshr (v := jv_lshr ((a &&& 1048575) * b) 20) hx hb d_A_highPart_15 rfl ?_
  refine lv_ladd hx hb d_A_highPart_16 ?_
  rw [hQ]
  exact W.lret (v := ((jv_lshr a 20) * b) + (jv_lshr ((a &&& 1048575) * b) 20)) hx hb hr (fun t ht hW => ⟨⟨_, (), rfl, hres, trivial⟩, hS.F ht⟩) hS.2.2 d_A_highPart_17
def ka_low (a : Int64) (b : Int64) : Int64 := (((a &&& 1048575) * b) &&& 1048575)
set_option maxHeartbeats 4000000 in
set_option maxRecDepth 100000 in
theorem c_ka_low (l : Launch) (dC : Nat → ClassId) (dI : Nat → Nat → Nat) (a : Int64) (b : Int64) : pq_l l y_A_lowPart w_A_lowPart { frames := 0, cells := 0, slots := 0, locals := 0 } [.long a, .long b] (ka_low a b) := by
  intro sz
  refine Met.ofW (cc := b_A_lowPart) (maxL := 4) (ret := (some .long)) (by decide) rfl ?_
  intro p e s m args below meth c s₁ B hml hv
  obtain ⟨hargs, hsz⟩ := hv
  have hx := B.exec
  have hb := B.bytes
  have hr := B.returns
  have hts : ∀ w ∈ lw_w, w.before args s = true := fun w h => atoms_spec (ws := w_A_lowPart) B.pre w (List.mem_cons_of_mem _ h)
  have hown : s.vm.findClass R_A = some m.cls := findClass_of_methodNamed B.named
  have hlocks := B.notSynchronized
  subst hsz
  generalize hR : (headSpec w_A_lowPart { frames := 0, cells := 0, slots := 0, locals := 0 }).room = R
  generalize hAe : (fun q : Nat => s.heap.size ≤ q) = A
  have hA : ∀ q : Nat, s.heap.size ≤ q → A q := fun q h => by rw [← hAe]; exact h
  have hS : va_S A s.heap s.heap [] := va_S.rf
  have hP : va_P (dC, dI) cls9 [] s.heap := fun k q h => by cases h
  generalize hRES : ka_low a b = RES
  have hres := hRES
  replace hRES := hRES.symm
  have hl := lv_entry [.long a, .long b] (n := 4) (Nat.le_of_ble_eq_true rfl)
  have hent : entryFrame m args 4 = F0 m 0 (lg_sl [.long a, .long b] ++ List.replicate (4 - (lg_sl [.long a, .long b]).length) Slot.unset).toArray [] := by rw [hargs]; exact lg_entry_eq m [.long a, .long b] 4
  rw [hent]
  clear hent
  generalize (lg_sl [.long a, .long b] ++ List.replicate (4 - (lg_sl [.long a, .long b]).length) Slot.unset).toArray = ls at hl ⊢
  have hl : lv_has ls 4 [(0, .long a), (2, .long b)] := hl
  unfold ka_low at hres
  generalize hQ : MQ below (va_Ql (fun x (_ : Unit) => x = RES) (fun _ _ => True) A) args s 0 0 A = Q
  replace hQ := hQ.symm
  refine lv_lload_n hx hb d_A_lowPart_0 rfl (lv_at hl 0 rfl) ?_
  refine lv_ldc2 (v := 1048575) hx hb hown (hts _ tw_250) d_A_lowPart_1 ?_
  refine lv_land hx hb d_A_lowPart_4 ?_
  refine lv_lload_n hx hb d_A_lowPart_5 rfl (lv_at hl 1 rfl) ?_
  refine lv_lmul hx hb d_A_lowPart_6 ?_
  refine lv_ldc2 (v := 1048575) hx hb hown (hts _ tw_250) d_A_lowPart_7 ?_
  refine lv_land hx hb d_A_lowPart_10 ?_
  rw [hQ]
  exact W.lret (v := ((a &&& 1048575) * b) &&& 1048575) hx hb hr (fun t ht hW => ⟨⟨_, (), rfl, hres, trivial⟩, hS.F ht⟩) hS.2.2 d_A_lowPart_11
def ka_cmp (a : Int64) (b : Int64) (c0 : Int64) (d : Int64) : Int32 := (if (jl_cmp (ka_high a b) (ka_high c0 d)) = 0 then (jl_cmp (ka_low a b) (ka_low c0 d)) else (jl_cmp (ka_high a b) (ka_high c0 d)))
set_option maxHeartbeats 4000000 in
set_option maxRecDepth 100000 in
theorem c_ka_cmp (l : Launch) (dC : Nat → ClassId) (dI : Nat → Nat → Nat) (a : Int64) (b : Int64) (c0 : Int64) (d : Int64) : pq_i l y_A_compareProducts w_A_compareProducts { frames := 1, cells := 0, slots := 0, locals := 23 } [.long a, .long b, .long c0, .long d] (ka_cmp a b c0 d) := by
  intro sz
  refine Met.ofW (cc := b_A_compareProducts) (maxL := 9) (ret := (some .int)) (by decide) rfl ?_
  intro p e s m args below meth c s₁ B hml hv
  obtain ⟨hargs, hsz⟩ := hv
  have hx := B.exec
  have hb := B.bytes
  have hr := B.returns
  have hts : ∀ w ∈ lw_w, w.before args s = true := fun w h => atoms_spec (ws := w_A_compareProducts) B.pre w (List.mem_cons_of_mem _ h)
  have hown : s.vm.findClass R_A = some m.cls := findClass_of_methodNamed B.named
  have hlocks := B.notSynchronized
  subst hsz
  generalize hR : (headSpec w_A_compareProducts { frames := 1, cells := 0, slots := 0, locals := 23 }).room = R
  generalize hAe : (fun q : Nat => s.heap.size ≤ q) = A
  have hA : ∀ q : Nat, s.heap.size ≤ q → A q := fun q h => by rw [← hAe]; exact h
  have hS : va_S A s.heap s.heap [] := va_S.rf
  have hP : va_P (dC, dI) cls9 [] s.heap := fun k q h => by cases h
  generalize hRES : ka_cmp a b c0 d = RES
  have hres := hRES
  replace hRES := hRES.symm
  have hl := lv_entry [.long a, .long b, .long c0, .long d] (n := 9) (Nat.le_of_ble_eq_true rfl)
  have hent : entryFrame m args 9 = F0 m 0 (lg_sl [.long a, .long b, .long c0, .long d] ++ List.replicate (9 - (lg_sl [.long a, .long b, .long c0, .long d]).length) Slot.unset).toArray [] := by rw [hargs]; exact lg_entry_eq m [.long a, .long b, .long c0, .long d] 9
  rw [hent]
  clear hent
  generalize (lg_sl [.long a, .long b, .long c0, .long d] ++ List.replicate (9 - (lg_sl [.long a, .long b, .long c0, .long d]).length) Slot.unset).toArray = ls at hl ⊢
  have hl : lv_has ls 9 [(0, .long a), (2, .long b), (4, .long c0), (6, .long d)] := hl
  unfold ka_cmp at hres
  generalize hQ : MQ below (va_Qi (fun x (_ : Unit) => x = RES) (fun _ _ => True) A) args s 0 0 A = Q
  replace hQ := hQ.symm
  refine lv_lload_n hx hb d_A_compareProducts_0 rfl (lv_at hl 0 rfl) ?_
  refine lv_lload_n hx hb d_A_compareProducts_1 rfl (lv_at hl 1 rfl) ?_
  refine cq_Sl (As := [.long a, .long b]) (rest := []) ⟨hx, hb, hml, hown, hts⟩ (c_ka_high l dC dI a b) (va_cwS 2 hts (gi_S tw_247 tw_248 tw_7 tw_249) rfl rfl rfl (by decide +kernel) ⟨(by rw [← hR]; exact Nat.le_of_ble_eq_true rfl), (by rw [← hR]; exact Nat.le_of_ble_eq_true rfl)⟩) rfl rfl hl.1 (Nat.le_of_ble_eq_true rfl) d_A_compareProducts_2 ⟨Nat.zero_le _, Nat.zero_le _⟩ hP hS hA (fun H locs hP hS => ?_)
  refine lv_lload hx hb d_A_compareProducts_5 (lv_at hl 2 rfl) ?_
  refine lv_lload hx hb d_A_compareProducts_7 (lv_at hl 3 rfl) ?_
  refine cq_Sl (As := [.long c0, .long d]) (rest := [.long (ka_high a b)]) ⟨hx, hb, hml, hown, hts⟩ (c_ka_high l dC dI c0 d) (va_cwS 2 hts (gi_S tw_247 tw_248 tw_7 tw_249) rfl rfl rfl (by decide +kernel) ⟨(by rw [← hR]; exact Nat.le_of_ble_eq_true rfl), (by rw [← hR]; exact Nat.le_of_ble_eq_true rfl)⟩) rfl rfl hl.1 (Nat.le_of_ble_eq_true rfl) d_A_compareProducts_9 ⟨Nat.zero_le _, Nat.zero_le _⟩ hP hS hA (fun H locs hP hS => ?_)
  refine cq_Si (As := [.long (ka_high a b), .long (ka_high c0 d)]) (rest := []) ⟨hx, hb, hml, hown, hts⟩ (c_jl_cmp l dC dI (ka_high a b) (ka_high c0 d)) (va_cwS 2 hts (gi_S tw_219 tw_220 tw_13 tw_221) rfl rfl rfl (by decide +kernel) ⟨(by rw [← hR]; exact Nat.le_of_ble_eq_true rfl), (by rw [← hR]; exact Nat.le_of_ble_eq_true rfl)⟩) rfl rfl hl.1 (Nat.le_of_ble_eq_true rfl) d_A_compareProducts_12 ⟨Nat.zero_le _, Nat.zero_le _⟩ hP hS hA (fun H locs hP hS => ?_)
  refine lv_istore (lv' := [(8, .int (jl_cmp (ka_high a b) (ka_high c0 d))), (0, .long a), (2, .long b), (4, .long c0), (6, .long d)]) hx hb d_A_compareProducts_15 hl (by decide) rfl (fun ls hl => ?_)
  refine lv_iload hx hb d_A_compareProducts_17 (lv_at hl 0 rfl) ?_
  refine lv_if_eq (tgt := 27) hx hb d_A_compareProducts_19 rfl (fun h19 => ?_) (fun h19 => ?_)
  · rw [if_pos h19] at hres
    refine lv_lload_n hx hb d_A_compareProducts_27 rfl (lv_at hl 1 rfl) ?_
    refine lv_lload_n hx hb d_A_compareProducts_28 rfl (lv_at hl 2 rfl) ?_
    refine cq_Sl (As := [.long a, .long b]) (rest := []) ⟨hx, hb, hml, hown, hts⟩ (c_ka_low l dC dI a b) (va_cwS 2 hts (gi_S tw_251 tw_252 tw_7 tw_253) rfl rfl rfl (by decide +kernel) ⟨(by rw [← hR]; exact Nat.le_of_ble_eq_true rfl), (by rw [← hR]; exact Nat.le_of_ble_eq_true rfl)⟩) rfl rfl hl.1 (Nat.le_of_ble_eq_true rfl) d_A_compareProducts_29 ⟨Nat.zero_le _, Nat.zero_le _⟩ hP hS hA (fun H locs hP hS => ?_)
    refine lv_lload hx hb d_A_compareProducts_32 (lv_at hl 3 rfl) ?_
    refine lv_lload hx hb d_A_compareProducts_34 (lv_at hl 4 rfl) ?_
    refine cq_Sl (As := [.long c0, .long d]) (rest := [.long (ka_low a b)]) ⟨hx, hb, hml, hown, hts⟩ (c_ka_low l dC dI c0 d) (va_cwS 2 hts (gi_S tw_251 tw_252 tw_7 tw_253) rfl rfl rfl (by decide +kernel) ⟨(by rw [← hR]; exact Nat.le_of_ble_eq_true rfl), (by rw [← hR]; exact Nat.le_of_ble_eq_true rfl)⟩) rfl rfl hl.1 (Nat.le_of_ble_eq_true rfl) d_A_compareProducts_36 ⟨Nat.zero_le _, Nat.zero_le _⟩ hP hS hA (fun H locs hP hS => ?_)
    refine cq_Si (As := [.long (ka_low a b), .long (ka_low c0 d)]) (rest := []) ⟨hx, hb, hml, hown, hts⟩ (c_jl_cmp l dC dI (ka_low a b) (ka_low c0 d)) (va_cwS 2 hts (gi_S tw_219 tw_220 tw_13 tw_221) rfl rfl rfl (by decide +kernel) ⟨(by rw [← hR]; exact Nat.le_of_ble_eq_true rfl), (by rw [← hR]; exact Nat.le_of_ble_eq_true rfl)⟩) rfl rfl hl.1 (Nat.le_of_ble_eq_true rfl) d_A_compareProducts_39 ⟨Nat.zero_le _, Nat.zero_le _⟩ hP hS hA (fun H locs hP hS => ?_)
    rw [hQ]
    exact W.iret (v := jl_cmp (ka_low a b) (ka_low c0 d)) hx hb hr (fun t ht hW => ⟨⟨_, (), rfl, hres, trivial⟩, hS.F ht⟩) hS.2.2 d_A_compareProducts_42
  · rw [if_neg h19] at hres
    refine lv_iload hx hb d_A_compareProducts_22 (lv_at hl 0 rfl) ?_
    refine lv_goto (tgt := 42) hx hb d_A_compareProducts_24 rfl ?_
    rw [hQ]
    exact W.iret (v := jl_cmp (ka_high a b) (ka_high c0 d)) hx hb hr (fun t ht hW => ⟨⟨_, (), rfl, hres, trivial⟩, hS.F ht⟩) hS.2.2 d_A_compareProducts_42
def ka_rz (a : Int64) (b : Int64) (c0 : Int64) : Int32 := (if (jl_cmp a 0) = 0 then 1 else (if (jl_cmp c0 0) = (jl_cmp a 0) then (if (jl_cmp b 0) = (-(jl_cmp a 0)) then (if (lg_cmp (b * b) (a * c0)) < 0 then 0 else 1) else 0) else 1))
set_option maxHeartbeats 4000000 in
set_option maxRecDepth 100000 in
theorem c_ka_rz (l : Launch) (dC : Nat → ClassId) (dI : Nat → Nat → Nat) (a : Int64) (b : Int64) (c0 : Int64) : pq_i l y_A_reachesZero w_A_reachesZero { frames := 1, cells := 0, slots := 0, locals := 23 } [.long a, .long b, .long c0] (ka_rz a b c0) := by
  intro sz
  refine Met.ofW (cc := b_A_reachesZero) (maxL := 7) (ret := (some .boolean)) (by decide) rfl ?_
  intro p e s m args below meth c s₁ B hml hv
  obtain ⟨hargs, hsz⟩ := hv
  have hx := B.exec
  have hb := B.bytes
  have hr := B.returns
  have hts : ∀ w ∈ lw_w, w.before args s = true := fun w h => atoms_spec (ws := w_A_reachesZero) B.pre w (List.mem_cons_of_mem _ h)
  have hown : s.vm.findClass R_A = some m.cls := findClass_of_methodNamed B.named
  have hlocks := B.notSynchronized
  subst hsz
  generalize hR : (headSpec w_A_reachesZero { frames := 1, cells := 0, slots := 0, locals := 23 }).room = R
  generalize hAe : (fun q : Nat => s.heap.size ≤ q) = A
  have hA : ∀ q : Nat, s.heap.size ≤ q → A q := fun q h => by rw [← hAe]; exact h
  have hS : va_S A s.heap s.heap [] := va_S.rf
  have hP : va_P (dC, dI) cls9 [] s.heap := fun k q h => by cases h
  generalize hRES : ka_rz a b c0 = RES
  have hres := hRES
  replace hRES := hRES.symm
  have hl := lv_entry [.long a, .long b, .long c0] (n := 7) (Nat.le_of_ble_eq_true rfl)
  have hent : entryFrame m args 7 = F0 m 0 (lg_sl [.long a, .long b, .long c0] ++ List.replicate (7 - (lg_sl [.long a, .long b, .long c0]).length) Slot.unset).toArray [] := by rw [hargs]; exact lg_entry_eq m [.long a, .long b, .long c0] 7
  rw [hent]
  clear hent
  generalize (lg_sl [.long a, .long b, .long c0] ++ List.replicate (7 - (lg_sl [.long a, .long b, .long c0]).length) Slot.unset).toArray = ls at hl ⊢
  have hl : lv_has ls 7 [(0, .long a), (2, .long b), (4, .long c0)] := hl
  unfold ka_rz at hres
  generalize hQ : MQ below (va_Qi (fun x (_ : Unit) => x = RES) (fun _ _ => True) A) args s 0 0 A = Q
  replace hQ := hQ.symm
  refine lv_lload_n hx hb d_A_reachesZero_0 rfl (lv_at hl 0 rfl) ?_
  refine lv_lconst (v := 0) hx hb d_A_reachesZero_1 (by decide) ?_
  refine cq_Si (As := [.long a, .long 0]) (rest := []) ⟨hx, hb, hml, hown, hts⟩ (c_jl_cmp l dC dI a 0) (va_cwS 2 hts (gi_S tw_219 tw_220 tw_13 tw_221) rfl rfl rfl (by decide +kernel) ⟨(by rw [← hR]; exact Nat.le_of_ble_eq_true rfl), (by rw [← hR]; exact Nat.le_of_ble_eq_true rfl)⟩) rfl rfl hl.1 (Nat.le_of_ble_eq_true rfl) d_A_reachesZero_2 ⟨Nat.zero_le _, Nat.zero_le _⟩ hP hS hA (fun H locs hP hS => ?_)
  refine lv_istore (lv' := [(6, .int (jl_cmp a 0)), (0, .long a), (2, .long b), (4, .long c0)]) hx hb d_A_reachesZero_5 hl (by decide) rfl (fun ls hl => ?_)
  refine lv_iload hx hb d_A_reachesZero_7 (lv_at hl 0 rfl) ?_
  refine lv_if_eq (tgt := 23) hx hb d_A_reachesZero_9 rfl (fun h9 => ?_) (fun h9 => ?_)
  · rw [if_pos h9] at hres
    refine lv_iconst (v := 1) hx hb d_A_reachesZero_23 (by decide) ?_
    rw [hQ]
    exact W.zret (v := 1) hx hb hr (by first | rfl | decide) (fun t ht hW => ⟨⟨_, (), rfl, hres, trivial⟩, hS.F ht⟩) hS.2.2 d_A_reachesZero_24
  · rw [if_neg h9] at hres
    refine lv_lload hx hb d_A_reachesZero_12 (lv_at hl 3 rfl) ?_
    refine lv_lconst (v := 0) hx hb d_A_reachesZero_14 (by decide) ?_
    refine cq_Si (As := [.long c0, .long 0]) (rest := []) ⟨hx, hb, hml, hown, hts⟩ (c_jl_cmp l dC dI c0 0) (va_cwS 2 hts (gi_S tw_219 tw_220 tw_13 tw_221) rfl rfl rfl (by decide +kernel) ⟨(by rw [← hR]; exact Nat.le_of_ble_eq_true rfl), (by rw [← hR]; exact Nat.le_of_ble_eq_true rfl)⟩) rfl rfl hl.1 (Nat.le_of_ble_eq_true rfl) d_A_reachesZero_15 ⟨Nat.zero_le _, Nat.zero_le _⟩ hP hS hA (fun H locs hP hS => ?_)
    refine lv_iload hx hb d_A_reachesZero_18 (lv_at hl 0 rfl) ?_
    refine lv_icmp_eq (tgt := 25) hx hb d_A_reachesZero_20 rfl (fun h20 => ?_) (fun h20 => ?_)
    · rw [if_pos h20] at hres
      refine lv_lload_n hx hb d_A_reachesZero_25 rfl (lv_at hl 2 rfl) ?_
      refine lv_lconst (v := 0) hx hb d_A_reachesZero_26 (by decide) ?_
      refine cq_Si (As := [.long b, .long 0]) (rest := []) ⟨hx, hb, hml, hown, hts⟩ (c_jl_cmp l dC dI b 0) (va_cwS 2 hts (gi_S tw_219 tw_220 tw_13 tw_221) rfl rfl rfl (by decide +kernel) ⟨(by rw [← hR]; exact Nat.le_of_ble_eq_true rfl), (by rw [← hR]; exact Nat.le_of_ble_eq_true rfl)⟩) rfl rfl hl.1 (Nat.le_of_ble_eq_true rfl) d_A_reachesZero_27 ⟨Nat.zero_le _, Nat.zero_le _⟩ hP hS hA (fun H locs hP hS => ?_)
      refine lv_iload hx hb d_A_reachesZero_30 (lv_at hl 0 rfl) ?_
      refine lv_ineg hx hb d_A_reachesZero_32 ?_
      refine lv_icmp_ne (tgt := 51) hx hb d_A_reachesZero_33 rfl (fun h33 => ?_) (fun h33 => ?_)
      · rw [if_neg h33] at hres
        refine lv_iconst (v := 0) hx hb d_A_reachesZero_51 (by decide) ?_
        rw [hQ]
        exact W.zret (v := 0) hx hb hr (by first | rfl | decide) (fun t ht hW => ⟨⟨_, (), rfl, hres, trivial⟩, hS.F ht⟩) hS.2.2 d_A_reachesZero_52
      · rw [if_pos h33] at hres
        refine lv_lload_n hx hb d_A_reachesZero_36 rfl (lv_at hl 2 rfl) ?_
        refine lv_lload_n hx hb d_A_reachesZero_37 rfl (lv_at hl 2 rfl) ?_
        refine lv_lmul hx hb d_A_reachesZero_38 ?_
        refine lv_lload_n hx hb d_A_reachesZero_39 rfl (lv_at hl 1 rfl) ?_
        refine lv_lload hx hb d_A_reachesZero_40 (lv_at hl 3 rfl) ?_
        refine lv_lmul hx hb d_A_reachesZero_42 ?_
        refine W.lcmp hx hb d_A_reachesZero_43 ?_
        refine lv_if_lt (tgt := 51) hx hb d_A_reachesZero_44 rfl (fun h44 => ?_) (fun h44 => ?_)
        · rw [if_pos h44] at hres
          refine lv_iconst (v := 0) hx hb d_A_reachesZero_51 (by decide) ?_
          rw [hQ]
          exact W.zret (v := 0) hx hb hr (by first | rfl | decide) (fun t ht hW => ⟨⟨_, (), rfl, hres, trivial⟩, hS.F ht⟩) hS.2.2 d_A_reachesZero_52
        · rw [if_neg h44] at hres
          refine lv_iconst (v := 1) hx hb d_A_reachesZero_47 (by decide) ?_
          refine lv_goto (tgt := 52) hx hb d_A_reachesZero_48 rfl ?_
          rw [hQ]
          exact W.zret (v := 1) hx hb hr (by first | rfl | decide) (fun t ht hW => ⟨⟨_, (), rfl, hres, trivial⟩, hS.F ht⟩) hS.2.2 d_A_reachesZero_52
    · rw [if_neg h20] at hres
      refine lv_iconst (v := 1) hx hb d_A_reachesZero_23 (by decide) ?_
      rw [hQ]
      exact W.zret (v := 1) hx hb hr (by first | rfl | decide) (fun t ht hW => ⟨⟨_, (), rfl, hres, trivial⟩, hS.F ht⟩) hS.2.2 d_A_reachesZero_24
def ka_may (sx : Int32) (sy : Int32) (bx : Int32) (b2 : Int32) (ex : Int32) (ey : Int32) (a : Int32) : Int32 := (if a < (if (if ey < b2 then ey else b2) < sy then (if ey < b2 then ey else b2) else sy) then 0 else (if (if sy < (if b2 < ey then ey else b2) then (if b2 < ey then ey else b2) else sy) < a then 0 else 1))
set_option maxHeartbeats 4000000 in
set_option maxRecDepth 100000 in
theorem c_ka_may (l : Launch) (dC : Nat → ClassId) (dI : Nat → Nat → Nat) (h0 : Nat) (sx : Int32) (sy : Int32) (bx : Int32) (b2 : Int32) (ex : Int32) (ey : Int32) (a : Int32) : pr_i l y_A_mayMeetHeight w_A_mayMeetHeight { frames := 1, cells := 0, slots := 0, locals := 32 } (dC, dI) cls9 [(h0, .inr (1, [.int sx, .int sy, .int bx, .int b2, .int ex, .int ey]))] [] [.ref h0, .int a] (ka_may sx sy bx b2 ex ey a) := by
  intro sz
  refine Met.ofW (cc := b_A_mayMeetHeight) (maxL := 2) (ret := (some .boolean)) (by decide) rfl ?_
  intro p e s m args below meth c s₁ B hml hv
  obtain ⟨hargs, hsz, hP, hK⟩ := hv
  have hx := B.exec
  have hb := B.bytes
  have hr := B.returns
  have hts : ∀ w ∈ lw_w, w.before args s = true := fun w h => atoms_spec (ws := w_A_mayMeetHeight) B.pre w (List.mem_cons_of_mem _ h)
  have hown : s.vm.findClass R_A = some m.cls := findClass_of_methodNamed B.named
  have hlocks := B.notSynchronized
  subst hsz
  generalize hR : (headSpec w_A_mayMeetHeight { frames := 1, cells := 0, slots := 0, locals := 32 }).room = R
  generalize hAe : (fun q : Nat => s.heap.size ≤ q) = A
  have hA : ∀ q : Nat, s.heap.size ≤ q → A q := fun q h => by rw [← hAe]; exact h
  have hS : va_S A s.heap s.heap [] := va_S.rf
  generalize hRES : ka_may sx sy bx b2 ex ey a = RES
  have hres := hRES
  replace hRES := hRES.symm
  have hl := lv_entry [.ref h0, .int a] (n := 2) (Nat.le_of_ble_eq_true rfl)
  have hent : entryFrame m args 2 = F0 m 0 (lg_sl [.ref h0, .int a] ++ List.replicate (2 - (lg_sl [.ref h0, .int a]).length) Slot.unset).toArray [] := by rw [hargs]; exact lg_entry_eq m [.ref h0, .int a] 2
  rw [hent]
  clear hent
  generalize (lg_sl [.ref h0, .int a] ++ List.replicate (2 - (lg_sl [.ref h0, .int a]).length) Slot.unset).toArray = ls at hl ⊢
  have hl : lv_has ls 2 [(0, .ref h0), (1, .int a)] := hl
  have hP : va_P (dC, dI) cls9 [(h0, .inr (1, [.int sx, .int sy, .int bx, .int b2, .int ex, .int ey]))] s.heap := hP
  unfold ka_may at hres
  generalize hQ : MQ below (va_Qi (fun x (_ : Unit) => x = RES) (fun _ _ => True) A) args s 0 0 A = Q
  replace hQ := hQ.symm
  refine lv_iload_n hx hb d_A_mayMeetHeight_0 rfl (lv_at hl 1 rfl) ?_
  refine lv_aload_n hx hb d_A_mayMeetHeight_1 rfl (lv_at hl 0 rfl) ?_
  refine va_get (D := (dC, dI)) (ci := 1) (v := .int sy) (C := R_A) (T := F_A) (N := 6) hx hb hts in_A hown hK hP 0 rfl rfl 1 (by decide) (hts _ tw_111) (fun _ h9 => h9) rfl d_A_mayMeetHeight_2 ?_
  refine lv_aload_n hx hb d_A_mayMeetHeight_5 rfl (lv_at hl 0 rfl) ?_
  refine va_get (D := (dC, dI)) (ci := 1) (v := .int b2) (C := R_A) (T := F_A) (N := 6) hx hb hts in_A hown hK hP 0 rfl rfl 3 (by decide) (hts _ tw_113) (fun _ h9 => h9) rfl d_A_mayMeetHeight_6 ?_
  refine lv_aload_n hx hb d_A_mayMeetHeight_9 rfl (lv_at hl 0 rfl) ?_
  refine va_get (D := (dC, dI)) (ci := 1) (v := .int ey) (C := R_A) (T := F_A) (N := 6) hx hb hts in_A hown hK hP 0 rfl rfl 5 (by decide) (hts _ tw_115) (fun _ h9 => h9) rfl d_A_mayMeetHeight_10 ?_
  refine va_mmin hx hb (hml.trans hl.1.symm) hown (hts _ tw_214) (hts _ tw_24) (hts _ tw_2) (hts _ tw_25) (by rw [← hR]; exact Nat.le_of_ble_eq_true rfl) (by rw [← hR]; exact Nat.le_of_ble_eq_true rfl) (Nat.zero_le _) (Nat.zero_le _) d_A_mayMeetHeight_13 ?_
  refine va_mmin hx hb (hml.trans hl.1.symm) hown (hts _ tw_214) (hts _ tw_24) (hts _ tw_2) (hts _ tw_25) (by rw [← hR]; exact Nat.le_of_ble_eq_true rfl) (by rw [← hR]; exact Nat.le_of_ble_eq_true rfl) (Nat.zero_le _) (Nat.zero_le _) d_A_mayMeetHeight_16 ?_
  refine lv_icmp_lt (tgt := 48) hx hb d_A_mayMeetHeight_19 rfl (fun h19 => ?_) (fun h19 => ?_)
  · rw [if_pos h19] at hres
    refine lv_iconst (v := 0) hx hb d_A_mayMeetHeight_48 (by decide) ?_
    rw [hQ]
    exact W.zret (v := 0) hx hb hr (by first | rfl | decide) (fun t ht hW => ⟨⟨_, (), rfl, hres, trivial⟩, hS.F ht⟩) hS.2.2 d_A_mayMeetHeight_49
  · rw [if_neg h19] at hres
    refine lv_iload_n hx hb d_A_mayMeetHeight_22 rfl (lv_at hl 1 rfl) ?_
    refine lv_aload_n hx hb d_A_mayMeetHeight_23 rfl (lv_at hl 0 rfl) ?_
    refine va_get (D := (dC, dI)) (ci := 1) (v := .int sy) (C := R_A) (T := F_A) (N := 6) hx hb hts in_A hown hK hP 0 rfl rfl 1 (by decide) (hts _ tw_111) (fun _ h9 => h9) rfl d_A_mayMeetHeight_24 ?_
    refine lv_aload_n hx hb d_A_mayMeetHeight_27 rfl (lv_at hl 0 rfl) ?_
    refine va_get (D := (dC, dI)) (ci := 1) (v := .int b2) (C := R_A) (T := F_A) (N := 6) hx hb hts in_A hown hK hP 0 rfl rfl 3 (by decide) (hts _ tw_113) (fun _ h9 => h9) rfl d_A_mayMeetHeight_28 ?_
    refine lv_aload_n hx hb d_A_mayMeetHeight_31 rfl (lv_at hl 0 rfl) ?_
    refine va_get (D := (dC, dI)) (ci := 1) (v := .int ey) (C := R_A) (T := F_A) (N := 6) hx hb hts in_A hown hK hP 0 rfl rfl 5 (by decide) (hts _ tw_115) (fun _ h9 => h9) rfl d_A_mayMeetHeight_32 ?_
    refine va_mmax hx hb (hml.trans hl.1.symm) hown (hts _ tw_215) (hts _ tw_27) (hts _ tw_2) (hts _ tw_28) (by rw [← hR]; exact Nat.le_of_ble_eq_true rfl) (by rw [← hR]; exact Nat.le_of_ble_eq_true rfl) (Nat.zero_le _) (Nat.zero_le _) d_A_mayMeetHeight_35 ?_
    refine va_mmax hx hb (hml.trans hl.1.symm) hown (hts _ tw_215) (hts _ tw_27) (hts _ tw_2) (hts _ tw_28) (by rw [← hR]; exact Nat.le_of_ble_eq_true rfl) (by rw [← hR]; exact Nat.le_of_ble_eq_true rfl) (Nat.zero_le _) (Nat.zero_le _) d_A_mayMeetHeight_38 ?_
    refine lv_icmp_gt (tgt := 48) hx hb d_A_mayMeetHeight_41 rfl (fun h41 => ?_) (fun h41 => ?_)
    · rw [if_pos h41] at hres
      refine lv_iconst (v := 0) hx hb d_A_mayMeetHeight_48 (by decide) ?_
      rw [hQ]
      exact W.zret (v := 0) hx hb hr (by first | rfl | decide) (fun t ht hW => ⟨⟨_, (), rfl, hres, trivial⟩, hS.F ht⟩) hS.2.2 d_A_mayMeetHeight_49
    · rw [if_neg h41] at hres
      refine lv_iconst (v := 1) hx hb d_A_mayMeetHeight_44 (by decide) ?_
      refine lv_goto (tgt := 49) hx hb d_A_mayMeetHeight_45 rfl ?_
      rw [hQ]
      exact W.zret (v := 1) hx hb hr (by first | rfl | decide) (fun t ht hW => ⟨⟨_, (), rfl, hres, trivial⟩, hS.F ht⟩) hS.2.2 d_A_mayMeetHeight_49
def ka_side (sx : Int32) (sy : Int32) (bx : Int32) (b2 : Int32) (ex : Int32) (ey : Int32) (a : Int64) : Int32 := (if (lg_cmp a 0) = 0 then (if ey = sy then (ji_cmp ex sx) else (ji_cmp ey sy)) else (if 0 ≤ (lg_cmp a 0) then 1 else (-1)))
set_option maxHeartbeats 4000000 in
set_option maxRecDepth 100000 in
theorem c_ka_side (l : Launch) (dC : Nat → ClassId) (dI : Nat → Nat → Nat) (h0 : Nat) (sx : Int32) (sy : Int32) (bx : Int32) (b2 : Int32) (ex : Int32) (ey : Int32) (a : Int64) : pr_i l y_A_sideOfChord w_A_sideOfChord { frames := 1, cells := 0, slots := 0, locals := 21 } (dC, dI) cls9 [(h0, .inr (1, [.int sx, .int sy, .int bx, .int b2, .int ex, .int ey]))] [] [.ref h0, .long a] (ka_side sx sy bx b2 ex ey a) := by
  intro sz
  refine Met.ofW (cc := b_A_sideOfChord) (maxL := 3) (ret := (some .int)) (by decide) rfl ?_
  intro p e s m args below meth c s₁ B hml hv
  obtain ⟨hargs, hsz, hP, hK⟩ := hv
  have hx := B.exec
  have hb := B.bytes
  have hr := B.returns
  have hts : ∀ w ∈ lw_w, w.before args s = true := fun w h => atoms_spec (ws := w_A_sideOfChord) B.pre w (List.mem_cons_of_mem _ h)
  have hown : s.vm.findClass R_A = some m.cls := findClass_of_methodNamed B.named
  have hlocks := B.notSynchronized
  subst hsz
  generalize hR : (headSpec w_A_sideOfChord { frames := 1, cells := 0, slots := 0, locals := 21 }).room = R
  generalize hAe : (fun q : Nat => s.heap.size ≤ q) = A
  have hA : ∀ q : Nat, s.heap.size ≤ q → A q := fun q h => by rw [← hAe]; exact h
  have hS : va_S A s.heap s.heap [] := va_S.rf
  generalize hRES : ka_side sx sy bx b2 ex ey a = RES
  have hres := hRES
  replace hRES := hRES.symm
  have hl := lv_entry [.ref h0, .long a] (n := 3) (Nat.le_of_ble_eq_true rfl)
  have hent : entryFrame m args 3 = F0 m 0 (lg_sl [.ref h0, .long a] ++ List.replicate (3 - (lg_sl [.ref h0, .long a]).length) Slot.unset).toArray [] := by rw [hargs]; exact lg_entry_eq m [.ref h0, .long a] 3
  rw [hent]
  clear hent
  generalize (lg_sl [.ref h0, .long a] ++ List.replicate (3 - (lg_sl [.ref h0, .long a]).length) Slot.unset).toArray = ls at hl ⊢
  have hl : lv_has ls 3 [(0, .ref h0), (1, .long a)] := hl
  have hP : va_P (dC, dI) cls9 [(h0, .inr (1, [.int sx, .int sy, .int bx, .int b2, .int ex, .int ey]))] s.heap := hP
  unfold ka_side at hres
  generalize hQ : MQ below (va_Qi (fun x (_ : Unit) => x = RES) (fun _ _ => True) A) args s 0 0 A = Q
  replace hQ := hQ.symm
  refine lv_lload_n hx hb d_A_sideOfChord_0 rfl (lv_at hl 1 rfl) ?_
  refine lv_lconst (v := 0) hx hb d_A_sideOfChord_1 (by decide) ?_
  refine W.lcmp hx hb d_A_sideOfChord_2 ?_
  refine lv_if_eq (tgt := 18) hx hb d_A_sideOfChord_3 rfl (fun h3 => ?_) (fun h3 => ?_)
  · rw [if_pos h3] at hres
    refine lv_aload_n hx hb d_A_sideOfChord_18 rfl (lv_at hl 0 rfl) ?_
    refine va_get (D := (dC, dI)) (ci := 1) (v := .int ey) (C := R_A) (T := F_A) (N := 6) hx hb hts in_A hown hK hP 0 rfl rfl 5 (by decide) (hts _ tw_115) (fun _ h9 => h9) rfl d_A_sideOfChord_19 ?_
    refine lv_aload_n hx hb d_A_sideOfChord_22 rfl (lv_at hl 0 rfl) ?_
    refine va_get (D := (dC, dI)) (ci := 1) (v := .int sy) (C := R_A) (T := F_A) (N := 6) hx hb hts in_A hown hK hP 0 rfl rfl 1 (by decide) (hts _ tw_111) (fun _ h9 => h9) rfl d_A_sideOfChord_23 ?_
    refine lv_icmp_eq (tgt := 43) hx hb d_A_sideOfChord_26 rfl (fun h26 => ?_) (fun h26 => ?_)
    · rw [if_pos h26] at hres
      refine lv_aload_n hx hb d_A_sideOfChord_43 rfl (lv_at hl 0 rfl) ?_
      refine va_get (D := (dC, dI)) (ci := 1) (v := .int ex) (C := R_A) (T := F_A) (N := 6) hx hb hts in_A hown hK hP 0 rfl rfl 4 (by decide) (hts _ tw_114) (fun _ h9 => h9) rfl d_A_sideOfChord_44 ?_
      refine lv_aload_n hx hb d_A_sideOfChord_47 rfl (lv_at hl 0 rfl) ?_
      refine va_get (D := (dC, dI)) (ci := 1) (v := .int sx) (C := R_A) (T := F_A) (N := 6) hx hb hts in_A hown hK hP 0 rfl rfl 0 (by decide) (hts _ tw_110) (fun _ h9 => h9) rfl d_A_sideOfChord_48 ?_
      refine cq_Si (As := [.int ex, .int sx]) (rest := []) ⟨hx, hb, hml, hown, hts⟩ (c_ji_cmp l dC dI ex sx) (va_cwS 2 hts (gi_S tw_226 tw_227 tw_14 tw_228) rfl rfl rfl (by decide +kernel) ⟨(by rw [← hR]; exact Nat.le_of_ble_eq_true rfl), (by rw [← hR]; exact Nat.le_of_ble_eq_true rfl)⟩) rfl rfl hl.1 (Nat.le_of_ble_eq_true rfl) d_A_sideOfChord_51 ⟨Nat.zero_le _, Nat.zero_le _⟩ hP hS hA (fun H locs hP hS => ?_)
      rw [hQ]
      exact W.iret (v := ji_cmp ex sx) hx hb hr (fun t ht hW => ⟨⟨_, (), rfl, hres, trivial⟩, hS.F ht⟩) hS.2.2 d_A_sideOfChord_54
    · rw [if_neg h26] at hres
      refine lv_aload_n hx hb d_A_sideOfChord_29 rfl (lv_at hl 0 rfl) ?_
      refine va_get (D := (dC, dI)) (ci := 1) (v := .int ey) (C := R_A) (T := F_A) (N := 6) hx hb hts in_A hown hK hP 0 rfl rfl 5 (by decide) (hts _ tw_115) (fun _ h9 => h9) rfl d_A_sideOfChord_30 ?_
      refine lv_aload_n hx hb d_A_sideOfChord_33 rfl (lv_at hl 0 rfl) ?_
      refine va_get (D := (dC, dI)) (ci := 1) (v := .int sy) (C := R_A) (T := F_A) (N := 6) hx hb hts in_A hown hK hP 0 rfl rfl 1 (by decide) (hts _ tw_111) (fun _ h9 => h9) rfl d_A_sideOfChord_34 ?_
      refine cq_Si (As := [.int ey, .int sy]) (rest := []) ⟨hx, hb, hml, hown, hts⟩ (c_ji_cmp l dC dI ey sy) (va_cwS 2 hts (gi_S tw_226 tw_227 tw_14 tw_228) rfl rfl rfl (by decide +kernel) ⟨(by rw [← hR]; exact Nat.le_of_ble_eq_true rfl), (by rw [← hR]; exact Nat.le_of_ble_eq_true rfl)⟩) rfl rfl hl.1 (Nat.le_of_ble_eq_true rfl) d_A_sideOfChord_37 ⟨Nat.zero_le _, Nat.zero_le _⟩ hP hS hA (fun H locs hP hS => ?_)
      refine lv_goto (tgt := 54) hx hb d_A_sideOfChord_40 rfl ?_
      rw [hQ]
      exact W.iret (v := ji_cmp ey sy) hx hb hr (fun t ht hW => ⟨⟨_, (), rfl, hres, trivial⟩, hS.F ht⟩) hS.2.2 d_A_sideOfChord_54
  · rw [if_neg h3] at hres
    refine lv_lload_n hx hb d_A_sideOfChord_6 rfl (lv_at hl 1 rfl) ?_
    refine lv_lconst (v := 0) hx hb d_A_sideOfChord_7 (by decide) ?_
    refine W.lcmp hx hb d_A_sideOfChord_8 ?_
    refine lv_if_ge (tgt := 16) hx hb d_A_sideOfChord_9 rfl (fun h9 => ?_) (fun h9 => ?_)
    · rw [if_pos h9] at hres
      refine lv_iconst (v := 1) hx hb d_A_sideOfChord_16 (by decide) ?_
      rw [hQ]
      exact W.iret (v := 1) hx hb hr (fun t ht hW => ⟨⟨_, (), rfl, hres, trivial⟩, hS.F ht⟩) hS.2.2 d_A_sideOfChord_17
    · rw [if_neg h9] at hres
      refine lv_iconst (v := (-1)) hx hb d_A_sideOfChord_12 (by decide) ?_
      refine lv_goto (tgt := 17) hx hb d_A_sideOfChord_13 rfl ?_
      rw [hQ]
      exact W.iret (v := (-1)) hx hb hr (fun t ht hW => ⟨⟨_, (), rfl, hres, trivial⟩, hS.F ht⟩) hS.2.2 d_A_sideOfChord_17
def ka_share_j27 (a : Int32) (t13_0 : Int32) (t27_0 : Int32) : Int32 := (if t13_0 = t27_0 then 0 else (if t27_0 = 0 then (if a ≤ 0 then 0 else (-1)) else (if 0 ≤ a then 0 else 1)))
def ka_share_j13 (ey : Int32) (a : Int32) (b : Int32) (t13_0 : Int32) : Int32 := (if ey < b then (ka_share_j27 a t13_0 0) else (ka_share_j27 a t13_0 1))
def ka_share (sx : Int32) (sy : Int32) (bx : Int32) (b2 : Int32) (ex : Int32) (ey : Int32) (a : Int32) (b : Int32) : Int32 := (if sy < b then (ka_share_j13 ey a b 0) else (ka_share_j13 ey a b 1))
set_option maxHeartbeats 4000000 in
set_option maxRecDepth 100000 in
theorem c_ka_share (l : Launch) (dC : Nat → ClassId) (dI : Nat → Nat → Nat) (h0 : Nat) (sx : Int32) (sy : Int32) (bx : Int32) (b2 : Int32) (ex : Int32) (ey : Int32) (a : Int32) (b : Int32) : pr_i l y_A_chordShare w_A_chordShare { frames := 0, cells := 0, slots := 0, locals := 0 } (dC, dI) cls9 [(h0, .inr (1, [.int sx, .int sy, .int bx, .int b2, .int ex, .int ey]))] [] [.ref h0, .int a, .int b] (ka_share sx sy bx b2 ex ey a b) := by
  intro sz
  refine Met.ofW (cc := b_A_chordShare) (maxL := 5) (ret := (some .int)) (by decide) rfl ?_
  intro p e s m args below meth c s₁ B hml hv
  obtain ⟨hargs, hsz, hP, hK⟩ := hv
  have hx := B.exec
  have hb := B.bytes
  have hr := B.returns
  have hts : ∀ w ∈ lw_w, w.before args s = true := fun w h => atoms_spec (ws := w_A_chordShare) B.pre w (List.mem_cons_of_mem _ h)
  have hown : s.vm.findClass R_A = some m.cls := findClass_of_methodNamed B.named
  have hlocks := B.notSynchronized
  subst hsz
  generalize hR : (headSpec w_A_chordShare { frames := 0, cells := 0, slots := 0, locals := 0 }).room = R
  generalize hAe : (fun q : Nat => s.heap.size ≤ q) = A
  have hA : ∀ q : Nat, s.heap.size ≤ q → A q := fun q h => by rw [← hAe]; exact h
  have hS : va_S A s.heap s.heap [] := va_S.rf
  generalize hRES : ka_share sx sy bx b2 ex ey a b = RES
  have hres := hRES
  replace hRES := hRES.symm
  have hl := lv_entry [.ref h0, .int a, .int b] (n := 5) (Nat.le_of_ble_eq_true rfl)
  have hent : entryFrame m args 5 = F0 m 0 (lg_sl [.ref h0, .int a, .int b] ++ List.replicate (5 - (lg_sl [.ref h0, .int a, .int b]).length) Slot.unset).toArray [] := by rw [hargs]; exact lg_entry_eq m [.ref h0, .int a, .int b] 5
  rw [hent]
  clear hent
  generalize (lg_sl [.ref h0, .int a, .int b] ++ List.replicate (5 - (lg_sl [.ref h0, .int a, .int b]).length) Slot.unset).toArray = ls at hl ⊢
  have hl : lv_has ls 5 [(0, .ref h0), (1, .int a), (2, .int b)] := hl
  have hP : va_P (dC, dI) cls9 [(h0, .inr (1, [.int sx, .int sy, .int bx, .int b2, .int ex, .int ey]))] s.heap := hP
  unfold ka_share at hres
  generalize hQ : MQ below (va_Qi (fun x (_ : Unit) => x = RES) (fun _ _ => True) A) args s 0 0 A = Q
  replace hQ := hQ.symm
  refine lv_aload_n hx hb d_A_chordShare_0 rfl (lv_at hl 0 rfl) ?_
  refine va_get (D := (dC, dI)) (ci := 1) (v := .int sy) (C := R_A) (T := F_A) (N := 6) hx hb hts in_A hown hK hP 0 rfl rfl 1 (by decide) (hts _ tw_111) (fun _ h9 => h9) rfl d_A_chordShare_1 ?_
  refine lv_iload_n hx hb d_A_chordShare_4 rfl (lv_at hl 2 rfl) ?_
  have J13 : ∀ (t13_0 : Int32), ka_share_j13 ey a b t13_0 = RES → ∀ (ls : Array Slot) (H : Heap) (locs : List Loc), lv_has ls 5 [(0, .ref h0), (1, .int a), (2, .int b)] → va_P (dC, dI) cls9 [(h0, .inr (1, [.int sx, .int sy, .int bx, .int b2, .int ex, .int ey]))] H → va_S A s.heap H locs → W p l e R s m args below meth c H locs 0 0 Q (F0 m 13 ls [.int t13_0]) := by
    intro t13_0 hres ls H locs hl hP hS
    unfold ka_share_j13 at hres
    refine lv_istore_n (lv' := [(3, .int t13_0), (0, .ref h0), (1, .int a), (2, .int b)]) hx hb d_A_chordShare_13 rfl hl (by decide) rfl (fun ls hl => ?_)
    refine lv_aload_n hx hb d_A_chordShare_14 rfl (lv_at hl 1 rfl) ?_
    refine va_get (D := (dC, dI)) (ci := 1) (v := .int ey) (C := R_A) (T := F_A) (N := 6) hx hb hts in_A hown hK hP 0 rfl rfl 5 (by decide) (hts _ tw_115) (fun _ h9 => h9) rfl d_A_chordShare_15 ?_
    refine lv_iload_n hx hb d_A_chordShare_18 rfl (lv_at hl 3 rfl) ?_
    have J27 : ∀ (t27_0 : Int32), ka_share_j27 a t13_0 t27_0 = RES → ∀ (ls : Array Slot) (H : Heap) (locs : List Loc), lv_has ls 5 [(3, .int t13_0), (1, .int a)] → va_P (dC, dI) cls9 [(h0, .inr (1, [.int sx, .int sy, .int bx, .int b2, .int ex, .int ey]))] H → va_S A s.heap H locs → W p l e R s m args below meth c H locs 0 0 Q (F0 m 27 ls [.int t27_0]) := by
      intro t27_0 hres ls H locs hl hP hS
      unfold ka_share_j27 at hres
      refine lv_istore (lv' := [(4, .int t27_0), (3, .int t13_0), (1, .int a)]) hx hb d_A_chordShare_27 hl (by decide) rfl (fun ls hl => ?_)
      refine lv_iload_n hx hb d_A_chordShare_29 rfl (lv_at hl 1 rfl) ?_
      refine lv_iload hx hb d_A_chordShare_30 (lv_at hl 0 rfl) ?_
      refine lv_icmp_ne (tgt := 37) hx hb d_A_chordShare_32 rfl (fun h32 => ?_) (fun h32 => ?_)
      · rw [if_neg h32] at hres
        refine lv_iload hx hb d_A_chordShare_37 (lv_at hl 0 rfl) ?_
        refine lv_if_eq (tgt := 52) hx hb d_A_chordShare_39 rfl (fun h39 => ?_) (fun h39 => ?_)
        · rw [if_pos h39] at hres
          refine lv_iload_n hx hb d_A_chordShare_52 rfl (lv_at hl 2 rfl) ?_
          refine lv_if_le (tgt := 60) hx hb d_A_chordShare_53 rfl (fun h53 => ?_) (fun h53 => ?_)
          · rw [if_pos h53] at hres
            refine lv_iconst (v := 0) hx hb d_A_chordShare_60 (by decide) ?_
            rw [hQ]
            exact W.iret (v := 0) hx hb hr (fun t ht hW => ⟨⟨_, (), rfl, hres, trivial⟩, hS.F ht⟩) hS.2.2 d_A_chordShare_61
          · rw [if_neg h53] at hres
            refine lv_iconst (v := (-1)) hx hb d_A_chordShare_56 (by decide) ?_
            refine lv_goto (tgt := 61) hx hb d_A_chordShare_57 rfl ?_
            rw [hQ]
            exact W.iret (v := (-1)) hx hb hr (fun t ht hW => ⟨⟨_, (), rfl, hres, trivial⟩, hS.F ht⟩) hS.2.2 d_A_chordShare_61
        · rw [if_neg h39] at hres
          refine lv_iload_n hx hb d_A_chordShare_42 rfl (lv_at hl 2 rfl) ?_
          refine lv_if_ge (tgt := 50) hx hb d_A_chordShare_43 rfl (fun h43 => ?_) (fun h43 => ?_)
          · rw [if_pos h43] at hres
            refine lv_iconst (v := 0) hx hb d_A_chordShare_50 (by decide) ?_
            rw [hQ]
            exact W.iret (v := 0) hx hb hr (fun t ht hW => ⟨⟨_, (), rfl, hres, trivial⟩, hS.F ht⟩) hS.2.2 d_A_chordShare_51
          · rw [if_neg h43] at hres
            refine lv_iconst (v := 1) hx hb d_A_chordShare_46 (by decide) ?_
            refine lv_goto (tgt := 51) hx hb d_A_chordShare_47 rfl ?_
            rw [hQ]
            exact W.iret (v := 1) hx hb hr (fun t ht hW => ⟨⟨_, (), rfl, hres, trivial⟩, hS.F ht⟩) hS.2.2 d_A_chordShare_51
      · rw [if_pos h32] at hres
        refine lv_iconst (v := 0) hx hb d_A_chordShare_35 (by decide) ?_
        rw [hQ]
        exact W.iret (v := 0) hx hb hr (fun t ht hW => ⟨⟨_, (), rfl, hres, trivial⟩, hS.F ht⟩) hS.2.2 d_A_chordShare_36
    refine lv_icmp_lt (tgt := 26) hx hb d_A_chordShare_19 rfl (fun h19 => ?_) (fun h19 => ?_)
    · rw [if_pos h19] at hres
      refine lv_iconst (v := 0) hx hb d_A_chordShare_26 (by decide) ?_
      exact J27 0 hres ls _ _ (lv_sub hl [0, 2] rfl) hP hS
    · rw [if_neg h19] at hres
      refine lv_iconst (v := 1) hx hb d_A_chordShare_22 (by decide) ?_
      refine lv_goto (tgt := 27) hx hb d_A_chordShare_23 rfl ?_
      exact J27 1 hres ls _ _ (lv_sub hl [0, 2] rfl) hP hS
  refine lv_icmp_lt (tgt := 12) hx hb d_A_chordShare_5 rfl (fun h5 => ?_) (fun h5 => ?_)
  · rw [if_pos h5] at hres
    refine lv_iconst (v := 0) hx hb d_A_chordShare_12 (by decide) ?_
    exact J13 0 hres ls _ _ (lv_sub hl [0, 1, 2] rfl) hP hS
  · rw [if_neg h5] at hres
    refine lv_iconst (v := 1) hx hb d_A_chordShare_8 (by decide) ?_
    refine lv_goto (tgt := 13) hx hb d_A_chordShare_9 rfl ?_
    exact J13 1 hres ls _ _ (lv_sub hl [0, 1, 2] rfl) hP hS
def ka_on (sx : Int32) (sy : Int32) (bx : Int32) (b2 : Int32) (ex : Int32) (ey : Int32) (a : Int32) (b : Int32) : Int32 := (if (ka_rz (Int32.toInt64 (sx - a)) (Int32.toInt64 (bx - a)) (Int32.toInt64 (ex - a))) = 0 then 0 else (if (ka_rz (Int32.toInt64 (sy - b)) (Int32.toInt64 (b2 - b)) (Int32.toInt64 (ey - b))) = 0 then 0 else 1))
set_option maxHeartbeats 4000000 in
set_option maxRecDepth 100000 in
theorem c_ka_on (l : Launch) (dC : Nat → ClassId) (dI : Nat → Nat → Nat) (h0 : Nat) (sx : Int32) (sy : Int32) (bx : Int32) (b2 : Int32) (ex : Int32) (ey : Int32) (a : Int32) (b : Int32) : pr_i l y_A_onStraightArc w_A_onStraightArc { frames := 2, cells := 0, slots := 0, locals := 49 } (dC, dI) cls9 [(h0, .inr (1, [.int sx, .int sy, .int bx, .int b2, .int ex, .int ey]))] [] [.ref h0, .int a, .int b] (ka_on sx sy bx b2 ex ey a b) := by
  intro sz
  refine Met.ofW (cc := b_A_onStraightArc) (maxL := 3) (ret := (some .boolean)) (by decide) rfl ?_
  intro p e s m args below meth c s₁ B hml hv
  obtain ⟨hargs, hsz, hP, hK⟩ := hv
  have hx := B.exec
  have hb := B.bytes
  have hr := B.returns
  have hts : ∀ w ∈ lw_w, w.before args s = true := fun w h => atoms_spec (ws := w_A_onStraightArc) B.pre w (List.mem_cons_of_mem _ h)
  have hown : s.vm.findClass R_A = some m.cls := findClass_of_methodNamed B.named
  have hlocks := B.notSynchronized
  subst hsz
  generalize hR : (headSpec w_A_onStraightArc { frames := 2, cells := 0, slots := 0, locals := 49 }).room = R
  generalize hAe : (fun q : Nat => s.heap.size ≤ q) = A
  have hA : ∀ q : Nat, s.heap.size ≤ q → A q := fun q h => by rw [← hAe]; exact h
  have hS : va_S A s.heap s.heap [] := va_S.rf
  generalize hRES : ka_on sx sy bx b2 ex ey a b = RES
  have hres := hRES
  replace hRES := hRES.symm
  have hl := lv_entry [.ref h0, .int a, .int b] (n := 3) (Nat.le_of_ble_eq_true rfl)
  have hent : entryFrame m args 3 = F0 m 0 (lg_sl [.ref h0, .int a, .int b] ++ List.replicate (3 - (lg_sl [.ref h0, .int a, .int b]).length) Slot.unset).toArray [] := by rw [hargs]; exact lg_entry_eq m [.ref h0, .int a, .int b] 3
  rw [hent]
  clear hent
  generalize (lg_sl [.ref h0, .int a, .int b] ++ List.replicate (3 - (lg_sl [.ref h0, .int a, .int b]).length) Slot.unset).toArray = ls at hl ⊢
  have hl : lv_has ls 3 [(0, .ref h0), (1, .int a), (2, .int b)] := hl
  have hP : va_P (dC, dI) cls9 [(h0, .inr (1, [.int sx, .int sy, .int bx, .int b2, .int ex, .int ey]))] s.heap := hP
  unfold ka_on at hres
  generalize hQ : MQ below (va_Qi (fun x (_ : Unit) => x = RES) (fun _ _ => True) A) args s 0 0 A = Q
  replace hQ := hQ.symm
  refine lv_aload_n hx hb d_A_onStraightArc_0 rfl (lv_at hl 0 rfl) ?_
  refine va_get (D := (dC, dI)) (ci := 1) (v := .int sx) (C := R_A) (T := F_A) (N := 6) hx hb hts in_A hown hK hP 0 rfl rfl 0 (by decide) (hts _ tw_110) (fun _ h9 => h9) rfl d_A_onStraightArc_1 ?_
  refine lv_iload_n hx hb d_A_onStraightArc_4 rfl (lv_at hl 1 rfl) ?_
  refine lv_isub hx hb d_A_onStraightArc_5 ?_
  refine lv_i2l (v := Int32.toInt64 (sx - a)) hx hb d_A_onStraightArc_6 rfl ?_
  refine lv_aload_n hx hb d_A_onStraightArc_7 rfl (lv_at hl 0 rfl) ?_
  refine va_get (D := (dC, dI)) (ci := 1) (v := .int bx) (C := R_A) (T := F_A) (N := 6) hx hb hts in_A hown hK hP 0 rfl rfl 2 (by decide) (hts _ tw_112) (fun _ h9 => h9) rfl d_A_onStraightArc_8 ?_
  refine lv_iload_n hx hb d_A_onStraightArc_11 rfl (lv_at hl 1 rfl) ?_
  refine lv_isub hx hb d_A_onStraightArc_12 ?_
  refine lv_i2l (v := Int32.toInt64 (bx - a)) hx hb d_A_onStraightArc_13 rfl ?_
  refine lv_aload_n hx hb d_A_onStraightArc_14 rfl (lv_at hl 0 rfl) ?_
  refine va_get (D := (dC, dI)) (ci := 1) (v := .int ex) (C := R_A) (T := F_A) (N := 6) hx hb hts in_A hown hK hP 0 rfl rfl 4 (by decide) (hts _ tw_114) (fun _ h9 => h9) rfl d_A_onStraightArc_15 ?_
  refine lv_iload_n hx hb d_A_onStraightArc_18 rfl (lv_at hl 1 rfl) ?_
  refine lv_isub hx hb d_A_onStraightArc_19 ?_
  refine lv_i2l (v := Int32.toInt64 (ex - a)) hx hb d_A_onStraightArc_20 rfl ?_
  refine cq_Si (As := [.long (Int32.toInt64 (sx - a)), .long (Int32.toInt64 (bx - a)), .long (Int32.toInt64 (ex - a))]) (rest := []) ⟨hx, hb, hml, hown, hts⟩ (c_ka_rz l dC dI (Int32.toInt64 (sx - a)) (Int32.toInt64 (bx - a)) (Int32.toInt64 (ex - a))) (va_cwS 3 hts (gi_S tw_237 tw_238 tw_7 tw_239) rfl rfl rfl (by decide +kernel) ⟨(by rw [← hR]; exact Nat.le_of_ble_eq_true rfl), (by rw [← hR]; exact Nat.le_of_ble_eq_true rfl)⟩) rfl rfl hl.1 (Nat.le_of_ble_eq_true rfl) d_A_onStraightArc_21 ⟨Nat.zero_le _, Nat.zero_le _⟩ hP hS hA (fun H locs hP hS => ?_)
  refine lv_if_eq (tgt := 58) hx hb d_A_onStraightArc_24 rfl (fun h24 => ?_) (fun h24 => ?_)
  · rw [if_pos h24] at hres
    refine lv_iconst (v := 0) hx hb d_A_onStraightArc_58 (by decide) ?_
    rw [hQ]
    exact W.zret (v := 0) hx hb hr (by first | rfl | decide) (fun t ht hW => ⟨⟨_, (), rfl, hres, trivial⟩, hS.F ht⟩) hS.2.2 d_A_onStraightArc_59
  · rw [if_neg h24] at hres
    refine lv_aload_n hx hb d_A_onStraightArc_27 rfl (lv_at hl 0 rfl) ?_
    refine va_get (D := (dC, dI)) (ci := 1) (v := .int sy) (C := R_A) (T := F_A) (N := 6) hx hb hts in_A hown hK hP 0 rfl rfl 1 (by decide) (hts _ tw_111) (fun _ h9 => h9) rfl d_A_onStraightArc_28 ?_
    refine lv_iload_n hx hb d_A_onStraightArc_31 rfl (lv_at hl 2 rfl) ?_
    refine lv_isub hx hb d_A_onStraightArc_32 ?_
    refine lv_i2l (v := Int32.toInt64 (sy - b)) hx hb d_A_onStraightArc_33 rfl ?_
    refine lv_aload_n hx hb d_A_onStraightArc_34 rfl (lv_at hl 0 rfl) ?_
    refine va_get (D := (dC, dI)) (ci := 1) (v := .int b2) (C := R_A) (T := F_A) (N := 6) hx hb hts in_A hown hK hP 0 rfl rfl 3 (by decide) (hts _ tw_113) (fun _ h9 => h9) rfl d_A_onStraightArc_35 ?_
    refine lv_iload_n hx hb d_A_onStraightArc_38 rfl (lv_at hl 2 rfl) ?_
    refine lv_isub hx hb d_A_onStraightArc_39 ?_
    refine lv_i2l (v := Int32.toInt64 (b2 - b)) hx hb d_A_onStraightArc_40 rfl ?_
    refine lv_aload_n hx hb d_A_onStraightArc_41 rfl (lv_at hl 0 rfl) ?_
    refine va_get (D := (dC, dI)) (ci := 1) (v := .int ey) (C := R_A) (T := F_A) (N := 6) hx hb hts in_A hown hK hP 0 rfl rfl 5 (by decide) (hts _ tw_115) (fun _ h9 => h9) rfl d_A_onStraightArc_42 ?_
    refine lv_iload_n hx hb d_A_onStraightArc_45 rfl (lv_at hl 2 rfl) ?_
    refine lv_isub hx hb d_A_onStraightArc_46 ?_
    refine lv_i2l (v := Int32.toInt64 (ey - b)) hx hb d_A_onStraightArc_47 rfl ?_
    refine cq_Si (As := [.long (Int32.toInt64 (sy - b)), .long (Int32.toInt64 (b2 - b)), .long (Int32.toInt64 (ey - b))]) (rest := []) ⟨hx, hb, hml, hown, hts⟩ (c_ka_rz l dC dI (Int32.toInt64 (sy - b)) (Int32.toInt64 (b2 - b)) (Int32.toInt64 (ey - b))) (va_cwS 3 hts (gi_S tw_237 tw_238 tw_7 tw_239) rfl rfl rfl (by decide +kernel) ⟨(by rw [← hR]; exact Nat.le_of_ble_eq_true rfl), (by rw [← hR]; exact Nat.le_of_ble_eq_true rfl)⟩) rfl rfl hl.1 (Nat.le_of_ble_eq_true rfl) d_A_onStraightArc_48 ⟨Nat.zero_le _, Nat.zero_le _⟩ hP hS hA (fun H locs hP hS => ?_)
    refine lv_if_eq (tgt := 58) hx hb d_A_onStraightArc_51 rfl (fun h51 => ?_) (fun h51 => ?_)
    · rw [if_pos h51] at hres
      refine lv_iconst (v := 0) hx hb d_A_onStraightArc_58 (by decide) ?_
      rw [hQ]
      exact W.zret (v := 0) hx hb hr (by first | rfl | decide) (fun t ht hW => ⟨⟨_, (), rfl, hres, trivial⟩, hS.F ht⟩) hS.2.2 d_A_onStraightArc_59
    · rw [if_neg h51] at hres
      refine lv_iconst (v := 1) hx hb d_A_onStraightArc_54 (by decide) ?_
      refine lv_goto (tgt := 59) hx hb d_A_onStraightArc_55 rfl ?_
      rw [hQ]
      exact W.zret (v := 1) hx hb hr (by first | rfl | decide) (fun t ht hW => ⟨⟨_, (), rfl, hres, trivial⟩, hS.F ht⟩) hS.2.2 d_A_onStraightArc_59
def ka_turns_j190 (sx : Int32) (sy : Int32) (bx : Int32) (b2 : Int32) (ex : Int32) (ey : Int32) (a : Int32) (b : Int32) (v160_l11 : Int32) (t190_0 : Int32) : Int32 := (if t190_0 = 0 then v160_l11 else (if (ka_on sx sy bx b2 ex ey a b) = 0 then v160_l11 else 1000))
def ka_turns_k160 (sx : Int32) (sy : Int32) (bx : Int32) (b2 : Int32) (ex : Int32) (ey : Int32) (a : Int32) (b : Int32) (v160_l10 : Int32) (v160_l11 : Int32) (v160_l3 : Int64) (v160_l5 : Int64) (v160_l7 : Int64) (v160_l9 : Int32) : Int32 := (if v160_l9 = 0 then (if (lg_cmp v160_l3 0) = 0 then (if (lg_cmp v160_l5 0) = 0 then (if (lg_cmp v160_l7 0) = 0 then (ka_turns_j190 sx sy bx b2 ex ey a b v160_l11 1) else (ka_turns_j190 sx sy bx b2 ex ey a b v160_l11 0)) else (ka_turns_j190 sx sy bx b2 ex ey a b v160_l11 0)) else (ka_turns_j190 sx sy bx b2 ex ey a b v160_l11 0)) else (if (lg_cmp ((Int32.toInt64 v160_l9) * v160_l3) 0) < 0 then v160_l11 else (if (lg_cmp ((Int32.toInt64 v160_l9) * v160_l5) 0) < 0 then v160_l11 else (if 0 ≤ (lg_cmp ((Int32.toInt64 v160_l9) * v160_l7) 0) then (if (ka_cmp (if 0 < v160_l5 then v160_l5 else -v160_l5) (if 0 < v160_l5 then v160_l5 else -v160_l5) (4 * (if 0 < v160_l3 then v160_l3 else -v160_l3)) (if 0 < v160_l7 then v160_l7 else -v160_l7)) = 0 then 1000 else (if 0 ≤ (ka_cmp (if 0 < v160_l5 then v160_l5 else -v160_l5) (if 0 < v160_l5 then v160_l5 else -v160_l5) (4 * (if 0 < v160_l3 then v160_l3 else -v160_l3)) (if 0 < v160_l7 then v160_l7 else -v160_l7)) then v160_l11 else (if v160_l10 = v160_l9 then (v160_l11 + v160_l9) else v160_l11))) else v160_l11))))
def ka_turns (sx : Int32) (sy : Int32) (bx : Int32) (b2 : Int32) (ex : Int32) (ey : Int32) (a : Int32) (b : Int32) : Int32 := (if (ka_may sx sy bx b2 ex ey b) = 0 then 0 else (if a ≤ (if sx < (if bx < ex then ex else bx) then (if bx < ex then ex else bx) else sx) then (ka_turns_k160 sx sy bx b2 ex ey a b (ka_side sx sy bx b2 ex ey (ka_turn (Int32.toInt64 (ex - a)) (Int32.toInt64 (ey - b)) (Int32.toInt64 (sx - a)) (Int32.toInt64 (sy - b)))) (ka_share sx sy bx b2 ex ey (ka_side sx sy bx b2 ex ey (ka_turn (Int32.toInt64 (ex - a)) (Int32.toInt64 (ey - b)) (Int32.toInt64 (sx - a)) (Int32.toInt64 (sy - b)))) b) (ka_turn (Int32.toInt64 (bx - a)) (Int32.toInt64 (b2 - b)) (Int32.toInt64 (ex - a)) (Int32.toInt64 (ey - b))) (ka_turn (Int32.toInt64 (ex - a)) (Int32.toInt64 (ey - b)) (Int32.toInt64 (sx - a)) (Int32.toInt64 (sy - b))) (ka_turn (Int32.toInt64 (sx - a)) (Int32.toInt64 (sy - b)) (Int32.toInt64 (bx - a)) (Int32.toInt64 (b2 - b))) (jl_cmp (((ka_turn (Int32.toInt64 (bx - a)) (Int32.toInt64 (b2 - b)) (Int32.toInt64 (ex - a)) (Int32.toInt64 (ey - b))) + (ka_turn (Int32.toInt64 (ex - a)) (Int32.toInt64 (ey - b)) (Int32.toInt64 (sx - a)) (Int32.toInt64 (sy - b)))) + (ka_turn (Int32.toInt64 (sx - a)) (Int32.toInt64 (sy - b)) (Int32.toInt64 (bx - a)) (Int32.toInt64 (b2 - b)))) 0)) else 0))
set_option maxHeartbeats 4000000 in
set_option maxRecDepth 100000 in
theorem c_ka_turns (l : Launch) (dC : Nat → ClassId) (dI : Nat → Nat → Nat) (h0 : Nat) (sx : Int32) (sy : Int32) (bx : Int32) (b2 : Int32) (ex : Int32) (ey : Int32) (a : Int32) (b : Int32) : pr_i l y_A_turnsAround w_A_turnsAround { frames := 3, cells := 0, slots := 0, locals := 71 } (dC, dI) cls9 [(h0, .inr (1, [.int sx, .int sy, .int bx, .int b2, .int ex, .int ey]))] [] [.ref h0, .int a, .int b] (ka_turns sx sy bx b2 ex ey a b) := by
  intro sz
  refine Met.ofW (cc := b_A_turnsAround) (maxL := 13) (ret := (some .int)) (by decide) rfl ?_
  intro p e s m args below meth c s₁ B hml hv
  obtain ⟨hargs, hsz, hP, hK⟩ := hv
  have hx := B.exec
  have hb := B.bytes
  have hr := B.returns
  have hts : ∀ w ∈ lw_w, w.before args s = true := fun w h => atoms_spec (ws := w_A_turnsAround) B.pre w (List.mem_cons_of_mem _ h)
  have hown : s.vm.findClass R_A = some m.cls := findClass_of_methodNamed B.named
  have hlocks := B.notSynchronized
  subst hsz
  generalize hR : (headSpec w_A_turnsAround { frames := 3, cells := 0, slots := 0, locals := 71 }).room = R
  generalize hAe : (fun q : Nat => s.heap.size ≤ q) = A
  have hA : ∀ q : Nat, s.heap.size ≤ q → A q := fun q h => by rw [← hAe]; exact h
  have hS : va_S A s.heap s.heap [] := va_S.rf
  generalize hRES : ka_turns sx sy bx b2 ex ey a b = RES
  have hres := hRES
  replace hRES := hRES.symm
  have hl := lv_entry [.ref h0, .int a, .int b] (n := 13) (Nat.le_of_ble_eq_true rfl)
  have hent : entryFrame m args 13 = F0 m 0 (lg_sl [.ref h0, .int a, .int b] ++ List.replicate (13 - (lg_sl [.ref h0, .int a, .int b]).length) Slot.unset).toArray [] := by rw [hargs]; exact lg_entry_eq m [.ref h0, .int a, .int b] 13
  rw [hent]
  clear hent
  generalize (lg_sl [.ref h0, .int a, .int b] ++ List.replicate (13 - (lg_sl [.ref h0, .int a, .int b]).length) Slot.unset).toArray = ls at hl ⊢
  have hl : lv_has ls 13 [(0, .ref h0), (1, .int a), (2, .int b)] := hl
  have hP : va_P (dC, dI) cls9 [(h0, .inr (1, [.int sx, .int sy, .int bx, .int b2, .int ex, .int ey]))] s.heap := hP
  unfold ka_turns at hres
  generalize hQ : MQ below (va_Qi (fun x (_ : Unit) => x = RES) (fun _ _ => True) A) args s 0 0 A = Q
  replace hQ := hQ.symm
  refine lv_aload_n hx hb d_A_turnsAround_0 rfl (lv_at hl 0 rfl) ?_
  refine lv_iload_n hx hb d_A_turnsAround_1 rfl (lv_at hl 2 rfl) ?_
  refine cq_Vi (C := R_A) (T := F_A) (N := 6) (ci := 1) (As := [.int b]) (rest := []) (w1 := [(h0, .inr (1, [.int sx, .int sy, .int bx, .int b2, .int ex, .int ey]))]) (tys := []) ⟨hx, hb, hml, hown, hts⟩ (c_ka_may l dC dI h0 sx sy bx b2 ex ey b) (cwV 1 hts (gi_V tw_210 tw_211 tw_212 tw_7 tw_213) rfl rfl rfl (by decide +kernel) ⟨(by rw [← hR]; exact Nat.le_of_ble_eq_true rfl), (by rw [← hR]; exact Nat.le_of_ble_eq_true rfl)⟩) hK (hP.sub [0] rfl) (hK.sub [] rfl) 0 rfl rfl rfl rfl hl.1 (Nat.le_of_ble_eq_true rfl) d_A_turnsAround_2 ⟨Nat.zero_le _, Nat.zero_le _⟩ hP hS hA (fun H locs hP hS => ?_)
  refine lv_if_eq (tgt := 30) hx hb d_A_turnsAround_5 rfl (fun h5 => ?_) (fun h5 => ?_)
  · rw [if_pos h5] at hres
    refine lv_iconst (v := 0) hx hb d_A_turnsAround_30 (by decide) ?_
    rw [hQ]
    exact W.iret (v := 0) hx hb hr (fun t ht hW => ⟨⟨_, (), rfl, hres, trivial⟩, hS.F ht⟩) hS.2.2 d_A_turnsAround_31
  · rw [if_neg h5] at hres
    refine lv_iload_n hx hb d_A_turnsAround_8 rfl (lv_at hl 1 rfl) ?_
    refine lv_aload_n hx hb d_A_turnsAround_9 rfl (lv_at hl 0 rfl) ?_
    refine va_get (D := (dC, dI)) (ci := 1) (v := .int sx) (C := R_A) (T := F_A) (N := 6) hx hb hts in_A hown hK hP 0 rfl rfl 0 (by decide) (hts _ tw_110) (fun _ h9 => h9) rfl d_A_turnsAround_10 ?_
    refine lv_aload_n hx hb d_A_turnsAround_13 rfl (lv_at hl 0 rfl) ?_
    refine va_get (D := (dC, dI)) (ci := 1) (v := .int bx) (C := R_A) (T := F_A) (N := 6) hx hb hts in_A hown hK hP 0 rfl rfl 2 (by decide) (hts _ tw_112) (fun _ h9 => h9) rfl d_A_turnsAround_14 ?_
    refine lv_aload_n hx hb d_A_turnsAround_17 rfl (lv_at hl 0 rfl) ?_
    refine va_get (D := (dC, dI)) (ci := 1) (v := .int ex) (C := R_A) (T := F_A) (N := 6) hx hb hts in_A hown hK hP 0 rfl rfl 4 (by decide) (hts _ tw_114) (fun _ h9 => h9) rfl d_A_turnsAround_18 ?_
    refine va_mmax hx hb (hml.trans hl.1.symm) hown (hts _ tw_215) (hts _ tw_27) (hts _ tw_2) (hts _ tw_28) (by rw [← hR]; exact Nat.le_of_ble_eq_true rfl) (by rw [← hR]; exact Nat.le_of_ble_eq_true rfl) (Nat.zero_le _) (Nat.zero_le _) d_A_turnsAround_21 ?_
    refine va_mmax hx hb (hml.trans hl.1.symm) hown (hts _ tw_215) (hts _ tw_27) (hts _ tw_2) (hts _ tw_28) (by rw [← hR]; exact Nat.le_of_ble_eq_true rfl) (by rw [← hR]; exact Nat.le_of_ble_eq_true rfl) (Nat.zero_le _) (Nat.zero_le _) d_A_turnsAround_24 ?_
    refine lv_icmp_le (tgt := 32) hx hb d_A_turnsAround_27 rfl (fun h27 => ?_) (fun h27 => ?_)
    · rw [if_pos h27] at hres
      refine lv_aload_n hx hb d_A_turnsAround_32 rfl (lv_at hl 0 rfl) ?_
      refine va_get (D := (dC, dI)) (ci := 1) (v := .int bx) (C := R_A) (T := F_A) (N := 6) hx hb hts in_A hown hK hP 0 rfl rfl 2 (by decide) (hts _ tw_112) (fun _ h9 => h9) rfl d_A_turnsAround_33 ?_
      refine lv_iload_n hx hb d_A_turnsAround_36 rfl (lv_at hl 1 rfl) ?_
      refine lv_isub hx hb d_A_turnsAround_37 ?_
      refine lv_i2l (v := Int32.toInt64 (bx - a)) hx hb d_A_turnsAround_38 rfl ?_
      refine lv_aload_n hx hb d_A_turnsAround_39 rfl (lv_at hl 0 rfl) ?_
      refine va_get (D := (dC, dI)) (ci := 1) (v := .int b2) (C := R_A) (T := F_A) (N := 6) hx hb hts in_A hown hK hP 0 rfl rfl 3 (by decide) (hts _ tw_113) (fun _ h9 => h9) rfl d_A_turnsAround_40 ?_
      refine lv_iload_n hx hb d_A_turnsAround_43 rfl (lv_at hl 2 rfl) ?_
      refine lv_isub hx hb d_A_turnsAround_44 ?_
      refine lv_i2l (v := Int32.toInt64 (b2 - b)) hx hb d_A_turnsAround_45 rfl ?_
      refine lv_aload_n hx hb d_A_turnsAround_46 rfl (lv_at hl 0 rfl) ?_
      refine va_get (D := (dC, dI)) (ci := 1) (v := .int ex) (C := R_A) (T := F_A) (N := 6) hx hb hts in_A hown hK hP 0 rfl rfl 4 (by decide) (hts _ tw_114) (fun _ h9 => h9) rfl d_A_turnsAround_47 ?_
      refine lv_iload_n hx hb d_A_turnsAround_50 rfl (lv_at hl 1 rfl) ?_
      refine lv_isub hx hb d_A_turnsAround_51 ?_
      refine lv_i2l (v := Int32.toInt64 (ex - a)) hx hb d_A_turnsAround_52 rfl ?_
      refine lv_aload_n hx hb d_A_turnsAround_53 rfl (lv_at hl 0 rfl) ?_
      refine va_get (D := (dC, dI)) (ci := 1) (v := .int ey) (C := R_A) (T := F_A) (N := 6) hx hb hts in_A hown hK hP 0 rfl rfl 5 (by decide) (hts _ tw_115) (fun _ h9 => h9) rfl d_A_turnsAround_54 ?_
      refine lv_iload_n hx hb d_A_turnsAround_57 rfl (lv_at hl 2 rfl) ?_
      refine lv_isub hx hb d_A_turnsAround_58 ?_
      refine lv_i2l (v := Int32.toInt64 (ey - b)) hx hb d_A_turnsAround_59 rfl ?_
      refine cq_Sl (As := [.long (Int32.toInt64 (bx - a)), .long (Int32.toInt64 (b2 - b)), .long (Int32.toInt64 (ex - a)), .long (Int32.toInt64 (ey - b))]) (rest := []) ⟨hx, hb, hml, hown, hts⟩ (c_ka_turn l dC dI (Int32.toInt64 (bx - a)) (Int32.toInt64 (b2 - b)) (Int32.toInt64 (ex - a)) (Int32.toInt64 (ey - b))) (va_cwS 4 hts (gi_S tw_216 tw_217 tw_7 tw_218) rfl rfl rfl (by decide +kernel) ⟨(by rw [← hR]; exact Nat.le_of_ble_eq_true rfl), (by rw [← hR]; exact Nat.le_of_ble_eq_true rfl)⟩) rfl rfl hl.1 (Nat.le_of_ble_eq_true rfl) d_A_turnsAround_60 ⟨Nat.zero_le _, Nat.zero_le _⟩ hP hS hA (fun H locs hP hS => ?_)
      refine lv_lstore_n (lv' := [(3, .long (ka_turn (Int32.toInt64 (bx - a)) (Int32.toInt64 (b2 - b)) (Int32.toInt64 (ex - a)) (Int32.toInt64 (ey - b)))), (0, .ref h0), (1, .int a), (2, .int b)]) hx hb d_A_turnsAround_63 rfl hl (by decide) rfl (fun ls hl => ?_)
      refine lv_aload_n hx hb d_A_turnsAround_64 rfl (lv_at hl 1 rfl) ?_
      refine va_get (D := (dC, dI)) (ci := 1) (v := .int ex) (C := R_A) (T := F_A) (N := 6) hx hb hts in_A hown hK hP 0 rfl rfl 4 (by decide) (hts _ tw_114) (fun _ h9 => h9) rfl d_A_turnsAround_65 ?_
      refine lv_iload_n hx hb d_A_turnsAround_68 rfl (lv_at hl 2 rfl) ?_
      refine lv_isub hx hb d_A_turnsAround_69 ?_
      refine lv_i2l (v := Int32.toInt64 (ex - a)) hx hb d_A_turnsAround_70 rfl ?_
      refine lv_aload_n hx hb d_A_turnsAround_71 rfl (lv_at hl 1 rfl) ?_
      refine va_get (D := (dC, dI)) (ci := 1) (v := .int ey) (C := R_A) (T := F_A) (N := 6) hx hb hts in_A hown hK hP 0 rfl rfl 5 (by decide) (hts _ tw_115) (fun _ h9 => h9) rfl d_A_turnsAround_72 ?_
      refine lv_iload_n hx hb d_A_turnsAround_75 rfl (lv_at hl 3 rfl) ?_
      refine lv_isub hx hb d_A_turnsAround_76 ?_
      refine lv_i2l (v := Int32.toInt64 (ey - b)) hx hb d_A_turnsAround_77 rfl ?_
      refine lv_aload_n hx hb d_A_turnsAround_78 rfl (lv_at hl 1 rfl) ?_
      refine va_get (D := (dC, dI)) (ci := 1) (v := .int sx) (C := R_A) (T := F_A) (N := 6) hx hb hts in_A hown hK hP 0 rfl rfl 0 (by decide) (hts _ tw_110) (fun _ h9 => h9) rfl d_A_turnsAround_79 ?_
      refine lv_iload_n hx hb d_A_turnsAround_82 rfl (lv_at hl 2 rfl) ?_
      refine lv_isub hx hb d_A_turnsAround_83 ?_
      refine lv_i2l (v := Int32.toInt64 (sx - a)) hx hb d_A_turnsAround_84 rfl ?_
      refine lv_aload_n hx hb d_A_turnsAround_85 rfl (lv_at hl 1 rfl) ?_
      refine va_get (D := (dC, dI)) (ci := 1) (v := .int sy) (C := R_A) (T := F_A) (N := 6) hx hb hts in_A hown hK hP 0 rfl rfl 1 (by decide) (hts _ tw_111) (fun _ h9 => h9) rfl d_A_turnsAround_86 ?_
      refine lv_iload_n hx hb d_A_turnsAround_89 rfl (lv_at hl 3 rfl) ?_
      refine lv_isub hx hb d_A_turnsAround_90 ?_
      refine lv_i2l (v := Int32.toInt64 (sy - b)) hx hb d_A_turnsAround_91 rfl ?_
      refine cq_Sl (As := [.long (Int32.toInt64 (ex - a)), .long (Int32.toInt64 (ey - b)), .long (Int32.toInt64 (sx - a)), .long (Int32.toInt64 (sy - b))]) (rest := []) ⟨hx, hb, hml, hown, hts⟩ (c_ka_turn l dC dI (Int32.toInt64 (ex - a)) (Int32.toInt64 (ey - b)) (Int32.toInt64 (sx - a)) (Int32.toInt64 (sy - b))) (va_cwS 4 hts (gi_S tw_216 tw_217 tw_7 tw_218) rfl rfl rfl (by decide +kernel) ⟨(by rw [← hR]; exact Nat.le_of_ble_eq_true rfl), (by rw [← hR]; exact Nat.le_of_ble_eq_true rfl)⟩) rfl rfl hl.1 (Nat.le_of_ble_eq_true rfl) d_A_turnsAround_92 ⟨Nat.zero_le _, Nat.zero_le _⟩ hP hS hA (fun H locs hP hS => ?_)
      refine lv_lstore (lv' := [(5, .long (ka_turn (Int32.toInt64 (ex - a)) (Int32.toInt64 (ey - b)) (Int32.toInt64 (sx - a)) (Int32.toInt64 (sy - b)))), (3, .long (ka_turn (Int32.toInt64 (bx - a)) (Int32.toInt64 (b2 - b)) (Int32.toInt64 (ex - a)) (Int32.toInt64 (ey - b)))), (0, .ref h0), (1, .int a), (2, .int b)]) hx hb d_A_turnsAround_95 hl (by decide) rfl (fun ls hl => ?_)
      refine lv_aload_n hx hb d_A_turnsAround_97 rfl (lv_at hl 2 rfl) ?_
      refine va_get (D := (dC, dI)) (ci := 1) (v := .int sx) (C := R_A) (T := F_A) (N := 6) hx hb hts in_A hown hK hP 0 rfl rfl 0 (by decide) (hts _ tw_110) (fun _ h9 => h9) rfl d_A_turnsAround_98 ?_
      refine lv_iload_n hx hb d_A_turnsAround_101 rfl (lv_at hl 3 rfl) ?_
      refine lv_isub hx hb d_A_turnsAround_102 ?_
      refine lv_i2l (v := Int32.toInt64 (sx - a)) hx hb d_A_turnsAround_103 rfl ?_
      refine lv_aload_n hx hb d_A_turnsAround_104 rfl (lv_at hl 2 rfl) ?_
      refine va_get (D := (dC, dI)) (ci := 1) (v := .int sy) (C := R_A) (T := F_A) (N := 6) hx hb hts in_A hown hK hP 0 rfl rfl 1 (by decide) (hts _ tw_111) (fun _ h9 => h9) rfl d_A_turnsAround_105 ?_
      refine lv_iload_n hx hb d_A_turnsAround_108 rfl (lv_at hl 4 rfl) ?_
      refine lv_isub hx hb d_A_turnsAround_109 ?_
      refine lv_i2l (v := Int32.toInt64 (sy - b)) hx hb d_A_turnsAround_110 rfl ?_
      refine lv_aload_n hx hb d_A_turnsAround_111 rfl (lv_at hl 2 rfl) ?_
      refine va_get (D := (dC, dI)) (ci := 1) (v := .int bx) (C := R_A) (T := F_A) (N := 6) hx hb hts in_A hown hK hP 0 rfl rfl 2 (by decide) (hts _ tw_112) (fun _ h9 => h9) rfl d_A_turnsAround_112 ?_
      refine lv_iload_n hx hb d_A_turnsAround_115 rfl (lv_at hl 3 rfl) ?_
      refine lv_isub hx hb d_A_turnsAround_116 ?_
      refine lv_i2l (v := Int32.toInt64 (bx - a)) hx hb d_A_turnsAround_117 rfl ?_
      refine lv_aload_n hx hb d_A_turnsAround_118 rfl (lv_at hl 2 rfl) ?_
      refine va_get (D := (dC, dI)) (ci := 1) (v := .int b2) (C := R_A) (T := F_A) (N := 6) hx hb hts in_A hown hK hP 0 rfl rfl 3 (by decide) (hts _ tw_113) (fun _ h9 => h9) rfl d_A_turnsAround_119 ?_
      refine lv_iload_n hx hb d_A_turnsAround_122 rfl (lv_at hl 4 rfl) ?_
      refine lv_isub hx hb d_A_turnsAround_123 ?_
      refine lv_i2l (v := Int32.toInt64 (b2 - b)) hx hb d_A_turnsAround_124 rfl ?_
      refine cq_Sl (As := [.long (Int32.toInt64 (sx - a)), .long (Int32.toInt64 (sy - b)), .long (Int32.toInt64 (bx - a)), .long (Int32.toInt64 (b2 - b))]) (rest := []) ⟨hx, hb, hml, hown, hts⟩ (c_ka_turn l dC dI (Int32.toInt64 (sx - a)) (Int32.toInt64 (sy - b)) (Int32.toInt64 (bx - a)) (Int32.toInt64 (b2 - b))) (va_cwS 4 hts (gi_S tw_216 tw_217 tw_7 tw_218) rfl rfl rfl (by decide +kernel) ⟨(by rw [← hR]; exact Nat.le_of_ble_eq_true rfl), (by rw [← hR]; exact Nat.le_of_ble_eq_true rfl)⟩) rfl rfl hl.1 (Nat.le_of_ble_eq_true rfl) d_A_turnsAround_125 ⟨Nat.zero_le _, Nat.zero_le _⟩ hP hS hA (fun H locs hP hS => ?_)
      refine lv_lstore (lv' := [(7, .long (ka_turn (Int32.toInt64 (sx - a)) (Int32.toInt64 (sy - b)) (Int32.toInt64 (bx - a)) (Int32.toInt64 (b2 - b)))), (5, .long (ka_turn (Int32.toInt64 (ex - a)) (Int32.toInt64 (ey - b)) (Int32.toInt64 (sx - a)) (Int32.toInt64 (sy - b)))), (3, .long (ka_turn (Int32.toInt64 (bx - a)) (Int32.toInt64 (b2 - b)) (Int32.toInt64 (ex - a)) (Int32.toInt64 (ey - b)))), (0, .ref h0), (1, .int a), (2, .int b)]) hx hb d_A_turnsAround_128 hl (by decide) rfl (fun ls hl => ?_)
      refine lv_lload_n hx hb d_A_turnsAround_130 rfl (lv_at hl 2 rfl) ?_
      refine lv_lload hx hb d_A_turnsAround_131 (lv_at hl 1 rfl) ?_
      refine lv_ladd hx hb d_A_turnsAround_133 ?_
      refine lv_lload hx hb d_A_turnsAround_134 (lv_at hl 0 rfl) ?_
      refine lv_ladd hx hb d_A_turnsAround_136 ?_
      refine lv_lconst (v := 0) hx hb d_A_turnsAround_137 (by decide) ?_
      refine cq_Si (As := [.long (((ka_turn (Int32.toInt64 (bx - a)) (Int32.toInt64 (b2 - b)) (Int32.toInt64 (ex - a)) (Int32.toInt64 (ey - b))) + (ka_turn (Int32.toInt64 (ex - a)) (Int32.toInt64 (ey - b)) (Int32.toInt64 (sx - a)) (Int32.toInt64 (sy - b)))) + (ka_turn (Int32.toInt64 (sx - a)) (Int32.toInt64 (sy - b)) (Int32.toInt64 (bx - a)) (Int32.toInt64 (b2 - b)))), .long 0]) (rest := []) ⟨hx, hb, hml, hown, hts⟩ (c_jl_cmp l dC dI (((ka_turn (Int32.toInt64 (bx - a)) (Int32.toInt64 (b2 - b)) (Int32.toInt64 (ex - a)) (Int32.toInt64 (ey - b))) + (ka_turn (Int32.toInt64 (ex - a)) (Int32.toInt64 (ey - b)) (Int32.toInt64 (sx - a)) (Int32.toInt64 (sy - b)))) + (ka_turn (Int32.toInt64 (sx - a)) (Int32.toInt64 (sy - b)) (Int32.toInt64 (bx - a)) (Int32.toInt64 (b2 - b)))) 0) (va_cwS 2 hts (gi_S tw_219 tw_220 tw_13 tw_221) rfl rfl rfl (by decide +kernel) ⟨(by rw [← hR]; exact Nat.le_of_ble_eq_true rfl), (by rw [← hR]; exact Nat.le_of_ble_eq_true rfl)⟩) rfl rfl hl.1 (Nat.le_of_ble_eq_true rfl) d_A_turnsAround_138 ⟨Nat.zero_le _, Nat.zero_le _⟩ hP hS hA (fun H locs hP hS => ?_)
      refine lv_istore (lv' := [(9, .int (jl_cmp (((ka_turn (Int32.toInt64 (bx - a)) (Int32.toInt64 (b2 - b)) (Int32.toInt64 (ex - a)) (Int32.toInt64 (ey - b))) + (ka_turn (Int32.toInt64 (ex - a)) (Int32.toInt64 (ey - b)) (Int32.toInt64 (sx - a)) (Int32.toInt64 (sy - b)))) + (ka_turn (Int32.toInt64 (sx - a)) (Int32.toInt64 (sy - b)) (Int32.toInt64 (bx - a)) (Int32.toInt64 (b2 - b)))) 0)), (7, .long (ka_turn (Int32.toInt64 (sx - a)) (Int32.toInt64 (sy - b)) (Int32.toInt64 (bx - a)) (Int32.toInt64 (b2 - b)))), (5, .long (ka_turn (Int32.toInt64 (ex - a)) (Int32.toInt64 (ey - b)) (Int32.toInt64 (sx - a)) (Int32.toInt64 (sy - b)))), (3, .long (ka_turn (Int32.toInt64 (bx - a)) (Int32.toInt64 (b2 - b)) (Int32.toInt64 (ex - a)) (Int32.toInt64 (ey - b)))), (0, .ref h0), (1, .int a), (2, .int b)]) hx hb d_A_turnsAround_141 hl (by decide) rfl (fun ls hl => ?_)
      refine lv_aload_n hx hb d_A_turnsAround_143 rfl (lv_at hl 4 rfl) ?_
      refine lv_lload hx hb d_A_turnsAround_144 (lv_at hl 2 rfl) ?_
      refine cq_Vi (C := R_A) (T := F_A) (N := 6) (ci := 1) (As := [.long (ka_turn (Int32.toInt64 (ex - a)) (Int32.toInt64 (ey - b)) (Int32.toInt64 (sx - a)) (Int32.toInt64 (sy - b)))]) (rest := []) (w1 := [(h0, .inr (1, [.int sx, .int sy, .int bx, .int b2, .int ex, .int ey]))]) (tys := []) ⟨hx, hb, hml, hown, hts⟩ (c_ka_side l dC dI h0 sx sy bx b2 ex ey (ka_turn (Int32.toInt64 (ex - a)) (Int32.toInt64 (ey - b)) (Int32.toInt64 (sx - a)) (Int32.toInt64 (sy - b)))) (cwV 1 hts (gi_V tw_222 tw_224 ts_5 tw_7 tw_225) rfl rfl rfl (by decide +kernel) ⟨(by rw [← hR]; exact Nat.le_of_ble_eq_true rfl), (by rw [← hR]; exact Nat.le_of_ble_eq_true rfl)⟩) hK (hP.sub [0] rfl) (hK.sub [] rfl) 0 rfl rfl rfl rfl hl.1 (Nat.le_of_ble_eq_true rfl) d_A_turnsAround_146 ⟨Nat.zero_le _, Nat.zero_le _⟩ hP hS hA (fun H locs hP hS => ?_)
      refine lv_istore (lv' := [(10, .int (ka_side sx sy bx b2 ex ey (ka_turn (Int32.toInt64 (ex - a)) (Int32.toInt64 (ey - b)) (Int32.toInt64 (sx - a)) (Int32.toInt64 (sy - b))))), (9, .int (jl_cmp (((ka_turn (Int32.toInt64 (bx - a)) (Int32.toInt64 (b2 - b)) (Int32.toInt64 (ex - a)) (Int32.toInt64 (ey - b))) + (ka_turn (Int32.toInt64 (ex - a)) (Int32.toInt64 (ey - b)) (Int32.toInt64 (sx - a)) (Int32.toInt64 (sy - b)))) + (ka_turn (Int32.toInt64 (sx - a)) (Int32.toInt64 (sy - b)) (Int32.toInt64 (bx - a)) (Int32.toInt64 (b2 - b)))) 0)), (7, .long (ka_turn (Int32.toInt64 (sx - a)) (Int32.toInt64 (sy - b)) (Int32.toInt64 (bx - a)) (Int32.toInt64 (b2 - b)))), (5, .long (ka_turn (Int32.toInt64 (ex - a)) (Int32.toInt64 (ey - b)) (Int32.toInt64 (sx - a)) (Int32.toInt64 (sy - b)))), (3, .long (ka_turn (Int32.toInt64 (bx - a)) (Int32.toInt64 (b2 - b)) (Int32.toInt64 (ex - a)) (Int32.toInt64 (ey - b)))), (0, .ref h0), (1, .int a), (2, .int b)]) hx hb d_A_turnsAround_149 hl (by decide) rfl (fun ls hl => ?_)
      refine lv_aload_n hx hb d_A_turnsAround_151 rfl (lv_at hl 5 rfl) ?_
      refine lv_iload hx hb d_A_turnsAround_152 (lv_at hl 0 rfl) ?_
      refine lv_iload_n hx hb d_A_turnsAround_154 rfl (lv_at hl 7 rfl) ?_
      refine cq_Vi (C := R_A) (T := F_A) (N := 6) (ci := 1) (As := [.int (ka_side sx sy bx b2 ex ey (ka_turn (Int32.toInt64 (ex - a)) (Int32.toInt64 (ey - b)) (Int32.toInt64 (sx - a)) (Int32.toInt64 (sy - b)))), .int b]) (rest := []) (w1 := [(h0, .inr (1, [.int sx, .int sy, .int bx, .int b2, .int ex, .int ey]))]) (tys := []) ⟨hx, hb, hml, hown, hts⟩ (c_ka_share l dC dI h0 sx sy bx b2 ex ey (ka_side sx sy bx b2 ex ey (ka_turn (Int32.toInt64 (ex - a)) (Int32.toInt64 (ey - b)) (Int32.toInt64 (sx - a)) (Int32.toInt64 (sy - b)))) b) (cwV 2 hts (gi_V tw_229 tw_231 ts_6 tw_7 tw_232) rfl rfl rfl (by decide +kernel) ⟨(by rw [← hR]; exact Nat.le_of_ble_eq_true rfl), (by rw [← hR]; exact Nat.le_of_ble_eq_true rfl)⟩) hK (hP.sub [0] rfl) (hK.sub [] rfl) 0 rfl rfl rfl rfl hl.1 (Nat.le_of_ble_eq_true rfl) d_A_turnsAround_155 ⟨Nat.zero_le _, Nat.zero_le _⟩ hP hS hA (fun H locs hP hS => ?_)
      refine lv_istore (lv' := [(11, .int (ka_share sx sy bx b2 ex ey (ka_side sx sy bx b2 ex ey (ka_turn (Int32.toInt64 (ex - a)) (Int32.toInt64 (ey - b)) (Int32.toInt64 (sx - a)) (Int32.toInt64 (sy - b)))) b)), (10, .int (ka_side sx sy bx b2 ex ey (ka_turn (Int32.toInt64 (ex - a)) (Int32.toInt64 (ey - b)) (Int32.toInt64 (sx - a)) (Int32.toInt64 (sy - b))))), (9, .int (jl_cmp (((ka_turn (Int32.toInt64 (bx - a)) (Int32.toInt64 (b2 - b)) (Int32.toInt64 (ex - a)) (Int32.toInt64 (ey - b))) + (ka_turn (Int32.toInt64 (ex - a)) (Int32.toInt64 (ey - b)) (Int32.toInt64 (sx - a)) (Int32.toInt64 (sy - b)))) + (ka_turn (Int32.toInt64 (sx - a)) (Int32.toInt64 (sy - b)) (Int32.toInt64 (bx - a)) (Int32.toInt64 (b2 - b)))) 0)), (7, .long (ka_turn (Int32.toInt64 (sx - a)) (Int32.toInt64 (sy - b)) (Int32.toInt64 (bx - a)) (Int32.toInt64 (b2 - b)))), (5, .long (ka_turn (Int32.toInt64 (ex - a)) (Int32.toInt64 (ey - b)) (Int32.toInt64 (sx - a)) (Int32.toInt64 (sy - b)))), (3, .long (ka_turn (Int32.toInt64 (bx - a)) (Int32.toInt64 (b2 - b)) (Int32.toInt64 (ex - a)) (Int32.toInt64 (ey - b)))), (0, .ref h0), (1, .int a), (2, .int b)]) hx hb d_A_turnsAround_158 hl (by decide) rfl (fun ls hl => ?_)
      have K160 : ∀ (v160_l10 : Int32) (v160_l11 : Int32) (v160_l3 : Int64) (v160_l5 : Int64) (v160_l7 : Int64) (v160_l9 : Int32), ka_turns_k160 sx sy bx b2 ex ey a b v160_l10 v160_l11 v160_l3 v160_l5 v160_l7 v160_l9 = RES → ∀ (ls : Array Slot) (H : Heap) (locs : List Loc), lv_has ls 13 [(11, .int v160_l11), (10, .int v160_l10), (9, .int v160_l9), (7, .long v160_l7), (5, .long v160_l5), (3, .long v160_l3), (0, .ref h0), (1, .int a), (2, .int b)] → va_P (dC, dI) cls9 [(h0, .inr (1, [.int sx, .int sy, .int bx, .int b2, .int ex, .int ey]))] H → va_S A s.heap H locs → W p l e R s m args below meth c H locs 0 0 Q (F0 m 160 ls []) := by
        intro v160_l10 v160_l11 v160_l3 v160_l5 v160_l7 v160_l9 hres ls H locs hl hP hS
        unfold ka_turns_k160 at hres
        refine lv_iload hx hb d_A_turnsAround_160 (lv_at hl 2 rfl) ?_
        refine lv_if_ne (tgt := 215) hx hb d_A_turnsAround_162 rfl (fun h162 => ?_) (fun h162 => ?_)
        · rw [if_neg h162] at hres
          refine lv_iload hx hb d_A_turnsAround_215 (lv_at hl 2 rfl) ?_
          refine lv_i2l (v := Int32.toInt64 v160_l9) hx hb d_A_turnsAround_217 rfl ?_
          refine lv_lload_n hx hb d_A_turnsAround_218 rfl (lv_at hl 5 rfl) ?_
          refine lv_lmul hx hb d_A_turnsAround_219 ?_
          refine lv_lconst (v := 0) hx hb d_A_turnsAround_220 (by decide) ?_
          refine W.lcmp hx hb d_A_turnsAround_221 ?_
          refine lv_if_lt (tgt := 247) hx hb d_A_turnsAround_222 rfl (fun h222 => ?_) (fun h222 => ?_)
          · rw [if_pos h222] at hres
            refine lv_iload hx hb d_A_turnsAround_247 (lv_at hl 0 rfl) ?_
            rw [hQ]
            exact W.iret (v := v160_l11) hx hb hr (fun t ht hW => ⟨⟨_, (), rfl, hres, trivial⟩, hS.F ht⟩) hS.2.2 d_A_turnsAround_249
          · rw [if_neg h222] at hres
            refine lv_iload hx hb d_A_turnsAround_225 (lv_at hl 2 rfl) ?_
            refine lv_i2l (v := Int32.toInt64 v160_l9) hx hb d_A_turnsAround_227 rfl ?_
            refine lv_lload hx hb d_A_turnsAround_228 (lv_at hl 4 rfl) ?_
            refine lv_lmul hx hb d_A_turnsAround_230 ?_
            refine lv_lconst (v := 0) hx hb d_A_turnsAround_231 (by decide) ?_
            refine W.lcmp hx hb d_A_turnsAround_232 ?_
            refine lv_if_lt (tgt := 247) hx hb d_A_turnsAround_233 rfl (fun h233 => ?_) (fun h233 => ?_)
            · rw [if_pos h233] at hres
              refine lv_iload hx hb d_A_turnsAround_247 (lv_at hl 0 rfl) ?_
              rw [hQ]
              exact W.iret (v := v160_l11) hx hb hr (fun t ht hW => ⟨⟨_, (), rfl, hres, trivial⟩, hS.F ht⟩) hS.2.2 d_A_turnsAround_249
            · rw [if_neg h233] at hres
              refine lv_iload hx hb d_A_turnsAround_236 (lv_at hl 2 rfl) ?_
              refine lv_i2l (v := Int32.toInt64 v160_l9) hx hb d_A_turnsAround_238 rfl ?_
              refine lv_lload hx hb d_A_turnsAround_239 (lv_at hl 3 rfl) ?_
              refine lv_lmul hx hb d_A_turnsAround_241 ?_
              refine lv_lconst (v := 0) hx hb d_A_turnsAround_242 (by decide) ?_
              refine W.lcmp hx hb d_A_turnsAround_243 ?_
              refine lv_if_ge (tgt := 250) hx hb d_A_turnsAround_244 rfl (fun h244 => ?_) (fun h244 => ?_)
              · rw [if_pos h244] at hres
                refine lv_lload hx hb d_A_turnsAround_250 (lv_at hl 4 rfl) ?_
                refine va_mabs_long hx hb (hml.trans hl.1.symm) hown (hts _ tw_240) (hts _ tw_241) (hts _ tw_2) (hts _ tw_242) (by rw [← hR]; exact Nat.le_of_ble_eq_true rfl) (by rw [← hR]; exact Nat.le_of_ble_eq_true rfl) (Nat.zero_le _) (Nat.zero_le _) d_A_turnsAround_252 ?_
                refine lv_lload hx hb d_A_turnsAround_255 (lv_at hl 4 rfl) ?_
                refine va_mabs_long hx hb (hml.trans hl.1.symm) hown (hts _ tw_240) (hts _ tw_241) (hts _ tw_2) (hts _ tw_242) (by rw [← hR]; exact Nat.le_of_ble_eq_true rfl) (by rw [← hR]; exact Nat.le_of_ble_eq_true rfl) (Nat.zero_le _) (Nat.zero_le _) d_A_turnsAround_257 ?_
                refine lv_ldc2 (v := 4) hx hb hown (hts _ tw_243) d_A_turnsAround_260 ?_
                refine lv_lload_n hx hb d_A_turnsAround_263 rfl (lv_at hl 5 rfl) ?_
                refine va_mabs_long hx hb (hml.trans hl.1.symm) hown (hts _ tw_240) (hts _ tw_241) (hts _ tw_2) (hts _ tw_242) (by rw [← hR]; exact Nat.le_of_ble_eq_true rfl) (by rw [← hR]; exact Nat.le_of_ble_eq_true rfl) (Nat.zero_le _) (Nat.zero_le _) d_A_turnsAround_264 ?_
                refine lv_lmul hx hb d_A_turnsAround_267 ?_
                refine lv_lload hx hb d_A_turnsAround_268 (lv_at hl 3 rfl) ?_
                refine va_mabs_long hx hb (hml.trans hl.1.symm) hown (hts _ tw_240) (hts _ tw_241) (hts _ tw_2) (hts _ tw_242) (by rw [← hR]; exact Nat.le_of_ble_eq_true rfl) (by rw [← hR]; exact Nat.le_of_ble_eq_true rfl) (Nat.zero_le _) (Nat.zero_le _) d_A_turnsAround_270 ?_
                refine cq_Si (As := [.long (if 0 < v160_l5 then v160_l5 else -v160_l5), .long (if 0 < v160_l5 then v160_l5 else -v160_l5), .long (4 * (if 0 < v160_l3 then v160_l3 else -v160_l3)), .long (if 0 < v160_l7 then v160_l7 else -v160_l7)]) (rest := []) ⟨hx, hb, hml, hown, hts⟩ (c_ka_cmp l dC dI (if 0 < v160_l5 then v160_l5 else -v160_l5) (if 0 < v160_l5 then v160_l5 else -v160_l5) (4 * (if 0 < v160_l3 then v160_l3 else -v160_l3)) (if 0 < v160_l7 then v160_l7 else -v160_l7)) (va_cwS 4 hts (gi_S tw_244 tw_245 tw_7 tw_246) rfl rfl rfl (by decide +kernel) ⟨(by rw [← hR]; exact Nat.le_of_ble_eq_true rfl), (by rw [← hR]; exact Nat.le_of_ble_eq_true rfl)⟩) rfl rfl hl.1 (Nat.le_of_ble_eq_true rfl) d_A_turnsAround_273 ⟨Nat.zero_le _, Nat.zero_le _⟩ hP hS hA (fun H locs hP hS => ?_)
                refine lv_istore (lv' := [(12, .int (ka_cmp (if 0 < v160_l5 then v160_l5 else -v160_l5) (if 0 < v160_l5 then v160_l5 else -v160_l5) (4 * (if 0 < v160_l3 then v160_l3 else -v160_l3)) (if 0 < v160_l7 then v160_l7 else -v160_l7))), (11, .int v160_l11), (10, .int v160_l10), (9, .int v160_l9), (7, .long v160_l7), (5, .long v160_l5), (3, .long v160_l3), (0, .ref h0), (1, .int a), (2, .int b)]) hx hb d_A_turnsAround_276 hl (by decide) rfl (fun ls hl => ?_)
                refine lv_iload hx hb d_A_turnsAround_278 (lv_at hl 0 rfl) ?_
                refine lv_if_ne (tgt := 287) hx hb d_A_turnsAround_280 rfl (fun h280 => ?_) (fun h280 => ?_)
                · rw [if_neg h280] at hres
                  refine lv_iload hx hb d_A_turnsAround_287 (lv_at hl 0 rfl) ?_
                  refine lv_if_ge (tgt := 307) hx hb d_A_turnsAround_289 rfl (fun h289 => ?_) (fun h289 => ?_)
                  · rw [if_pos h289] at hres
                    refine lv_iload hx hb d_A_turnsAround_307 (lv_at hl 1 rfl) ?_
                    rw [hQ]
                    exact W.iret (v := v160_l11) hx hb hr (fun t ht hW => ⟨⟨_, (), rfl, hres, trivial⟩, hS.F ht⟩) hS.2.2 d_A_turnsAround_309
                  · rw [if_neg h289] at hres
                    refine lv_iload hx hb d_A_turnsAround_292 (lv_at hl 2 rfl) ?_
                    refine lv_iload hx hb d_A_turnsAround_294 (lv_at hl 3 rfl) ?_
                    refine lv_icmp_ne (tgt := 307) hx hb d_A_turnsAround_296 rfl (fun h296 => ?_) (fun h296 => ?_)
                    · rw [if_neg h296] at hres
                      refine lv_iload hx hb d_A_turnsAround_307 (lv_at hl 1 rfl) ?_
                      rw [hQ]
                      exact W.iret (v := v160_l11) hx hb hr (fun t ht hW => ⟨⟨_, (), rfl, hres, trivial⟩, hS.F ht⟩) hS.2.2 d_A_turnsAround_309
                    · rw [if_pos h296] at hres
                      refine lv_iload hx hb d_A_turnsAround_299 (lv_at hl 1 rfl) ?_
                      refine lv_iload hx hb d_A_turnsAround_301 (lv_at hl 3 rfl) ?_
                      refine lv_iadd hx hb d_A_turnsAround_303 ?_
                      refine lv_goto (tgt := 309) hx hb d_A_turnsAround_304 rfl ?_
                      rw [hQ]
                      exact W.iret (v := v160_l11 + v160_l9) hx hb hr (fun t ht hW => ⟨⟨_, (), rfl, hres, trivial⟩, hS.F ht⟩) hS.2.2 d_A_turnsAround_309
                · rw [if_pos h280] at hres
                  refine lv_sipush (v := 1000) hx hb d_A_turnsAround_283 (by decide) ?_
                  rw [hQ]
                  exact W.iret (v := 1000) hx hb hr (fun t ht hW => ⟨⟨_, (), rfl, hres, trivial⟩, hS.F ht⟩) hS.2.2 d_A_turnsAround_286
              · rw [if_neg h244] at hres
                refine lv_iload hx hb d_A_turnsAround_247 (lv_at hl 0 rfl) ?_
                rw [hQ]
                exact W.iret (v := v160_l11) hx hb hr (fun t ht hW => ⟨⟨_, (), rfl, hres, trivial⟩, hS.F ht⟩) hS.2.2 d_A_turnsAround_249
        · rw [if_pos h162] at hres
          refine lv_lload_n hx hb d_A_turnsAround_165 rfl (lv_at hl 5 rfl) ?_
          refine lv_lconst (v := 0) hx hb d_A_turnsAround_166 (by decide) ?_
          refine W.lcmp hx hb d_A_turnsAround_167 ?_
          have J190 : ∀ (t190_0 : Int32), ka_turns_j190 sx sy bx b2 ex ey a b v160_l11 t190_0 = RES → ∀ (ls : Array Slot) (H : Heap) (locs : List Loc), lv_has ls 13 [(11, .int v160_l11), (0, .ref h0), (1, .int a), (2, .int b)] → va_P (dC, dI) cls9 [(h0, .inr (1, [.int sx, .int sy, .int bx, .int b2, .int ex, .int ey]))] H → va_S A s.heap H locs → W p l e R s m args below meth c H locs 0 0 Q (F0 m 190 ls [.int t190_0]) := by
            intro t190_0 hres ls H locs hl hP hS
            unfold ka_turns_j190 at hres
            refine lv_istore (lv' := [(12, .int t190_0), (11, .int v160_l11), (0, .ref h0), (1, .int a), (2, .int b)]) hx hb d_A_turnsAround_190 hl (by decide) rfl (fun ls hl => ?_)
            refine lv_iload hx hb d_A_turnsAround_192 (lv_at hl 0 rfl) ?_
            refine lv_if_eq (tgt := 212) hx hb d_A_turnsAround_194 rfl (fun h194 => ?_) (fun h194 => ?_)
            · rw [if_pos h194] at hres
              refine lv_iload hx hb d_A_turnsAround_212 (lv_at hl 1 rfl) ?_
              rw [hQ]
              exact W.iret (v := v160_l11) hx hb hr (fun t ht hW => ⟨⟨_, (), rfl, hres, trivial⟩, hS.F ht⟩) hS.2.2 d_A_turnsAround_214
            · rw [if_neg h194] at hres
              refine lv_aload_n hx hb d_A_turnsAround_197 rfl (lv_at hl 2 rfl) ?_
              refine lv_iload_n hx hb d_A_turnsAround_198 rfl (lv_at hl 3 rfl) ?_
              refine lv_iload_n hx hb d_A_turnsAround_199 rfl (lv_at hl 4 rfl) ?_
              refine cq_Vi (C := R_A) (T := F_A) (N := 6) (ci := 1) (As := [.int a, .int b]) (rest := []) (w1 := [(h0, .inr (1, [.int sx, .int sy, .int bx, .int b2, .int ex, .int ey]))]) (tys := []) ⟨hx, hb, hml, hown, hts⟩ (c_ka_on l dC dI h0 sx sy bx b2 ex ey a b) (cwV 2 hts (gi_V tw_233 tw_235 ts_7 tw_7 tw_236) rfl rfl rfl (by decide +kernel) ⟨(by rw [← hR]; exact Nat.le_of_ble_eq_true rfl), (by rw [← hR]; exact Nat.le_of_ble_eq_true rfl)⟩) hK (hP.sub [0] rfl) (hK.sub [] rfl) 0 rfl rfl rfl rfl hl.1 (Nat.le_of_ble_eq_true rfl) d_A_turnsAround_200 ⟨Nat.zero_le _, Nat.zero_le _⟩ hP hS hA (fun H locs hP hS => ?_)
              refine lv_if_eq (tgt := 212) hx hb d_A_turnsAround_203 rfl (fun h203 => ?_) (fun h203 => ?_)
              · rw [if_pos h203] at hres
                refine lv_iload hx hb d_A_turnsAround_212 (lv_at hl 1 rfl) ?_
                rw [hQ]
                exact W.iret (v := v160_l11) hx hb hr (fun t ht hW => ⟨⟨_, (), rfl, hres, trivial⟩, hS.F ht⟩) hS.2.2 d_A_turnsAround_214
              · rw [if_neg h203] at hres
                refine lv_sipush (v := 1000) hx hb d_A_turnsAround_206 (by decide) ?_
                refine lv_goto (tgt := 214) hx hb d_A_turnsAround_209 rfl ?_
                rw [hQ]
                exact W.iret (v := 1000) hx hb hr (fun t ht hW => ⟨⟨_, (), rfl, hres, trivial⟩, hS.F ht⟩) hS.2.2 d_A_turnsAround_214
          refine lv_if_ne (tgt := 189) hx hb d_A_turnsAround_168 rfl (fun h168 => ?_) (fun h168 => ?_)
          · rw [if_neg h168] at hres
            refine lv_iconst (v := 0) hx hb d_A_turnsAround_189 (by decide) ?_
            exact J190 0 hres ls _ _ (lv_sub hl [0, 6, 7, 8] rfl) hP hS
          · rw [if_pos h168] at hres
            refine lv_lload hx hb d_A_turnsAround_171 (lv_at hl 4 rfl) ?_
            refine lv_lconst (v := 0) hx hb d_A_turnsAround_173 (by decide) ?_
            refine W.lcmp hx hb d_A_turnsAround_174 ?_
            refine lv_if_ne (tgt := 189) hx hb d_A_turnsAround_175 rfl (fun h175 => ?_) (fun h175 => ?_)
            · rw [if_neg h175] at hres
              refine lv_iconst (v := 0) hx hb d_A_turnsAround_189 (by decide) ?_
              exact J190 0 hres ls _ _ (lv_sub hl [0, 6, 7, 8] rfl) hP hS
            · rw [if_pos h175] at hres
              refine lv_lload hx hb d_A_turnsAround_178 (lv_at hl 3 rfl) ?_
              refine lv_lconst (v := 0) hx hb d_A_turnsAround_180 (by decide) ?_
              refine W.lcmp hx hb d_A_turnsAround_181 ?_
              refine lv_if_ne (tgt := 189) hx hb d_A_turnsAround_182 rfl (fun h182 => ?_) (fun h182 => ?_)
              · rw [if_neg h182] at hres
                refine lv_iconst (v := 0) hx hb d_A_turnsAround_189 (by decide) ?_
                exact J190 0 hres ls _ _ (lv_sub hl [0, 6, 7, 8] rfl) hP hS
              · rw [if_pos h182] at hres
                refine lv_iconst (v := 1) hx hb d_A_turnsAround_185 (by decide) ?_
                refine lv_goto (tgt := 190) hx hb d_A_turnsAround_186 rfl ?_
                exact J190 1 hres ls _ _ (lv_sub hl [0, 6, 7, 8] rfl) hP hS
      exact K160 (ka_side sx sy bx b2 ex ey (ka_turn (Int32.toInt64 (ex - a)) (Int32.toInt64 (ey - b)) (Int32.toInt64 (sx - a)) (Int32.toInt64 (sy - b)))) (ka_share sx sy bx b2 ex ey (ka_side sx sy bx b2 ex ey (ka_turn (Int32.toInt64 (ex - a)) (Int32.toInt64 (ey - b)) (Int32.toInt64 (sx - a)) (Int32.toInt64 (sy - b)))) b) (ka_turn (Int32.toInt64 (bx - a)) (Int32.toInt64 (b2 - b)) (Int32.toInt64 (ex - a)) (Int32.toInt64 (ey - b))) (ka_turn (Int32.toInt64 (ex - a)) (Int32.toInt64 (ey - b)) (Int32.toInt64 (sx - a)) (Int32.toInt64 (sy - b))) (ka_turn (Int32.toInt64 (sx - a)) (Int32.toInt64 (sy - b)) (Int32.toInt64 (bx - a)) (Int32.toInt64 (b2 - b))) (jl_cmp (((ka_turn (Int32.toInt64 (bx - a)) (Int32.toInt64 (b2 - b)) (Int32.toInt64 (ex - a)) (Int32.toInt64 (ey - b))) + (ka_turn (Int32.toInt64 (ex - a)) (Int32.toInt64 (ey - b)) (Int32.toInt64 (sx - a)) (Int32.toInt64 (sy - b)))) + (ka_turn (Int32.toInt64 (sx - a)) (Int32.toInt64 (sy - b)) (Int32.toInt64 (bx - a)) (Int32.toInt64 (b2 - b)))) 0) hres ls _ _ (lv_sub hl [0, 1, 2, 3, 4, 5, 6, 7, 8] rfl) hP hS
    · rw [if_neg h27] at hres
      refine lv_iconst (v := 0) hx hb d_A_turnsAround_30 (by decide) ?_
      rw [hQ]
      exact W.iret (v := 0) hx hb hr (fun t ht hW => ⟨⟨_, (), rfl, hres, trivial⟩, hS.F ht⟩) hS.2.2 d_A_turnsAround_31
end
section
-- counters of loops
def lu (N : Nat) (k : Int32) : Prop := ∃ j : Nat, j ≤ N ∧ k = nI j
theorem lu_0 (N : Nat) : lu N 0 := ⟨0, Nat.zero_le _, nI_0.symm⟩
theorem lu_step {N : Nat} {k : Int32} (hN : N < 2 ^ 31) (h : lu N k) (hc : ¬ nI N ≤ k) : lu N (k + 1) ∧ vp_in k N ∧ N - (k + 1).toNatClampNeg < N - k.toNatClampNeg := by
  obtain ⟨j, h1, rfl⟩ := h
  have hj : j < N := by
    rcases Nat.lt_or_ge j N with z | z
    · exact z
    · exact absurd (nI_le z (by omega)) hc
  rw [nI_1, nI_clamp (by omega), nI_clamp (by omega)]
  exact ⟨⟨j + 1, by omega, rfl⟩, vp_in_nI hj hN, by omega⟩
def ld (N : Nat) (k : Int32) : Prop := k = -1 ∨ ∃ j : Nat, j < N ∧ k = nI j
theorem ld_step {N : Nat} {k : Int32} (hN : N < 2 ^ 31) (h : ld N k) (hc : ¬ k < 0) : ld N (k + (-1)) ∧ vp_in k N ∧ (k + (-1) + 1).toNatClampNeg < (k + 1).toNatClampNeg := by
  rcases h with h | ⟨j, h1, rfl⟩
  · subst h; exact absurd (by decide) hc
  · cases j with
    | zero =>
      have e : nI 0 + (-1) = -1 := by decide
      rw [e]
      exact ⟨Or.inl rfl, vp_in_nI h1 hN, by decide⟩
    | succ j =>
      rw [pk_m1, nI_1, nI_1, nI_clamp (by omega), nI_clamp (by omega)]
      exact ⟨Or.inr ⟨j, by omega, rfl⟩, vp_in_nI h1 hN, by omega⟩
end
section
def km_sign (a : Int64) : Int32 := (if 0 ≤ (lg_cmp a 0) then (if (lg_cmp a 0) ≤ 0 then 0 else 1) else (-1))
set_option maxHeartbeats 4000000 in
set_option maxRecDepth 100000 in
theorem c_km_sign (l : Launch) (dC : Nat → ClassId) (dI : Nat → Nat → Nat) (a : Int64) : pq_i l y_M_sign w_M_sign { frames := 0, cells := 0, slots := 0, locals := 0 } [.long a] (km_sign a) := by
  intro sz
  refine Met.ofW (cc := b_M_sign) (maxL := 2) (ret := (some .int)) (by decide) rfl ?_
  intro p e s m args below meth c s₁ B hml hv
  obtain ⟨hargs, hsz⟩ := hv
  have hx := B.exec
  have hb := B.bytes
  have hr := B.returns
  have hts : ∀ w ∈ lw_w, w.before args s = true := fun w h => atoms_spec (ws := w_M_sign) B.pre w (List.mem_cons_of_mem _ h)
  have hown : s.vm.findClass R_M = some m.cls := findClass_of_methodNamed B.named
  have hlocks := B.notSynchronized
  subst hsz
  generalize hR : (headSpec w_M_sign { frames := 0, cells := 0, slots := 0, locals := 0 }).room = R
  generalize hAe : (fun q : Nat => s.heap.size ≤ q) = A
  have hA : ∀ q : Nat, s.heap.size ≤ q → A q := fun q h => by rw [← hAe]; exact h
  have hS : va_S A s.heap s.heap [] := va_S.rf
  have hP : va_P (dC, dI) cls9 [] s.heap := fun k q h => by cases h
  generalize hRES : km_sign a = RES
  have hres := hRES
  replace hRES := hRES.symm
  have hl := lv_entry [.long a] (n := 2) (Nat.le_of_ble_eq_true rfl)
  have hent : entryFrame m args 2 = F0 m 0 (lg_sl [.long a] ++ List.replicate (2 - (lg_sl [.long a]).length) Slot.unset).toArray [] := by rw [hargs]; exact lg_entry_eq m [.long a] 2
  rw [hent]
  clear hent
  generalize (lg_sl [.long a] ++ List.replicate (2 - (lg_sl [.long a]).length) Slot.unset).toArray = ls at hl ⊢
  have hl : lv_has ls 2 [(0, .long a)] := hl
  unfold km_sign at hres
  generalize hQ : MQ below (va_Qi (fun x (_ : Unit) => x = RES) (fun _ _ => True) A) args s 0 0 A = Q
  replace hQ := hQ.symm
  refine lv_lload_n hx hb d_M_sign_0 rfl (lv_at hl 0 rfl) ?_
  refine lv_lconst (v := 0) hx hb d_M_sign_1 (by decide) ?_
  refine W.lcmp hx hb d_M_sign_2 ?_
  refine lv_if_ge (tgt := 10) hx hb d_M_sign_3 rfl (fun h3 => ?_) (fun h3 => ?_)
  · rw [if_pos h3] at hres
    refine lv_lload_n hx hb d_M_sign_10 rfl (lv_at hl 0 rfl) ?_
    refine lv_lconst (v := 0) hx hb d_M_sign_11 (by decide) ?_
    refine W.lcmp hx hb d_M_sign_12 ?_
    refine lv_if_le (tgt := 20) hx hb d_M_sign_13 rfl (fun h13 => ?_) (fun h13 => ?_)
    · rw [if_pos h13] at hres
      refine lv_iconst (v := 0) hx hb d_M_sign_20 (by decide) ?_
      rw [hQ]
      exact W.iret (v := 0) hx hb hr (fun t ht hW => ⟨⟨_, (), rfl, hres, trivial⟩, hS.F ht⟩) hS.2.2 d_M_sign_21
    · rw [if_neg h13] at hres
      refine lv_iconst (v := 1) hx hb d_M_sign_16 (by decide) ?_
      refine lv_goto (tgt := 21) hx hb d_M_sign_17 rfl ?_
      rw [hQ]
      exact W.iret (v := 1) hx hb hr (fun t ht hW => ⟨⟨_, (), rfl, hres, trivial⟩, hS.F ht⟩) hS.2.2 d_M_sign_21
  · rw [if_neg h3] at hres
    refine lv_iconst (v := (-1)) hx hb d_M_sign_6 (by decide) ?_
    refine lv_goto (tgt := 21) hx hb d_M_sign_7 rfl ?_
    rw [hQ]
    exact W.iret (v := (-1)) hx hb hr (fun t ht hW => ⟨⟨_, (), rfl, hres, trivial⟩, hS.F ht⟩) hS.2.2 d_M_sign_21
def km_zero_j36 (a : Int64) (b : Int64) (c0 : Int64) (t24_0 : Int32) (t36_0 : Int32) : Int32 := (if t24_0 = t36_0 then (if (lg_cmp a 0) ≤ 0 then (if (lg_cmp b 0) ≤ 0 then 0 else (if (lg_cmp (b * b) (a * c0)) < 0 then 0 else 1)) else (if 0 ≤ (lg_cmp b 0) then 0 else (if (lg_cmp (b * b) (a * c0)) < 0 then 0 else 1))) else 1)
def km_zero_j24 (a : Int64) (b : Int64) (c0 : Int64) (t24_0 : Int32) : Int32 := (if (lg_cmp c0 0) ≤ 0 then (km_zero_j36 a b c0 t24_0 0) else (km_zero_j36 a b c0 t24_0 1))
def km_zero (a : Int64) (b : Int64) (c0 : Int64) : Int32 := (if (lg_cmp a 0) = 0 then 1 else (if (lg_cmp c0 0) = 0 then 1 else (if (lg_cmp a 0) ≤ 0 then (km_zero_j24 a b c0 0) else (km_zero_j24 a b c0 1))))
set_option maxHeartbeats 4000000 in
set_option maxRecDepth 100000 in
theorem c_km_zero (l : Launch) (dC : Nat → ClassId) (dI : Nat → Nat → Nat) (a : Int64) (b : Int64) (c0 : Int64) : pq_i l y_M_zero w_M_zero { frames := 0, cells := 0, slots := 0, locals := 0 } [.long a, .long b, .long c0] (km_zero a b c0) := by
  intro sz
  refine Met.ofW (cc := b_M_zero) (maxL := 6) (ret := (some .boolean)) (by decide) rfl ?_
  intro p e s m args below meth c s₁ B hml hv
  obtain ⟨hargs, hsz⟩ := hv
  have hx := B.exec
  have hb := B.bytes
  have hr := B.returns
  have hts : ∀ w ∈ lw_w, w.before args s = true := fun w h => atoms_spec (ws := w_M_zero) B.pre w (List.mem_cons_of_mem _ h)
  have hown : s.vm.findClass R_M = some m.cls := findClass_of_methodNamed B.named
  have hlocks := B.notSynchronized
  subst hsz
  generalize hR : (headSpec w_M_zero { frames := 0, cells := 0, slots := 0, locals := 0 }).room = R
  generalize hAe : (fun q : Nat => s.heap.size ≤ q) = A
  have hA : ∀ q : Nat, s.heap.size ≤ q → A q := fun q h => by rw [← hAe]; exact h
  have hS : va_S A s.heap s.heap [] := va_S.rf
  have hP : va_P (dC, dI) cls9 [] s.heap := fun k q h => by cases h
  generalize hRES : km_zero a b c0 = RES
  have hres := hRES
  replace hRES := hRES.symm
  have hl := lv_entry [.long a, .long b, .long c0] (n := 6) (Nat.le_of_ble_eq_true rfl)
  have hent : entryFrame m args 6 = F0 m 0 (lg_sl [.long a, .long b, .long c0] ++ List.replicate (6 - (lg_sl [.long a, .long b, .long c0]).length) Slot.unset).toArray [] := by rw [hargs]; exact lg_entry_eq m [.long a, .long b, .long c0] 6
  rw [hent]
  clear hent
  generalize (lg_sl [.long a, .long b, .long c0] ++ List.replicate (6 - (lg_sl [.long a, .long b, .long c0]).length) Slot.unset).toArray = ls at hl ⊢
  have hl : lv_has ls 6 [(0, .long a), (2, .long b), (4, .long c0)] := hl
  unfold km_zero at hres
  generalize hQ : MQ below (va_Qi (fun x (_ : Unit) => x = RES) (fun _ _ => True) A) args s 0 0 A = Q
  replace hQ := hQ.symm
  refine lv_lload_n hx hb d_M_zero_0 rfl (lv_at hl 0 rfl) ?_
  refine lv_lconst (v := 0) hx hb d_M_zero_1 (by decide) ?_
  refine W.lcmp hx hb d_M_zero_2 ?_
  refine lv_if_eq (tgt := 39) hx hb d_M_zero_3 rfl (fun h3 => ?_) (fun h3 => ?_)
  · rw [if_pos h3] at hres
    refine lv_iconst (v := 1) hx hb d_M_zero_39 (by decide) ?_
    rw [hQ]
    exact W.zret (v := 1) hx hb hr (by first | rfl | decide) (fun t ht hW => ⟨⟨_, (), rfl, hres, trivial⟩, hS.F ht⟩) hS.2.2 d_M_zero_40
  · rw [if_neg h3] at hres
    refine lv_lload hx hb d_M_zero_6 (lv_at hl 2 rfl) ?_
    refine lv_lconst (v := 0) hx hb d_M_zero_8 (by decide) ?_
    refine W.lcmp hx hb d_M_zero_9 ?_
    refine lv_if_eq (tgt := 39) hx hb d_M_zero_10 rfl (fun h10 => ?_) (fun h10 => ?_)
    · rw [if_pos h10] at hres
      refine lv_iconst (v := 1) hx hb d_M_zero_39 (by decide) ?_
      rw [hQ]
      exact W.zret (v := 1) hx hb hr (by first | rfl | decide) (fun t ht hW => ⟨⟨_, (), rfl, hres, trivial⟩, hS.F ht⟩) hS.2.2 d_M_zero_40
    · rw [if_neg h10] at hres
      refine lv_lload_n hx hb d_M_zero_13 rfl (lv_at hl 0 rfl) ?_
      refine lv_lconst (v := 0) hx hb d_M_zero_14 (by decide) ?_
      refine W.lcmp hx hb d_M_zero_15 ?_
      have J24 : ∀ (t24_0 : Int32), km_zero_j24 a b c0 t24_0 = RES → ∀ (ls : Array Slot) (H : Heap) (locs : List Loc), lv_has ls 6 [(0, .long a), (2, .long b), (4, .long c0)] → va_P (dC, dI) cls9 [] H → va_S A s.heap H locs → W p l e R s m args below meth c H locs 0 0 Q (F0 m 24 ls [.int t24_0]) := by
        intro t24_0 hres ls H locs hl hP hS
        unfold km_zero_j24 at hres
        refine lv_lload hx hb d_M_zero_24 (lv_at hl 2 rfl) ?_
        refine lv_lconst (v := 0) hx hb d_M_zero_26 (by decide) ?_
        refine W.lcmp hx hb d_M_zero_27 ?_
        have J36 : ∀ (t36_0 : Int32), km_zero_j36 a b c0 t24_0 t36_0 = RES → ∀ (ls : Array Slot) (H : Heap) (locs : List Loc), lv_has ls 6 [(0, .long a), (2, .long b), (4, .long c0)] → va_P (dC, dI) cls9 [] H → va_S A s.heap H locs → W p l e R s m args below meth c H locs 0 0 Q (F0 m 36 ls [.int t36_0, .int t24_0]) := by
          intro t36_0 hres ls H locs hl hP hS
          unfold km_zero_j36 at hres
          refine lv_icmp_eq (tgt := 41) hx hb d_M_zero_36 rfl (fun h36 => ?_) (fun h36 => ?_)
          · rw [if_pos h36] at hres
            refine lv_lload_n hx hb d_M_zero_41 rfl (lv_at hl 0 rfl) ?_
            refine lv_lconst (v := 0) hx hb d_M_zero_42 (by decide) ?_
            refine W.lcmp hx hb d_M_zero_43 ?_
            refine lv_if_le (tgt := 56) hx hb d_M_zero_44 rfl (fun h44 => ?_) (fun h44 => ?_)
            · rw [if_pos h44] at hres
              refine lv_lload_n hx hb d_M_zero_56 rfl (lv_at hl 1 rfl) ?_
              refine lv_lconst (v := 0) hx hb d_M_zero_57 (by decide) ?_
              refine W.lcmp hx hb d_M_zero_58 ?_
              refine lv_if_le (tgt := 77) hx hb d_M_zero_59 rfl (fun h59 => ?_) (fun h59 => ?_)
              · rw [if_pos h59] at hres
                refine lv_iconst (v := 0) hx hb d_M_zero_77 (by decide) ?_
                rw [hQ]
                exact W.zret (v := 0) hx hb hr (by first | rfl | decide) (fun t ht hW => ⟨⟨_, (), rfl, hres, trivial⟩, hS.F ht⟩) hS.2.2 d_M_zero_78
              · rw [if_neg h59] at hres
                refine lv_lload_n hx hb d_M_zero_62 rfl (lv_at hl 1 rfl) ?_
                refine lv_lload_n hx hb d_M_zero_63 rfl (lv_at hl 1 rfl) ?_
                refine lv_lmul hx hb d_M_zero_64 ?_
                refine lv_lload_n hx hb d_M_zero_65 rfl (lv_at hl 0 rfl) ?_
                refine lv_lload hx hb d_M_zero_66 (lv_at hl 2 rfl) ?_
                refine lv_lmul hx hb d_M_zero_68 ?_
                refine W.lcmp hx hb d_M_zero_69 ?_
                refine lv_if_lt (tgt := 77) hx hb d_M_zero_70 rfl (fun h70 => ?_) (fun h70 => ?_)
                · rw [if_pos h70] at hres
                  refine lv_iconst (v := 0) hx hb d_M_zero_77 (by decide) ?_
                  rw [hQ]
                  exact W.zret (v := 0) hx hb hr (by first | rfl | decide) (fun t ht hW => ⟨⟨_, (), rfl, hres, trivial⟩, hS.F ht⟩) hS.2.2 d_M_zero_78
                · rw [if_neg h70] at hres
                  refine lv_iconst (v := 1) hx hb d_M_zero_73 (by decide) ?_
                  refine lv_goto (tgt := 78) hx hb d_M_zero_74 rfl ?_
                  rw [hQ]
                  exact W.zret (v := 1) hx hb hr (by first | rfl | decide) (fun t ht hW => ⟨⟨_, (), rfl, hres, trivial⟩, hS.F ht⟩) hS.2.2 d_M_zero_78
            · rw [if_neg h44] at hres
              refine lv_lload_n hx hb d_M_zero_47 rfl (lv_at hl 1 rfl) ?_
              refine lv_lconst (v := 0) hx hb d_M_zero_48 (by decide) ?_
              refine W.lcmp hx hb d_M_zero_49 ?_
              refine lv_if_ge (tgt := 77) hx hb d_M_zero_50 rfl (fun h50 => ?_) (fun h50 => ?_)
              · rw [if_pos h50] at hres
                refine lv_iconst (v := 0) hx hb d_M_zero_77 (by decide) ?_
                rw [hQ]
                exact W.zret (v := 0) hx hb hr (by first | rfl | decide) (fun t ht hW => ⟨⟨_, (), rfl, hres, trivial⟩, hS.F ht⟩) hS.2.2 d_M_zero_78
              · rw [if_neg h50] at hres
                refine lv_goto (tgt := 62) hx hb d_M_zero_53 rfl ?_
                refine lv_lload_n hx hb d_M_zero_62 rfl (lv_at hl 1 rfl) ?_
                refine lv_lload_n hx hb d_M_zero_63 rfl (lv_at hl 1 rfl) ?_
                refine lv_lmul hx hb d_M_zero_64 ?_
                refine lv_lload_n hx hb d_M_zero_65 rfl (lv_at hl 0 rfl) ?_
                refine lv_lload hx hb d_M_zero_66 (lv_at hl 2 rfl) ?_
                refine lv_lmul hx hb d_M_zero_68 ?_
                refine W.lcmp hx hb d_M_zero_69 ?_
                refine lv_if_lt (tgt := 77) hx hb d_M_zero_70 rfl (fun h70 => ?_) (fun h70 => ?_)
                · rw [if_pos h70] at hres
                  refine lv_iconst (v := 0) hx hb d_M_zero_77 (by decide) ?_
                  rw [hQ]
                  exact W.zret (v := 0) hx hb hr (by first | rfl | decide) (fun t ht hW => ⟨⟨_, (), rfl, hres, trivial⟩, hS.F ht⟩) hS.2.2 d_M_zero_78
                · rw [if_neg h70] at hres
                  refine lv_iconst (v := 1) hx hb d_M_zero_73 (by decide) ?_
                  refine lv_goto (tgt := 78) hx hb d_M_zero_74 rfl ?_
                  rw [hQ]
                  exact W.zret (v := 1) hx hb hr (by first | rfl | decide) (fun t ht hW => ⟨⟨_, (), rfl, hres, trivial⟩, hS.F ht⟩) hS.2.2 d_M_zero_78
          · rw [if_neg h36] at hres
            refine lv_iconst (v := 1) hx hb d_M_zero_39 (by decide) ?_
            rw [hQ]
            exact W.zret (v := 1) hx hb hr (by first | rfl | decide) (fun t ht hW => ⟨⟨_, (), rfl, hres, trivial⟩, hS.F ht⟩) hS.2.2 d_M_zero_40
        refine lv_if_le (tgt := 35) hx hb d_M_zero_28 rfl (fun h28 => ?_) (fun h28 => ?_)
        · rw [if_pos h28] at hres
          refine lv_iconst (v := 0) hx hb d_M_zero_35 (by decide) ?_
          exact J36 0 hres ls _ _ (lv_sub hl [0, 1, 2] rfl) hP hS
        · rw [if_neg h28] at hres
          refine lv_iconst (v := 1) hx hb d_M_zero_31 (by decide) ?_
          refine lv_goto (tgt := 36) hx hb d_M_zero_32 rfl ?_
          exact J36 1 hres ls _ _ (lv_sub hl [0, 1, 2] rfl) hP hS
      refine lv_if_le (tgt := 23) hx hb d_M_zero_16 rfl (fun h16 => ?_) (fun h16 => ?_)
      · rw [if_pos h16] at hres
        refine lv_iconst (v := 0) hx hb d_M_zero_23 (by decide) ?_
        exact J24 0 hres ls _ _ (lv_sub hl [0, 1, 2] rfl) hP hS
      · rw [if_neg h16] at hres
        refine lv_iconst (v := 1) hx hb d_M_zero_19 (by decide) ?_
        refine lv_goto (tgt := 24) hx hb d_M_zero_20 rfl ?_
        exact J24 1 hres ls _ _ (lv_sub hl [0, 1, 2] rfl) hP hS
def km_far (a : Int32) : Int32 := (if a < (-20000) then 1 else (if a ≤ 20000 then 0 else 1))
set_option maxHeartbeats 4000000 in
set_option maxRecDepth 100000 in
theorem c_km_far (l : Launch) (dC : Nat → ClassId) (dI : Nat → Nat → Nat) (a : Int32) : pq_i l y_M_far w_M_far { frames := 0, cells := 0, slots := 0, locals := 0 } [.int a] (km_far a) := by
  intro sz
  refine Met.ofW (cc := b_M_far) (maxL := 1) (ret := (some .boolean)) (by decide) rfl ?_
  intro p e s m args below meth c s₁ B hml hv
  obtain ⟨hargs, hsz⟩ := hv
  have hx := B.exec
  have hb := B.bytes
  have hr := B.returns
  have hts : ∀ w ∈ lw_w, w.before args s = true := fun w h => atoms_spec (ws := w_M_far) B.pre w (List.mem_cons_of_mem _ h)
  have hown : s.vm.findClass R_M = some m.cls := findClass_of_methodNamed B.named
  have hlocks := B.notSynchronized
  subst hsz
  generalize hR : (headSpec w_M_far { frames := 0, cells := 0, slots := 0, locals := 0 }).room = R
  generalize hAe : (fun q : Nat => s.heap.size ≤ q) = A
  have hA : ∀ q : Nat, s.heap.size ≤ q → A q := fun q h => by rw [← hAe]; exact h
  have hS : va_S A s.heap s.heap [] := va_S.rf
  have hP : va_P (dC, dI) cls9 [] s.heap := fun k q h => by cases h
  generalize hRES : km_far a = RES
  have hres := hRES
  replace hRES := hRES.symm
  have hl := lv_entry [.int a] (n := 1) (Nat.le_of_ble_eq_true rfl)
  have hent : entryFrame m args 1 = F0 m 0 (lg_sl [.int a] ++ List.replicate (1 - (lg_sl [.int a]).length) Slot.unset).toArray [] := by rw [hargs]; exact lg_entry_eq m [.int a] 1
  rw [hent]
  clear hent
  generalize (lg_sl [.int a] ++ List.replicate (1 - (lg_sl [.int a]).length) Slot.unset).toArray = ls at hl ⊢
  have hl : lv_has ls 1 [(0, .int a)] := hl
  unfold km_far at hres
  generalize hQ : MQ below (va_Qi (fun x (_ : Unit) => x = RES) (fun _ _ => True) A) args s 0 0 A = Q
  replace hQ := hQ.symm
  refine lv_iload_n hx hb d_M_far_0 rfl (lv_at hl 0 rfl) ?_
  refine lv_sipush (v := (-20000)) hx hb d_M_far_1 (by decide) ?_
  refine lv_icmp_lt (tgt := 14) hx hb d_M_far_4 rfl (fun h4 => ?_) (fun h4 => ?_)
  · rw [if_pos h4] at hres
    refine lv_iconst (v := 1) hx hb d_M_far_14 (by decide) ?_
    refine lv_goto (tgt := 19) hx hb d_M_far_15 rfl ?_
    rw [hQ]
    exact W.zret (v := 1) hx hb hr (by first | rfl | decide) (fun t ht hW => ⟨⟨_, (), rfl, hres, trivial⟩, hS.F ht⟩) hS.2.2 d_M_far_19
  · rw [if_neg h4] at hres
    refine lv_iload_n hx hb d_M_far_7 rfl (lv_at hl 0 rfl) ?_
    refine lv_sipush (v := 20000) hx hb d_M_far_8 (by decide) ?_
    refine lv_icmp_le (tgt := 18) hx hb d_M_far_11 rfl (fun h11 => ?_) (fun h11 => ?_)
    · rw [if_pos h11] at hres
      refine lv_iconst (v := 0) hx hb d_M_far_18 (by decide) ?_
      rw [hQ]
      exact W.zret (v := 0) hx hb hr (by first | rfl | decide) (fun t ht hW => ⟨⟨_, (), rfl, hres, trivial⟩, hS.F ht⟩) hS.2.2 d_M_far_19
    · rw [if_neg h11] at hres
      refine lv_iconst (v := 1) hx hb d_M_far_14 (by decide) ?_
      refine lv_goto (tgt := 19) hx hb d_M_far_15 rfl ?_
      rw [hQ]
      exact W.zret (v := 1) hx hb hr (by first | rfl | decide) (fun t ht hW => ⟨⟨_, (), rfl, hres, trivial⟩, hS.F ht⟩) hS.2.2 d_M_far_19
def km_times_L21 (v : Int64) : Nat → (Int32) → (Nat → Int64) → (Int64) → (Int64) → (Nat → Int64)
  | 0, _, _, _, _ => (fun _ => 0)
  | n+1, k, g, cy, bf => (if 6 ≤ k then g else ((km_times_L21 v n) (k + 1) (vp_updL g (Int32.toNatClampNeg k) ((((((g (Int32.toNatClampNeg k)) * (v &&& 4294967295)) &&& 4294967295) + ((bf * (jv_lushr v 32)) &&& 4294967295)) + (cy &&& 4294967295)) &&& 4294967295)) ((((jv_lushr ((g (Int32.toNatClampNeg k)) * (v &&& 4294967295)) 32) + (jv_lushr (bf * (jv_lushr v 32)) 32)) + (jv_lushr cy 32)) + (jv_lushr (((((g (Int32.toNatClampNeg k)) * (v &&& 4294967295)) &&& 4294967295) + ((bf * (jv_lushr v 32)) &&& 4294967295)) + (cy &&& 4294967295)) 32)) (g (Int32.toNatClampNeg k))))
def km_times (f : Nat → Int64) (v : Int64) : (Nat → Int64) := (km_times_L21 v 7 0 f 0 0)
set_option maxHeartbeats 4000000 in
set_option maxRecDepth 100000 in
theorem c_km_times (l : Launch) (dC : Nat → ClassId) (dI : Nat → Nat → Nat) (r : Nat) (cJ : ClassId) (f : Nat → Int64) (v : Int64)  : mc_v l y_M_times w_M_times { frames := 0, cells := 0, slots := 0, locals := 0 } (dC, dI) cls9 [(r, .inl (cJ, 6, .inr (.inl f)))] [(r, .inl (cJ, 6, .inr (.inl (km_times f v))))] [(cJ, .long)] [.ref r, .long v] := by
  intro sz
  refine Met.ofW (cc := b_M_times) (maxL := 20) (ret := none) (by decide) rfl ?_
  intro p e s m args below meth c s₁ B hml hv
  obtain ⟨hargs, hsz, hP, hK, hD0⟩ := hv
  have hx := B.exec
  have hb := B.bytes
  have hr := B.returns
  have hts : ∀ w ∈ lw_w, w.before args s = true := fun w h => atoms_spec (ws := w_M_times) B.pre w (List.mem_cons_of_mem _ h)
  have hown : s.vm.findClass R_M = some m.cls := findClass_of_methodNamed B.named
  have hlocks := B.notSynchronized
  subst hsz
  have hD := hD0.self (sz := s.heap.size)
  generalize hR : (headSpec w_M_times { frames := 0, cells := 0, slots := 0, locals := 0 }).room = R
  generalize hAe : va_A [(r, .inl (cJ, 6, .inr (.inl f)))] s.heap.size = A at hD ⊢
  have hA : ∀ q : Nat, s.heap.size ≤ q → A q := fun q h => by rw [← hAe]; exact Or.inr h
  have hS : va_S A s.heap s.heap [] := va_S.rf
  generalize hRES : km_times f v = RES
  have hres := hRES
  have hl := lv_entry [.ref r, .long v] (n := 20) (Nat.le_of_ble_eq_true rfl)
  have hent : entryFrame m args 20 = F0 m 0 (lg_sl [.ref r, .long v] ++ List.replicate (20 - (lg_sl [.ref r, .long v]).length) Slot.unset).toArray [] := by rw [hargs]; exact lg_entry_eq m [.ref r, .long v] 20
  rw [hent]
  clear hent
  generalize (lg_sl [.ref r, .long v] ++ List.replicate (20 - (lg_sl [.ref r, .long v]).length) Slot.unset).toArray = ls at hl ⊢
  have hl : lv_has ls 20 [(0, .ref r), (1, .long v)] := hl
  have hP : va_P (dC, dI) cls9 [(r, .inl (cJ, 6, .inr (.inl f)))] s.heap := hP
  have hD : va_D A [(r, .inl (cJ, 6, .inr (.inl f)))] := hD
  clear hD0 hRES hAe
  unfold km_times at hres
  generalize hQ : MQ below (va_Qv (fun (_ : Unit) => True) (fun _ t => va_P (dC, dI) cls9 [(r, .inl (cJ, 6, .inr (.inl RES)))] t.heap ∧ va_K (dC, dI) cls9 [(cJ, .long)] t ∧ va_D A [(r, .inl (cJ, 6, .inr (.inl RES)))]) A) args s 0 0 A = Q
  replace hQ := hQ.symm
  refine lv_lload_n hx hb d_M_times_0 rfl (lv_at hl 1 rfl) ?_
  refine lv_ldc2 (v := 4294967295) hx hb hown (hts _ tw_374) d_M_times_1 ?_
  refine lv_land hx hb d_M_times_4 ?_
  refine lv_lstore_n (lv' := [(3, .long (v &&& 4294967295)), (0, .ref r), (1, .long v)]) hx hb d_M_times_5 rfl hl (by decide) rfl (fun ls hl => ?_)
  refine lv_lload_n hx hb d_M_times_6 rfl (lv_at hl 2 rfl) ?_
  refine lv_bipush (v := 32) hx hb d_M_times_7 (by decide) ?_
  refine lv_lushr (v := jv_lushr v 32) hx hb d_M_times_9 rfl ?_
  refine lv_lstore (lv' := [(5, .long (jv_lushr v 32)), (3, .long (v &&& 4294967295)), (0, .ref r), (1, .long v)]) hx hb d_M_times_10 hl (by decide) rfl (fun ls hl => ?_)
  refine lv_lconst (v := 0) hx hb d_M_times_12 (by decide) ?_
  refine lv_lstore (lv' := [(7, .long 0), (5, .long (jv_lushr v 32)), (3, .long (v &&& 4294967295)), (0, .ref r), (1, .long v)]) hx hb d_M_times_13 hl (by decide) rfl (fun ls hl => ?_)
  refine lv_lconst (v := 0) hx hb d_M_times_15 (by decide) ?_
  refine lv_lstore (lv' := [(9, .long 0), (7, .long 0), (5, .long (jv_lushr v 32)), (3, .long (v &&& 4294967295)), (0, .ref r), (1, .long v)]) hx hb d_M_times_16 hl (by decide) rfl (fun ls hl => ?_)
  refine lv_iconst (v := 0) hx hb d_M_times_18 (by decide) ?_
  refine lv_istore (lv' := [(11, .int 0), (9, .long 0), (7, .long 0), (5, .long (jv_lushr v 32)), (3, .long (v &&& 4294967295)), (0, .ref r), (1, .long v)]) hx hb d_M_times_19 hl (by decide) rfl (fun ls hl => ?_)
  have L21 : ∀ (n : Nat) (k : Int32) (g : Nat → Int64) (cy : Int64) (bf : Int64), (lu 6 k) → 6 - k.toNatClampNeg < n → km_times_L21 v n k g cy bf = RES → ∀ (ls : Array Slot) (H : Heap) (locs : List Loc), lv_has ls 20 [(11, .int k), (9, .long bf), (7, .long cy), (5, .long (jv_lushr v 32)), (3, .long (v &&& 4294967295)), (0, .ref r)] → va_P (dC, dI) cls9 [(r, .inl (cJ, 6, .inr (.inl g)))] H → va_D A [(r, .inl (cJ, 6, .inr (.inl g)))] → va_S A s.heap H locs → W p l e R s m args below meth c H locs 0 0 Q (F0 m 21 ls []) := by
    intro n
    induction n with
    | zero => intro k g cy bf hinv hmu; exact absurd hmu (Nat.not_lt_zero _)
    | succ n ih =>
      intro k g cy bf hinv hmu hres ls H locs hl hP hD hS
      rw [km_times_L21] at hres
      refine lv_iload hx hb d_M_times_21 (lv_at hl 0 rfl) ?_
      refine lv_bipush (v := 6) hx hb d_M_times_23 (by decide) ?_
      refine lv_icmp_ge (tgt := 116) hx hb d_M_times_25 rfl (fun h25 => ?_) (fun h25 => ?_)
      · rw [if_pos h25] at hres
        rw [hQ]
        subst hres
        exact W.vret hx hb hr (fun t ht hW => ⟨⟨(), rfl, trivial, ⟨by rw [ht]; exact hP, va_K.moved hW.alike hK, hD⟩⟩, hS.F ht⟩) hS.2.2 d_M_times_116
      · rw [if_neg h25] at hres
        refine lv_aload_n hx hb d_M_times_28 rfl (lv_at hl 5 rfl) ?_
        refine lv_iload hx hb d_M_times_29 (lv_at hl 0 rfl) ?_
        refine va_lald hx hb hK hP 0 0 rfl rfl (by exact (lu_step (N := 6) (by decide) hinv h25).2.1) d_M_times_31 ?_
        refine lv_lload_n hx hb d_M_times_32 rfl (lv_at hl 4 rfl) ?_
        refine lv_lmul hx hb d_M_times_33 ?_
        refine lv_lstore (lv' := [(12, .long ((g (Int32.toNatClampNeg k)) * (v &&& 4294967295))), (11, .int k), (9, .long bf), (7, .long cy), (5, .long (jv_lushr v 32)), (3, .long (v &&& 4294967295)), (0, .ref r)]) hx hb d_M_times_34 hl (by decide) rfl (fun ls hl => ?_)
        refine lv_lload hx hb d_M_times_36 (lv_at hl 2 rfl) ?_
        refine lv_lload hx hb d_M_times_38 (lv_at hl 4 rfl) ?_
        refine lv_lmul hx hb d_M_times_40 ?_
        refine lv_lstore (lv' := [(14, .long (bf * (jv_lushr v 32))), (12, .long ((g (Int32.toNatClampNeg k)) * (v &&& 4294967295))), (11, .int k), (9, .long bf), (7, .long cy), (5, .long (jv_lushr v 32)), (3, .long (v &&& 4294967295)), (0, .ref r)]) hx hb d_M_times_41 hl (by decide) rfl (fun ls hl => ?_)
        refine lv_lload hx hb d_M_times_43 (lv_at hl 1 rfl) ?_
        refine lv_ldc2 (v := 4294967295) hx hb hown (hts _ tw_374) d_M_times_45 ?_
        refine lv_land hx hb d_M_times_48 ?_
        refine lv_lload hx hb d_M_times_49 (lv_at hl 0 rfl) ?_
        refine lv_ldc2 (v := 4294967295) hx hb hown (hts _ tw_374) d_M_times_51 ?_
        refine lv_land hx hb d_M_times_54 ?_
        refine lv_ladd hx hb d_M_times_55 ?_
        refine lv_lload hx hb d_M_times_56 (lv_at hl 4 rfl) ?_
        refine lv_ldc2 (v := 4294967295) hx hb hown (hts _ tw_374) d_M_times_58 ?_
        refine lv_land hx hb d_M_times_61 ?_
        refine lv_ladd hx hb d_M_times_62 ?_
        refine lv_lstore (lv' := [(16, .long (((((g (Int32.toNatClampNeg k)) * (v &&& 4294967295)) &&& 4294967295) + ((bf * (jv_lushr v 32)) &&& 4294967295)) + (cy &&& 4294967295))), (14, .long (bf * (jv_lushr v 32))), (12, .long ((g (Int32.toNatClampNeg k)) * (v &&& 4294967295))), (11, .int k), (9, .long bf), (7, .long cy), (5, .long (jv_lushr v 32)), (3, .long (v &&& 4294967295)), (0, .ref r)]) hx hb d_M_times_63 hl (by decide) rfl (fun ls hl => ?_)
        refine lv_lload hx hb d_M_times_65 (lv_at hl 2 rfl) ?_
        refine lv_bipush (v := 32) hx hb d_M_times_67 (by decide) ?_
        refine lv_lushr (v := jv_lushr ((g (Int32.toNatClampNeg k)) * (v &&& 4294967295)) 32) hx hb d_M_times_69 rfl ?_
        refine lv_lload hx hb d_M_times_70 (lv_at hl 1 rfl) ?_
        refine lv_bipush (v := 32) hx hb d_M_times_72 (by decide) ?_
        refine lv_lushr (v := jv_lushr (bf * (jv_lushr v 32)) 32) hx hb d_M_times_74 rfl ?_
        refine lv_ladd hx hb d_M_times_75 ?_
        refine lv_lload hx hb d_M_times_76 (lv_at hl 5 rfl) ?_
        refine lv_bipush (v := 32) hx hb d_M_times_78 (by decide) ?_
        refine lv_lushr (v := jv_lushr cy 32) hx hb d_M_times_80 rfl ?_
        refine lv_ladd hx hb d_M_times_81 ?_
        refine lv_lload hx hb d_M_times_82 (lv_at hl 0 rfl) ?_
        refine lv_bipush (v := 32) hx hb d_M_times_84 (by decide) ?_
        refine lv_lushr (v := jv_lushr (((((g (Int32.toNatClampNeg k)) * (v &&& 4294967295)) &&& 4294967295) + ((bf * (jv_lushr v 32)) &&& 4294967295)) + (cy &&& 4294967295)) 32) hx hb d_M_times_86 rfl ?_
        refine lv_ladd hx hb d_M_times_87 ?_
        refine lv_lstore (lv' := [(18, .long ((((jv_lushr ((g (Int32.toNatClampNeg k)) * (v &&& 4294967295)) 32) + (jv_lushr (bf * (jv_lushr v 32)) 32)) + (jv_lushr cy 32)) + (jv_lushr (((((g (Int32.toNatClampNeg k)) * (v &&& 4294967295)) &&& 4294967295) + ((bf * (jv_lushr v 32)) &&& 4294967295)) + (cy &&& 4294967295)) 32))), (16, .long (((((g (Int32.toNatClampNeg k)) * (v &&& 4294967295)) &&& 4294967295) + ((bf * (jv_lushr v 32)) &&& 4294967295)) + (cy &&& 4294967295))), (14, .long (bf * (jv_lushr v 32))), (12, .long ((g (Int32.toNatClampNeg k)) * (v &&& 4294967295))), (11, .int k), (9, .long bf), (7, .long cy), (5, .long (jv_lushr v 32)), (3, .long (v &&& 4294967295)), (0, .ref r)]) hx hb d_M_times_88 hl (by decide) rfl (fun ls hl => ?_)
        refine lv_aload_n hx hb d_M_times_90 rfl (lv_at hl 9 rfl) ?_
        refine lv_iload hx hb d_M_times_91 (lv_at hl 4 rfl) ?_
        refine va_lald hx hb hK hP 0 0 rfl rfl (by exact (lu_step (N := 6) (by decide) hinv h25).2.1) d_M_times_93 ?_
        refine lv_lstore (lv' := [(9, .long (g (Int32.toNatClampNeg k))), (18, .long ((((jv_lushr ((g (Int32.toNatClampNeg k)) * (v &&& 4294967295)) 32) + (jv_lushr (bf * (jv_lushr v 32)) 32)) + (jv_lushr cy 32)) + (jv_lushr (((((g (Int32.toNatClampNeg k)) * (v &&& 4294967295)) &&& 4294967295) + ((bf * (jv_lushr v 32)) &&& 4294967295)) + (cy &&& 4294967295)) 32))), (16, .long (((((g (Int32.toNatClampNeg k)) * (v &&& 4294967295)) &&& 4294967295) + ((bf * (jv_lushr v 32)) &&& 4294967295)) + (cy &&& 4294967295))), (14, .long (bf * (jv_lushr v 32))), (12, .long ((g (Int32.toNatClampNeg k)) * (v &&& 4294967295))), (11, .int k), (7, .long cy), (5, .long (jv_lushr v 32)), (3, .long (v &&& 4294967295)), (0, .ref r)]) hx hb d_M_times_94 hl (by decide) rfl (fun ls hl => ?_)
        refine lv_aload_n hx hb d_M_times_96 rfl (lv_at hl 9 rfl) ?_
        refine lv_iload hx hb d_M_times_97 (lv_at hl 5 rfl) ?_
        refine lv_lload hx hb d_M_times_99 (lv_at hl 2 rfl) ?_
        refine lv_ldc2 (v := 4294967295) hx hb hown (hts _ tw_374) d_M_times_101 ?_
        refine lv_land hx hb d_M_times_104 ?_
        refine va_last hx hb hK hP hD hS 0 0 rfl rfl (by exact (lu_step (N := 6) (by decide) hinv h25).2.1) d_M_times_105 (fun H locs hP hD hS => ?_)
        have hP : va_P (dC, dI) cls9 [(r, .inl (cJ, 6, .inr (.inl (vp_updL g (Int32.toNatClampNeg k) ((((((g (Int32.toNatClampNeg k)) * (v &&& 4294967295)) &&& 4294967295) + ((bf * (jv_lushr v 32)) &&& 4294967295)) + (cy &&& 4294967295)) &&& 4294967295)))))] H := hP
        have hD : va_D A [(r, .inl (cJ, 6, .inr (.inl (vp_updL g (Int32.toNatClampNeg k) ((((((g (Int32.toNatClampNeg k)) * (v &&& 4294967295)) &&& 4294967295) + ((bf * (jv_lushr v 32)) &&& 4294967295)) + (cy &&& 4294967295)) &&& 4294967295)))))] := hD
        refine lv_lload hx hb d_M_times_106 (lv_at hl 1 rfl) ?_
        refine lv_lstore (lv' := [(7, .long ((((jv_lushr ((g (Int32.toNatClampNeg k)) * (v &&& 4294967295)) 32) + (jv_lushr (bf * (jv_lushr v 32)) 32)) + (jv_lushr cy 32)) + (jv_lushr (((((g (Int32.toNatClampNeg k)) * (v &&& 4294967295)) &&& 4294967295) + ((bf * (jv_lushr v 32)) &&& 4294967295)) + (cy &&& 4294967295)) 32))), (9, .long (g (Int32.toNatClampNeg k))), (18, .long ((((jv_lushr ((g (Int32.toNatClampNeg k)) * (v &&& 4294967295)) 32) + (jv_lushr (bf * (jv_lushr v 32)) 32)) + (jv_lushr cy 32)) + (jv_lushr (((((g (Int32.toNatClampNeg k)) * (v &&& 4294967295)) &&& 4294967295) + ((bf * (jv_lushr v 32)) &&& 4294967295)) + (cy &&& 4294967295)) 32))), (16, .long (((((g (Int32.toNatClampNeg k)) * (v &&& 4294967295)) &&& 4294967295) + ((bf * (jv_lushr v 32)) &&& 4294967295)) + (cy &&& 4294967295))), (14, .long (bf * (jv_lushr v 32))), (12, .long ((g (Int32.toNatClampNeg k)) * (v &&& 4294967295))), (11, .int k), (5, .long (jv_lushr v 32)), (3, .long (v &&& 4294967295)), (0, .ref r)]) hx hb d_M_times_108 hl (by decide) rfl (fun ls hl => ?_)
        refine lv_iinc (k := 6) (v := k + 1) (lv' := [(11, .int (k + 1)), (7, .long ((((jv_lushr ((g (Int32.toNatClampNeg k)) * (v &&& 4294967295)) 32) + (jv_lushr (bf * (jv_lushr v 32)) 32)) + (jv_lushr cy 32)) + (jv_lushr (((((g (Int32.toNatClampNeg k)) * (v &&& 4294967295)) &&& 4294967295) + ((bf * (jv_lushr v 32)) &&& 4294967295)) + (cy &&& 4294967295)) 32))), (9, .long (g (Int32.toNatClampNeg k))), (18, .long ((((jv_lushr ((g (Int32.toNatClampNeg k)) * (v &&& 4294967295)) 32) + (jv_lushr (bf * (jv_lushr v 32)) 32)) + (jv_lushr cy 32)) + (jv_lushr (((((g (Int32.toNatClampNeg k)) * (v &&& 4294967295)) &&& 4294967295) + ((bf * (jv_lushr v 32)) &&& 4294967295)) + (cy &&& 4294967295)) 32))), (16, .long (((((g (Int32.toNatClampNeg k)) * (v &&& 4294967295)) &&& 4294967295) + ((bf * (jv_lushr v 32)) &&& 4294967295)) + (cy &&& 4294967295))), (14, .long (bf * (jv_lushr v 32))), (12, .long ((g (Int32.toNatClampNeg k)) * (v &&& 4294967295))), (5, .long (jv_lushr v 32)), (3, .long (v &&& 4294967295)), (0, .ref r)]) hx hb d_M_times_110 hl rfl rfl (by decide) rfl (fun ls hl => ?_)
        refine lv_goto (tgt := 21) hx hb d_M_times_113 rfl ?_
        exact ih (k + 1) (vp_updL g (Int32.toNatClampNeg k) ((((((g (Int32.toNatClampNeg k)) * (v &&& 4294967295)) &&& 4294967295) + ((bf * (jv_lushr v 32)) &&& 4294967295)) + (cy &&& 4294967295)) &&& 4294967295)) ((((jv_lushr ((g (Int32.toNatClampNeg k)) * (v &&& 4294967295)) 32) + (jv_lushr (bf * (jv_lushr v 32)) 32)) + (jv_lushr cy 32)) + (jv_lushr (((((g (Int32.toNatClampNeg k)) * (v &&& 4294967295)) &&& 4294967295) + ((bf * (jv_lushr v 32)) &&& 4294967295)) + (cy &&& 4294967295)) 32)) (g (Int32.toNatClampNeg k)) (by exact (lu_step (N := 6) (by decide) hinv h25).1) (by have h9 := (lu_step (N := 6) (by decide) hinv h25).2.2; omega) hres ls _ _ (lv_sub hl [0, 2, 1, 7, 8, 9] rfl) hP hD hS
  exact L21 7 0 f 0 0 (by exact lu_0 _) (by decide) hres ls _ _ (lv_sub hl [0, 1, 2, 3, 4, 5] rfl) hP hD hS
def km_prod_j23 (k : Int32) (g : Nat → Int64) (kL3 : (Int32) → (Nat → Int64) → (Nat → Int64)) (t23_0 : Int64) : (Nat → Int64) := (kL3 (k + 1) (vp_updL g (Int32.toNatClampNeg k) t23_0))
def km_prod_L3 (a : Int64) (b : Int64) (c0 : Int64) : Nat → (Int32) → (Nat → Int64) → (Nat → Int64)
  | 0, _, _ => (fun _ => 0)
  | n+1, k, g => (if 6 ≤ k then (km_times (km_times (km_times g a) b) c0) else (if k = 0 then (km_prod_j23 k g (km_prod_L3 a b c0 n) 1) else (km_prod_j23 k g (km_prod_L3 a b c0 n) 0)))
def km_prod (f : Nat → Int64) (a : Int64) (b : Int64) (c0 : Int64) : (Nat → Int64) := (km_prod_L3 a b c0 7 0 f)
set_option maxHeartbeats 4000000 in
set_option maxRecDepth 100000 in
theorem c_km_prod (l : Launch) (dC : Nat → ClassId) (dI : Nat → Nat → Nat) (r : Nat) (cJ : ClassId) (f : Nat → Int64) (a : Int64) (b : Int64) (c0 : Int64)  : mc_v l y_M_product w_M_product { frames := 1, cells := 0, slots := 0, locals := 39 } (dC, dI) cls9 [(r, .inl (cJ, 6, .inr (.inl f)))] [(r, .inl (cJ, 6, .inr (.inl (km_prod f a b c0))))] [(cJ, .long)] [.ref r, .long a, .long b, .long c0] := by
  intro sz
  refine Met.ofW (cc := b_M_product) (maxL := 8) (ret := none) (by decide) rfl ?_
  intro p e s m args below meth c s₁ B hml hv
  obtain ⟨hargs, hsz, hP, hK, hD0⟩ := hv
  have hx := B.exec
  have hb := B.bytes
  have hr := B.returns
  have hts : ∀ w ∈ lw_w, w.before args s = true := fun w h => atoms_spec (ws := w_M_product) B.pre w (List.mem_cons_of_mem _ h)
  have hown : s.vm.findClass R_M = some m.cls := findClass_of_methodNamed B.named
  have hlocks := B.notSynchronized
  subst hsz
  have hD := hD0.self (sz := s.heap.size)
  generalize hR : (headSpec w_M_product { frames := 1, cells := 0, slots := 0, locals := 39 }).room = R
  generalize hAe : va_A [(r, .inl (cJ, 6, .inr (.inl f)))] s.heap.size = A at hD ⊢
  have hA : ∀ q : Nat, s.heap.size ≤ q → A q := fun q h => by rw [← hAe]; exact Or.inr h
  have hS : va_S A s.heap s.heap [] := va_S.rf
  generalize hRES : km_prod f a b c0 = RES
  have hres := hRES
  have hl := lv_entry [.ref r, .long a, .long b, .long c0] (n := 8) (Nat.le_of_ble_eq_true rfl)
  have hent : entryFrame m args 8 = F0 m 0 (lg_sl [.ref r, .long a, .long b, .long c0] ++ List.replicate (8 - (lg_sl [.ref r, .long a, .long b, .long c0]).length) Slot.unset).toArray [] := by rw [hargs]; exact lg_entry_eq m [.ref r, .long a, .long b, .long c0] 8
  rw [hent]
  clear hent
  generalize (lg_sl [.ref r, .long a, .long b, .long c0] ++ List.replicate (8 - (lg_sl [.ref r, .long a, .long b, .long c0]).length) Slot.unset).toArray = ls at hl ⊢
  have hl : lv_has ls 8 [(0, .ref r), (1, .long a), (3, .long b), (5, .long c0)] := hl
  have hP : va_P (dC, dI) cls9 [(r, .inl (cJ, 6, .inr (.inl f)))] s.heap := hP
  have hD : va_D A [(r, .inl (cJ, 6, .inr (.inl f)))] := hD
  clear hD0 hRES hAe
  unfold km_prod at hres
  generalize hQ : MQ below (va_Qv (fun (_ : Unit) => True) (fun _ t => va_P (dC, dI) cls9 [(r, .inl (cJ, 6, .inr (.inl RES)))] t.heap ∧ va_K (dC, dI) cls9 [(cJ, .long)] t ∧ va_D A [(r, .inl (cJ, 6, .inr (.inl RES)))]) A) args s 0 0 A = Q
  replace hQ := hQ.symm
  refine lv_iconst (v := 0) hx hb d_M_product_0 (by decide) ?_
  refine lv_istore (lv' := [(7, .int 0), (0, .ref r), (1, .long a), (3, .long b), (5, .long c0)]) hx hb d_M_product_1 hl (by decide) rfl (fun ls hl => ?_)
  have L3 : ∀ (n : Nat) (k : Int32) (g : Nat → Int64), (lu 6 k) → 6 - k.toNatClampNeg < n → km_prod_L3 a b c0 n k g = RES → ∀ (ls : Array Slot) (H : Heap) (locs : List Loc), lv_has ls 8 [(7, .int k), (0, .ref r), (1, .long a), (3, .long b), (5, .long c0)] → va_P (dC, dI) cls9 [(r, .inl (cJ, 6, .inr (.inl g)))] H → va_D A [(r, .inl (cJ, 6, .inr (.inl g)))] → va_S A s.heap H locs → W p l e R s m args below meth c H locs 0 0 Q (F0 m 3 ls []) := by
    intro n
    induction n with
    | zero => intro k g hinv hmu; exact absurd hmu (Nat.not_lt_zero _)
    | succ n ih =>
      intro k g hinv hmu hres ls H locs hl hP hD hS
      rw [km_prod_L3] at hres
      refine lv_iload hx hb d_M_product_3 (lv_at hl 0 rfl) ?_
      refine lv_bipush (v := 6) hx hb d_M_product_5 (by decide) ?_
      refine lv_icmp_ge (tgt := 30) hx hb d_M_product_7 rfl (fun h7 => ?_) (fun h7 => ?_)
      · rw [if_pos h7] at hres
        refine lv_aload_n hx hb d_M_product_30 rfl (lv_at hl 1 rfl) ?_
        refine lv_lload_n hx hb d_M_product_31 rfl (lv_at hl 2 rfl) ?_
        refine cm_v (wc := [(r, .inl (cJ, 6, .inr (.inl g)))]) (wr := []) (W1 := [(r, .inl (cJ, 6, .inr (.inl (km_times g a))))]) (w2 := [(r, .inl (cJ, 6, .inr (.inl (km_times g a))))]) (va_runS (g := F0 m 32 ls [.long a, .ref r]) (As := [.ref r, .long a]) (rest := []) ⟨hx, hb, hml, hown, hts⟩ (c_km_times l dC dI r cJ g a  _) (va_cwS 2 hts (gi_S tw_371 tw_372 tw_6 tw_373) rfl rfl rfl (by decide +kernel) ⟨(by rw [← hR]; exact Nat.le_of_ble_eq_true rfl), (by rw [← hR]; exact Nat.le_of_ble_eq_true rfl)⟩) ⟨mc_blind, mc_pre (hP.sub [0] rfl) (hK.sub [0] rfl) (hD.sub [0] (by decide) rfl)⟩ rfl rfl hl.1 rfl (lv_room (Nat.le_of_ble_eq_true rfl)) d_M_product_32 ⟨Nat.zero_le _, Nat.zero_le _⟩) hP hD hS hA [0] [] [0] rfl rfl (by decide) (by decide) rfl rfl (by decide) (fun H locs hP hD hS => ?_)
        refine lv_aload_n hx hb d_M_product_35 rfl (lv_at hl 1 rfl) ?_
        refine lv_lload_n hx hb d_M_product_36 rfl (lv_at hl 3 rfl) ?_
        refine cm_v (wc := [(r, .inl (cJ, 6, .inr (.inl (km_times g a))))]) (wr := []) (W1 := [(r, .inl (cJ, 6, .inr (.inl (km_times (km_times g a) b))))]) (w2 := [(r, .inl (cJ, 6, .inr (.inl (km_times (km_times g a) b))))]) (va_runS (g := F0 m 37 ls [.long b, .ref r]) (As := [.ref r, .long b]) (rest := []) ⟨hx, hb, hml, hown, hts⟩ (c_km_times l dC dI r cJ (km_times g a) b  _) (va_cwS 2 hts (gi_S tw_371 tw_372 tw_6 tw_373) rfl rfl rfl (by decide +kernel) ⟨(by rw [← hR]; exact Nat.le_of_ble_eq_true rfl), (by rw [← hR]; exact Nat.le_of_ble_eq_true rfl)⟩) ⟨mc_blind, mc_pre (hP.sub [0] rfl) (hK.sub [0] rfl) (hD.sub [0] (by decide) rfl)⟩ rfl rfl hl.1 rfl (lv_room (Nat.le_of_ble_eq_true rfl)) d_M_product_37 ⟨Nat.zero_le _, Nat.zero_le _⟩) hP hD hS hA [0] [] [0] rfl rfl (by decide) (by decide) rfl rfl (by decide) (fun H locs hP hD hS => ?_)
        refine lv_aload_n hx hb d_M_product_40 rfl (lv_at hl 1 rfl) ?_
        refine lv_lload hx hb d_M_product_41 (lv_at hl 4 rfl) ?_
        refine cm_v (wc := [(r, .inl (cJ, 6, .inr (.inl (km_times (km_times g a) b))))]) (wr := []) (W1 := [(r, .inl (cJ, 6, .inr (.inl (km_times (km_times (km_times g a) b) c0))))]) (w2 := [(r, .inl (cJ, 6, .inr (.inl (km_times (km_times (km_times g a) b) c0))))]) (va_runS (g := F0 m 43 ls [.long c0, .ref r]) (As := [.ref r, .long c0]) (rest := []) ⟨hx, hb, hml, hown, hts⟩ (c_km_times l dC dI r cJ (km_times (km_times g a) b) c0  _) (va_cwS 2 hts (gi_S tw_371 tw_372 tw_6 tw_373) rfl rfl rfl (by decide +kernel) ⟨(by rw [← hR]; exact Nat.le_of_ble_eq_true rfl), (by rw [← hR]; exact Nat.le_of_ble_eq_true rfl)⟩) ⟨mc_blind, mc_pre (hP.sub [0] rfl) (hK.sub [0] rfl) (hD.sub [0] (by decide) rfl)⟩ rfl rfl hl.1 rfl (lv_room (Nat.le_of_ble_eq_true rfl)) d_M_product_43 ⟨Nat.zero_le _, Nat.zero_le _⟩) hP hD hS hA [0] [] [0] rfl rfl (by decide) (by decide) rfl rfl (by decide) (fun H locs hP hD hS => ?_)
        rw [hQ]
        subst hres
        exact W.vret hx hb hr (fun t ht hW => ⟨⟨(), rfl, trivial, ⟨by rw [ht]; exact hP, va_K.moved hW.alike hK, hD⟩⟩, hS.F ht⟩) hS.2.2 d_M_product_46
      · rw [if_neg h7] at hres
        refine lv_aload_n hx hb d_M_product_10 rfl (lv_at hl 1 rfl) ?_
        refine lv_iload hx hb d_M_product_11 (lv_at hl 0 rfl) ?_
        refine lv_iload hx hb d_M_product_13 (lv_at hl 0 rfl) ?_
        have J23 : ∀ (t23_0 : Int64), km_prod_j23 k g (km_prod_L3 a b c0 n) t23_0 = RES → ∀ (ls : Array Slot) (H : Heap) (locs : List Loc), lv_has ls 8 [(7, .int k), (0, .ref r), (1, .long a), (3, .long b), (5, .long c0)] → va_P (dC, dI) cls9 [(r, .inl (cJ, 6, .inr (.inl g)))] H → va_D A [(r, .inl (cJ, 6, .inr (.inl g)))] → va_S A s.heap H locs → W p l e R s m args below meth c H locs 0 0 Q (F0 m 23 ls [.long t23_0, .int k, .ref r]) := by
          intro t23_0 hres ls H locs hl hP hD hS
          unfold km_prod_j23 at hres
          refine va_last hx hb hK hP hD hS 0 0 rfl rfl (by exact (lu_step (N := 6) (by decide) hinv h7).2.1) d_M_product_23 (fun H locs hP hD hS => ?_)
          have hP : va_P (dC, dI) cls9 [(r, .inl (cJ, 6, .inr (.inl (vp_updL g (Int32.toNatClampNeg k) t23_0))))] H := hP
          have hD : va_D A [(r, .inl (cJ, 6, .inr (.inl (vp_updL g (Int32.toNatClampNeg k) t23_0))))] := hD
          refine lv_iinc (k := 0) (v := k + 1) (lv' := [(7, .int (k + 1)), (0, .ref r), (1, .long a), (3, .long b), (5, .long c0)]) hx hb d_M_product_24 hl rfl rfl (by decide) rfl (fun ls hl => ?_)
          refine lv_goto (tgt := 3) hx hb d_M_product_27 rfl ?_
          exact ih (k + 1) (vp_updL g (Int32.toNatClampNeg k) t23_0) (by exact (lu_step (N := 6) (by decide) hinv h7).1) (by have h9 := (lu_step (N := 6) (by decide) hinv h7).2.2; omega) hres ls _ _ (lv_sub hl [0, 1, 2, 3, 4] rfl) hP hD hS
        refine lv_if_ne (tgt := 22) hx hb d_M_product_15 rfl (fun h15 => ?_) (fun h15 => ?_)
        · rw [if_neg h15] at hres
          refine lv_lconst (v := 0) hx hb d_M_product_22 (by decide) ?_
          exact J23 0 hres ls _ _ (lv_sub hl [0, 1, 2, 3, 4] rfl) hP hD hS
        · rw [if_pos h15] at hres
          refine lv_lconst (v := 1) hx hb d_M_product_18 (by decide) ?_
          refine lv_goto (tgt := 23) hx hb d_M_product_19 rfl ?_
          exact J23 1 hres ls _ _ (lv_sub hl [0, 1, 2, 3, 4] rfl) hP hD hS
  exact L3 7 0 f (by exact lu_0 _) (by decide) hres ls _ _ (lv_sub hl [0, 1, 2, 3, 4] rfl) hP hD hS
def km_cmp_L24 (fi : Nat → Int64) (se : Nat → Int64) (a : Int64) (b : Int64) (c0 : Int64) : Nat → (Int32) → Int32 × (Nat → Int64) × (Nat → Int64)
  | 0, _ => (0, fun _ => 0, fun _ => 0)
  | n+1, k => (if k < 0 then (0, (km_prod fi a a 1), (km_prod se b b c0)) else (if (lg_cmp ((km_prod fi a a 1) (Int32.toNatClampNeg k)) ((km_prod se b b c0) (Int32.toNatClampNeg k))) = 0 then ((km_cmp_L24 fi se a b c0 n) (k + (-1))) else (if 0 ≤ (lg_cmp ((km_prod fi a a 1) (Int32.toNatClampNeg k)) ((km_prod se b b c0) (Int32.toNatClampNeg k))) then (1, (km_prod fi a a 1), (km_prod se b b c0)) else ((-1), (km_prod fi a a 1), (km_prod se b b c0)))))
def km_cmp (fi : Nat → Int64) (se : Nat → Int64) (a : Int64) (b : Int64) (c0 : Int64) : Int32 × (Nat → Int64) × (Nat → Int64) := (km_cmp_L24 fi se a b c0 7 5)
set_option maxHeartbeats 4000000 in
set_option maxRecDepth 100000 in
theorem c_km_cmp (l : Launch) (dC : Nat → ClassId) (dI : Nat → Nat → Nat) (h0 : Nat) (apx : Nat) (apy : Nat) (aon : Nat) (aen : Nat) (afi : Nat) (ase : Nat) (cJ : ClassId) (cZ : ClassId) (cI : ClassId) (wd : Int32) (cn : Int32) (pn : Int32) (tc : Int32) (tn : Int32) (px : Nat → Int64) (py : Nat → Int64) (on : Nat → Int32) (en : Nat → Int32) (fi : Nat → Int64) (se : Nat → Int64) (a : Int64) (b : Int64) (c0 : Int64)  : mc_i l y_M_compare w_M_compare { frames := 2, cells := 0, slots := 0, locals := 66 } (dC, dI) cls9 [(h0, .inr (2, [.int wd, .ref apx, .ref apy, .ref aon, .ref aen, .int cn, .int pn, .int tc, .int tn, .ref afi, .ref ase])), (apx, .inl (cJ, 256, .inr (.inl px))), (apy, .inl (cJ, 256, .inr (.inl py))), (aon, .inl (cZ, 256, .inl on)), (aen, .inl (cI, 256, .inl en)), (afi, .inl (cJ, 6, .inr (.inl fi))), (ase, .inl (cJ, 6, .inr (.inl se)))] [(h0, .inr (2, [.int wd, .ref apx, .ref apy, .ref aon, .ref aen, .int cn, .int pn, .int tc, .int tn, .ref afi, .ref ase])), (apx, .inl (cJ, 256, .inr (.inl px))), (apy, .inl (cJ, 256, .inr (.inl py))), (aon, .inl (cZ, 256, .inl on)), (aen, .inl (cI, 256, .inl en)), (afi, .inl (cJ, 6, .inr (.inl ((km_cmp fi se a b c0).2.1)))), (ase, .inl (cJ, 6, .inr (.inl ((km_cmp fi se a b c0).2.2))))] [(cJ, .long), (cZ, .boolean), (cI, .int)] [.ref h0, .long a, .long b, .long c0] ((km_cmp fi se a b c0).1) := by
  intro sz
  refine Met.ofW (cc := b_M_compare) (maxL := 8) (ret := (some .int)) (by decide) rfl ?_
  intro p e s m args below meth c s₁ B hml hv
  obtain ⟨hargs, hsz, hP, hK, hD0⟩ := hv
  have hx := B.exec
  have hb := B.bytes
  have hr := B.returns
  have hts : ∀ w ∈ lw_w, w.before args s = true := fun w h => atoms_spec (ws := w_M_compare) B.pre w (List.mem_cons_of_mem _ h)
  have hown : s.vm.findClass R_M = some m.cls := findClass_of_methodNamed B.named
  have hlocks := B.notSynchronized
  subst hsz
  have hD := hD0.self (sz := s.heap.size)
  generalize hR : (headSpec w_M_compare { frames := 2, cells := 0, slots := 0, locals := 66 }).room = R
  generalize hAe : va_A [(h0, .inr (2, [.int wd, .ref apx, .ref apy, .ref aon, .ref aen, .int cn, .int pn, .int tc, .int tn, .ref afi, .ref ase])), (apx, .inl (cJ, 256, .inr (.inl px))), (apy, .inl (cJ, 256, .inr (.inl py))), (aon, .inl (cZ, 256, .inl on)), (aen, .inl (cI, 256, .inl en)), (afi, .inl (cJ, 6, .inr (.inl fi))), (ase, .inl (cJ, 6, .inr (.inl se)))] s.heap.size = A at hD ⊢
  have hA : ∀ q : Nat, s.heap.size ≤ q → A q := fun q h => by rw [← hAe]; exact Or.inr h
  have hS : va_S A s.heap s.heap [] := va_S.rf
  generalize hRES : km_cmp fi se a b c0 = RES
  have hres := hRES
  have hl := lv_entry [.ref h0, .long a, .long b, .long c0] (n := 8) (Nat.le_of_ble_eq_true rfl)
  have hent : entryFrame m args 8 = F0 m 0 (lg_sl [.ref h0, .long a, .long b, .long c0] ++ List.replicate (8 - (lg_sl [.ref h0, .long a, .long b, .long c0]).length) Slot.unset).toArray [] := by rw [hargs]; exact lg_entry_eq m [.ref h0, .long a, .long b, .long c0] 8
  rw [hent]
  clear hent
  generalize (lg_sl [.ref h0, .long a, .long b, .long c0] ++ List.replicate (8 - (lg_sl [.ref h0, .long a, .long b, .long c0]).length) Slot.unset).toArray = ls at hl ⊢
  have hl : lv_has ls 8 [(0, .ref h0), (1, .long a), (3, .long b), (5, .long c0)] := hl
  have hP : va_P (dC, dI) cls9 [(h0, .inr (2, [.int wd, .ref apx, .ref apy, .ref aon, .ref aen, .int cn, .int pn, .int tc, .int tn, .ref afi, .ref ase])), (apx, .inl (cJ, 256, .inr (.inl px))), (apy, .inl (cJ, 256, .inr (.inl py))), (aon, .inl (cZ, 256, .inl on)), (aen, .inl (cI, 256, .inl en)), (afi, .inl (cJ, 6, .inr (.inl fi))), (ase, .inl (cJ, 6, .inr (.inl se)))] s.heap := hP
  have hD : va_D A [(h0, .inr (2, [.int wd, .ref apx, .ref apy, .ref aon, .ref aen, .int cn, .int pn, .int tc, .int tn, .ref afi, .ref ase])), (apx, .inl (cJ, 256, .inr (.inl px))), (apy, .inl (cJ, 256, .inr (.inl py))), (aon, .inl (cZ, 256, .inl on)), (aen, .inl (cI, 256, .inl en)), (afi, .inl (cJ, 6, .inr (.inl fi))), (ase, .inl (cJ, 6, .inr (.inl se)))] := hD
  clear hD0 hRES hAe
  unfold km_cmp at hres
  generalize hQ : MQ below (va_Qi (fun x (_ : Unit) => x = RES.1) (fun _ t => va_P (dC, dI) cls9 [(h0, .inr (2, [.int wd, .ref apx, .ref apy, .ref aon, .ref aen, .int cn, .int pn, .int tc, .int tn, .ref afi, .ref ase])), (apx, .inl (cJ, 256, .inr (.inl px))), (apy, .inl (cJ, 256, .inr (.inl py))), (aon, .inl (cZ, 256, .inl on)), (aen, .inl (cI, 256, .inl en)), (afi, .inl (cJ, 6, .inr (.inl RES.2.1))), (ase, .inl (cJ, 6, .inr (.inl RES.2.2)))] t.heap ∧ va_K (dC, dI) cls9 [(cJ, .long), (cZ, .boolean), (cI, .int)] t ∧ va_D A [(h0, .inr (2, [.int wd, .ref apx, .ref apy, .ref aon, .ref aen, .int cn, .int pn, .int tc, .int tn, .ref afi, .ref ase])), (apx, .inl (cJ, 256, .inr (.inl px))), (apy, .inl (cJ, 256, .inr (.inl py))), (aon, .inl (cZ, 256, .inl on)), (aen, .inl (cI, 256, .inl en)), (afi, .inl (cJ, 6, .inr (.inl RES.2.1))), (ase, .inl (cJ, 6, .inr (.inl RES.2.2)))]) A) args s 0 0 A = Q
  replace hQ := hQ.symm
  refine lv_aload_n hx hb d_M_compare_0 rfl (lv_at hl 0 rfl) ?_
  refine va_get (D := (dC, dI)) (ci := 2) (v := .ref afi) (C := R_M) (T := F_M) (N := 11) hx hb hts in_M hown hK hP 0 rfl rfl 9 (by decide) (hts _ tw_288) (fun _ h9 => h9) rfl d_M_compare_1 ?_
  refine lv_lload_n hx hb d_M_compare_4 rfl (lv_at hl 1 rfl) ?_
  refine lv_lload_n hx hb d_M_compare_5 rfl (lv_at hl 1 rfl) ?_
  refine lv_lconst (v := 1) hx hb d_M_compare_6 (by decide) ?_
  refine cm_v (wc := [(afi, .inl (cJ, 6, .inr (.inl fi)))]) (wr := [(h0, .inr (2, [.int wd, .ref apx, .ref apy, .ref aon, .ref aen, .int cn, .int pn, .int tc, .int tn, .ref afi, .ref ase])), (apx, .inl (cJ, 256, .inr (.inl px))), (apy, .inl (cJ, 256, .inr (.inl py))), (aon, .inl (cZ, 256, .inl on)), (aen, .inl (cI, 256, .inl en)), (ase, .inl (cJ, 6, .inr (.inl se)))]) (W1 := [(afi, .inl (cJ, 6, .inr (.inl (km_prod fi a a 1))))]) (w2 := [(h0, .inr (2, [.int wd, .ref apx, .ref apy, .ref aon, .ref aen, .int cn, .int pn, .int tc, .int tn, .ref afi, .ref ase])), (apx, .inl (cJ, 256, .inr (.inl px))), (apy, .inl (cJ, 256, .inr (.inl py))), (aon, .inl (cZ, 256, .inl on)), (aen, .inl (cI, 256, .inl en)), (afi, .inl (cJ, 6, .inr (.inl (km_prod fi a a 1)))), (ase, .inl (cJ, 6, .inr (.inl se)))]) (va_runS (g := F0 m 7 ls [.long 1, .long a, .long a, .ref afi]) (As := [.ref afi, .long a, .long a, .long 1]) (rest := []) ⟨hx, hb, hml, hown, hts⟩ (c_km_prod l dC dI afi cJ fi a a 1  _) (va_cwS 4 hts (gi_S tw_368 tw_369 tw_6 tw_370) rfl rfl rfl (by decide +kernel) ⟨(by rw [← hR]; exact Nat.le_of_ble_eq_true rfl), (by rw [← hR]; exact Nat.le_of_ble_eq_true rfl)⟩) ⟨mc_blind, mc_pre (hP.sub [5] rfl) (hK.sub [0] rfl) (hD.sub [5] (by decide) rfl)⟩ rfl rfl hl.1 rfl (lv_room (Nat.le_of_ble_eq_true rfl)) d_M_compare_7 ⟨Nat.zero_le _, Nat.zero_le _⟩) hP hD hS hA [5] [0, 1, 2, 3, 4, 6] [0, 1, 2, 3, 4, 6, 5] rfl rfl (by decide) (by decide) rfl rfl (by decide) (fun H locs hP hD hS => ?_)
  refine lv_aload_n hx hb d_M_compare_10 rfl (lv_at hl 0 rfl) ?_
  refine va_get (D := (dC, dI)) (ci := 2) (v := .ref ase) (C := R_M) (T := F_M) (N := 11) hx hb hts in_M hown hK hP 0 rfl rfl 10 (by decide) (hts _ tw_289) (fun _ h9 => h9) rfl d_M_compare_11 ?_
  refine lv_lload_n hx hb d_M_compare_14 rfl (lv_at hl 2 rfl) ?_
  refine lv_lload_n hx hb d_M_compare_15 rfl (lv_at hl 2 rfl) ?_
  refine lv_lload hx hb d_M_compare_16 (lv_at hl 3 rfl) ?_
  refine cm_v (wc := [(ase, .inl (cJ, 6, .inr (.inl se)))]) (wr := [(h0, .inr (2, [.int wd, .ref apx, .ref apy, .ref aon, .ref aen, .int cn, .int pn, .int tc, .int tn, .ref afi, .ref ase])), (apx, .inl (cJ, 256, .inr (.inl px))), (apy, .inl (cJ, 256, .inr (.inl py))), (aon, .inl (cZ, 256, .inl on)), (aen, .inl (cI, 256, .inl en)), (afi, .inl (cJ, 6, .inr (.inl (km_prod fi a a 1))))]) (W1 := [(ase, .inl (cJ, 6, .inr (.inl (km_prod se b b c0))))]) (w2 := [(h0, .inr (2, [.int wd, .ref apx, .ref apy, .ref aon, .ref aen, .int cn, .int pn, .int tc, .int tn, .ref afi, .ref ase])), (apx, .inl (cJ, 256, .inr (.inl px))), (apy, .inl (cJ, 256, .inr (.inl py))), (aon, .inl (cZ, 256, .inl on)), (aen, .inl (cI, 256, .inl en)), (afi, .inl (cJ, 6, .inr (.inl (km_prod fi a a 1)))), (ase, .inl (cJ, 6, .inr (.inl (km_prod se b b c0))))]) (va_runS (g := F0 m 18 ls [.long c0, .long b, .long b, .ref ase]) (As := [.ref ase, .long b, .long b, .long c0]) (rest := []) ⟨hx, hb, hml, hown, hts⟩ (c_km_prod l dC dI ase cJ se b b c0  _) (va_cwS 4 hts (gi_S tw_368 tw_369 tw_6 tw_370) rfl rfl rfl (by decide +kernel) ⟨(by rw [← hR]; exact Nat.le_of_ble_eq_true rfl), (by rw [← hR]; exact Nat.le_of_ble_eq_true rfl)⟩) ⟨mc_blind, mc_pre (hP.sub [6] rfl) (hK.sub [0] rfl) (hD.sub [6] (by decide) rfl)⟩ rfl rfl hl.1 rfl (lv_room (Nat.le_of_ble_eq_true rfl)) d_M_compare_18 ⟨Nat.zero_le _, Nat.zero_le _⟩) hP hD hS hA [6] [0, 1, 2, 3, 4, 5] [0, 1, 2, 3, 4, 5, 6] rfl rfl (by decide) (by decide) rfl rfl (by decide) (fun H locs hP hD hS => ?_)
  refine lv_iconst (v := 5) hx hb d_M_compare_21 (by decide) ?_
  refine lv_istore (lv' := [(7, .int 5), (0, .ref h0), (1, .long a), (3, .long b), (5, .long c0)]) hx hb d_M_compare_22 hl (by decide) rfl (fun ls hl => ?_)
  have L24 : ∀ (n : Nat) (k : Int32), (ld 6 k) → (k + 1).toNatClampNeg < n → km_cmp_L24 fi se a b c0 n k = RES → ∀ (ls : Array Slot) (H : Heap) (locs : List Loc), lv_has ls 8 [(7, .int k), (0, .ref h0)] → va_P (dC, dI) cls9 [(h0, .inr (2, [.int wd, .ref apx, .ref apy, .ref aon, .ref aen, .int cn, .int pn, .int tc, .int tn, .ref afi, .ref ase])), (apx, .inl (cJ, 256, .inr (.inl px))), (apy, .inl (cJ, 256, .inr (.inl py))), (aon, .inl (cZ, 256, .inl on)), (aen, .inl (cI, 256, .inl en)), (afi, .inl (cJ, 6, .inr (.inl (km_prod fi a a 1)))), (ase, .inl (cJ, 6, .inr (.inl (km_prod se b b c0))))] H → va_D A [(h0, .inr (2, [.int wd, .ref apx, .ref apy, .ref aon, .ref aen, .int cn, .int pn, .int tc, .int tn, .ref afi, .ref ase])), (apx, .inl (cJ, 256, .inr (.inl px))), (apy, .inl (cJ, 256, .inr (.inl py))), (aon, .inl (cZ, 256, .inl on)), (aen, .inl (cI, 256, .inl en)), (afi, .inl (cJ, 6, .inr (.inl (km_prod fi a a 1)))), (ase, .inl (cJ, 6, .inr (.inl (km_prod se b b c0))))] → va_S A s.heap H locs → W p l e R s m args below meth c H locs 0 0 Q (F0 m 24 ls []) := by
    intro n
    induction n with
    | zero => intro k hinv hmu; exact absurd hmu (Nat.not_lt_zero _)
    | succ n ih =>
      intro k hinv hmu hres ls H locs hl hP hD hS
      rw [km_cmp_L24] at hres
      refine lv_iload hx hb d_M_compare_24 (lv_at hl 0 rfl) ?_
      refine lv_if_lt (tgt := 77) hx hb d_M_compare_26 rfl (fun h26 => ?_) (fun h26 => ?_)
      · rw [if_pos h26] at hres
        refine lv_iconst (v := 0) hx hb d_M_compare_77 (by decide) ?_
        rw [hQ]
        subst hres
        exact W.iret (v := 0) hx hb hr (fun t ht hW => ⟨⟨_, (), rfl, rfl, ⟨by rw [ht]; exact hP, va_K.moved hW.alike hK, hD⟩⟩, hS.F ht⟩) hS.2.2 d_M_compare_78
      · rw [if_neg h26] at hres
        refine lv_aload_n hx hb d_M_compare_29 rfl (lv_at hl 1 rfl) ?_
        refine va_get (D := (dC, dI)) (ci := 2) (v := .ref afi) (C := R_M) (T := F_M) (N := 11) hx hb hts in_M hown hK hP 0 rfl rfl 9 (by decide) (hts _ tw_288) (fun _ h9 => h9) rfl d_M_compare_30 ?_
        refine lv_iload hx hb d_M_compare_33 (lv_at hl 0 rfl) ?_
        refine va_lald hx hb hK hP 5 0 rfl rfl (by exact (ld_step (N := 6) (by decide) hinv h26).2.1) d_M_compare_35 ?_
        refine lv_aload_n hx hb d_M_compare_36 rfl (lv_at hl 1 rfl) ?_
        refine va_get (D := (dC, dI)) (ci := 2) (v := .ref ase) (C := R_M) (T := F_M) (N := 11) hx hb hts in_M hown hK hP 0 rfl rfl 10 (by decide) (hts _ tw_289) (fun _ h9 => h9) rfl d_M_compare_37 ?_
        refine lv_iload hx hb d_M_compare_40 (lv_at hl 0 rfl) ?_
        refine va_lald hx hb hK hP 6 0 rfl rfl (by exact (ld_step (N := 6) (by decide) hinv h26).2.1) d_M_compare_42 ?_
        refine W.lcmp hx hb d_M_compare_43 ?_
        refine lv_if_eq (tgt := 71) hx hb d_M_compare_44 rfl (fun h44 => ?_) (fun h44 => ?_)
        · rw [if_pos h44] at hres
          refine lv_iinc (k := 0) (v := k + (-1)) (lv' := [(7, .int (k + (-1))), (0, .ref h0)]) hx hb d_M_compare_71 hl rfl rfl (by decide) rfl (fun ls hl => ?_)
          refine lv_goto (tgt := 24) hx hb d_M_compare_74 rfl ?_
          exact ih (k + (-1)) (by exact (ld_step (N := 6) (by decide) hinv h26).1) (by have h9 := (ld_step (N := 6) (by decide) hinv h26).2.2; omega) hres ls _ _ (lv_sub hl [0, 1] rfl) hP hD hS
        · rw [if_neg h44] at hres
          refine lv_aload_n hx hb d_M_compare_47 rfl (lv_at hl 1 rfl) ?_
          refine va_get (D := (dC, dI)) (ci := 2) (v := .ref afi) (C := R_M) (T := F_M) (N := 11) hx hb hts in_M hown hK hP 0 rfl rfl 9 (by decide) (hts _ tw_288) (fun _ h9 => h9) rfl d_M_compare_48 ?_
          refine lv_iload hx hb d_M_compare_51 (lv_at hl 0 rfl) ?_
          refine va_lald hx hb hK hP 5 0 rfl rfl (by exact (ld_step (N := 6) (by decide) hinv h26).2.1) d_M_compare_53 ?_
          refine lv_aload_n hx hb d_M_compare_54 rfl (lv_at hl 1 rfl) ?_
          refine va_get (D := (dC, dI)) (ci := 2) (v := .ref ase) (C := R_M) (T := F_M) (N := 11) hx hb hts in_M hown hK hP 0 rfl rfl 10 (by decide) (hts _ tw_289) (fun _ h9 => h9) rfl d_M_compare_55 ?_
          refine lv_iload hx hb d_M_compare_58 (lv_at hl 0 rfl) ?_
          refine va_lald hx hb hK hP 6 0 rfl rfl (by exact (ld_step (N := 6) (by decide) hinv h26).2.1) d_M_compare_60 ?_
          refine W.lcmp hx hb d_M_compare_61 ?_
          refine lv_if_ge (tgt := 69) hx hb d_M_compare_62 rfl (fun h62 => ?_) (fun h62 => ?_)
          · rw [if_pos h62] at hres
            refine lv_iconst (v := 1) hx hb d_M_compare_69 (by decide) ?_
            rw [hQ]
            subst hres
            exact W.iret (v := 1) hx hb hr (fun t ht hW => ⟨⟨_, (), rfl, rfl, ⟨by rw [ht]; exact hP, va_K.moved hW.alike hK, hD⟩⟩, hS.F ht⟩) hS.2.2 d_M_compare_70
          · rw [if_neg h62] at hres
            refine lv_iconst (v := (-1)) hx hb d_M_compare_65 (by decide) ?_
            refine lv_goto (tgt := 70) hx hb d_M_compare_66 rfl ?_
            rw [hQ]
            subst hres
            exact W.iret (v := (-1)) hx hb hr (fun t ht hW => ⟨⟨_, (), rfl, rfl, ⟨by rw [ht]; exact hP, va_K.moved hW.alike hK, hD⟩⟩, hS.F ht⟩) hS.2.2 d_M_compare_70
  exact L24 7 5 (by exact Or.inr ⟨5, by decide, rfl⟩) (by decide) hres ls _ _ (lv_sub hl [0, 1] rfl) hP hD hS
def km_thr_L26 (fi : Nat → Int64) (se : Nat → Int64) (a : Int64) (b : Int64) (c0 : Int64) : Nat → (Int32) → Int32 × (Nat → Int64) × (Nat → Int64)
  | 0, _ => (0, fun _ => 0, fun _ => 0)
  | n+1, k => (if 6 ≤ k then (1, (km_prod fi b b 1), (km_prod se a c0 4)) else (if (lg_cmp ((km_prod fi b b 1) (Int32.toNatClampNeg k)) ((km_prod se a c0 4) (Int32.toNatClampNeg k))) = 0 then ((km_thr_L26 fi se a b c0 n) (k + 1)) else (0, (km_prod fi b b 1), (km_prod se a c0 4))))
def km_thr (fi : Nat → Int64) (se : Nat → Int64) (a : Int64) (b : Int64) (c0 : Int64) : Int32 × (Nat → Int64) × (Nat → Int64) := (km_thr_L26 fi se a b c0 7 0)
set_option maxHeartbeats 4000000 in
set_option maxRecDepth 100000 in
theorem c_km_thr (l : Launch) (dC : Nat → ClassId) (dI : Nat → Nat → Nat) (h0 : Nat) (apx : Nat) (apy : Nat) (aon : Nat) (aen : Nat) (afi : Nat) (ase : Nat) (cJ : ClassId) (cZ : ClassId) (cI : ClassId) (wd : Int32) (cn : Int32) (pn : Int32) (tc : Int32) (tn : Int32) (px : Nat → Int64) (py : Nat → Int64) (on : Nat → Int32) (en : Nat → Int32) (fi : Nat → Int64) (se : Nat → Int64) (a : Int64) (b : Int64) (c0 : Int64)  : mc_i l y_M_through w_M_through { frames := 2, cells := 0, slots := 0, locals := 66 } (dC, dI) cls9 [(h0, .inr (2, [.int wd, .ref apx, .ref apy, .ref aon, .ref aen, .int cn, .int pn, .int tc, .int tn, .ref afi, .ref ase])), (apx, .inl (cJ, 256, .inr (.inl px))), (apy, .inl (cJ, 256, .inr (.inl py))), (aon, .inl (cZ, 256, .inl on)), (aen, .inl (cI, 256, .inl en)), (afi, .inl (cJ, 6, .inr (.inl fi))), (ase, .inl (cJ, 6, .inr (.inl se)))] [(h0, .inr (2, [.int wd, .ref apx, .ref apy, .ref aon, .ref aen, .int cn, .int pn, .int tc, .int tn, .ref afi, .ref ase])), (apx, .inl (cJ, 256, .inr (.inl px))), (apy, .inl (cJ, 256, .inr (.inl py))), (aon, .inl (cZ, 256, .inl on)), (aen, .inl (cI, 256, .inl en)), (afi, .inl (cJ, 6, .inr (.inl ((km_thr fi se a b c0).2.1)))), (ase, .inl (cJ, 6, .inr (.inl ((km_thr fi se a b c0).2.2))))] [(cJ, .long), (cZ, .boolean), (cI, .int)] [.ref h0, .long a, .long b, .long c0] ((km_thr fi se a b c0).1) := by
  intro sz
  refine Met.ofW (cc := b_M_through) (maxL := 8) (ret := (some .boolean)) (by decide) rfl ?_
  intro p e s m args below meth c s₁ B hml hv
  obtain ⟨hargs, hsz, hP, hK, hD0⟩ := hv
  have hx := B.exec
  have hb := B.bytes
  have hr := B.returns
  have hts : ∀ w ∈ lw_w, w.before args s = true := fun w h => atoms_spec (ws := w_M_through) B.pre w (List.mem_cons_of_mem _ h)
  have hown : s.vm.findClass R_M = some m.cls := findClass_of_methodNamed B.named
  have hlocks := B.notSynchronized
  subst hsz
  have hD := hD0.self (sz := s.heap.size)
  generalize hR : (headSpec w_M_through { frames := 2, cells := 0, slots := 0, locals := 66 }).room = R
  generalize hAe : va_A [(h0, .inr (2, [.int wd, .ref apx, .ref apy, .ref aon, .ref aen, .int cn, .int pn, .int tc, .int tn, .ref afi, .ref ase])), (apx, .inl (cJ, 256, .inr (.inl px))), (apy, .inl (cJ, 256, .inr (.inl py))), (aon, .inl (cZ, 256, .inl on)), (aen, .inl (cI, 256, .inl en)), (afi, .inl (cJ, 6, .inr (.inl fi))), (ase, .inl (cJ, 6, .inr (.inl se)))] s.heap.size = A at hD ⊢
  have hA : ∀ q : Nat, s.heap.size ≤ q → A q := fun q h => by rw [← hAe]; exact Or.inr h
  have hS : va_S A s.heap s.heap [] := va_S.rf
  generalize hRES : km_thr fi se a b c0 = RES
  have hres := hRES
  have hl := lv_entry [.ref h0, .long a, .long b, .long c0] (n := 8) (Nat.le_of_ble_eq_true rfl)
  have hent : entryFrame m args 8 = F0 m 0 (lg_sl [.ref h0, .long a, .long b, .long c0] ++ List.replicate (8 - (lg_sl [.ref h0, .long a, .long b, .long c0]).length) Slot.unset).toArray [] := by rw [hargs]; exact lg_entry_eq m [.ref h0, .long a, .long b, .long c0] 8
  rw [hent]
  clear hent
  generalize (lg_sl [.ref h0, .long a, .long b, .long c0] ++ List.replicate (8 - (lg_sl [.ref h0, .long a, .long b, .long c0]).length) Slot.unset).toArray = ls at hl ⊢
  have hl : lv_has ls 8 [(0, .ref h0), (1, .long a), (3, .long b), (5, .long c0)] := hl
  have hP : va_P (dC, dI) cls9 [(h0, .inr (2, [.int wd, .ref apx, .ref apy, .ref aon, .ref aen, .int cn, .int pn, .int tc, .int tn, .ref afi, .ref ase])), (apx, .inl (cJ, 256, .inr (.inl px))), (apy, .inl (cJ, 256, .inr (.inl py))), (aon, .inl (cZ, 256, .inl on)), (aen, .inl (cI, 256, .inl en)), (afi, .inl (cJ, 6, .inr (.inl fi))), (ase, .inl (cJ, 6, .inr (.inl se)))] s.heap := hP
  have hD : va_D A [(h0, .inr (2, [.int wd, .ref apx, .ref apy, .ref aon, .ref aen, .int cn, .int pn, .int tc, .int tn, .ref afi, .ref ase])), (apx, .inl (cJ, 256, .inr (.inl px))), (apy, .inl (cJ, 256, .inr (.inl py))), (aon, .inl (cZ, 256, .inl on)), (aen, .inl (cI, 256, .inl en)), (afi, .inl (cJ, 6, .inr (.inl fi))), (ase, .inl (cJ, 6, .inr (.inl se)))] := hD
  clear hD0 hRES hAe
  unfold km_thr at hres
  generalize hQ : MQ below (va_Qi (fun x (_ : Unit) => x = RES.1) (fun _ t => va_P (dC, dI) cls9 [(h0, .inr (2, [.int wd, .ref apx, .ref apy, .ref aon, .ref aen, .int cn, .int pn, .int tc, .int tn, .ref afi, .ref ase])), (apx, .inl (cJ, 256, .inr (.inl px))), (apy, .inl (cJ, 256, .inr (.inl py))), (aon, .inl (cZ, 256, .inl on)), (aen, .inl (cI, 256, .inl en)), (afi, .inl (cJ, 6, .inr (.inl RES.2.1))), (ase, .inl (cJ, 6, .inr (.inl RES.2.2)))] t.heap ∧ va_K (dC, dI) cls9 [(cJ, .long), (cZ, .boolean), (cI, .int)] t ∧ va_D A [(h0, .inr (2, [.int wd, .ref apx, .ref apy, .ref aon, .ref aen, .int cn, .int pn, .int tc, .int tn, .ref afi, .ref ase])), (apx, .inl (cJ, 256, .inr (.inl px))), (apy, .inl (cJ, 256, .inr (.inl py))), (aon, .inl (cZ, 256, .inl on)), (aen, .inl (cI, 256, .inl en)), (afi, .inl (cJ, 6, .inr (.inl RES.2.1))), (ase, .inl (cJ, 6, .inr (.inl RES.2.2)))]) A) args s 0 0 A = Q
  replace hQ := hQ.symm
  refine lv_aload_n hx hb d_M_through_0 rfl (lv_at hl 0 rfl) ?_
  refine va_get (D := (dC, dI)) (ci := 2) (v := .ref afi) (C := R_M) (T := F_M) (N := 11) hx hb hts in_M hown hK hP 0 rfl rfl 9 (by decide) (hts _ tw_288) (fun _ h9 => h9) rfl d_M_through_1 ?_
  refine lv_lload_n hx hb d_M_through_4 rfl (lv_at hl 2 rfl) ?_
  refine lv_lload_n hx hb d_M_through_5 rfl (lv_at hl 2 rfl) ?_
  refine lv_lconst (v := 1) hx hb d_M_through_6 (by decide) ?_
  refine cm_v (wc := [(afi, .inl (cJ, 6, .inr (.inl fi)))]) (wr := [(h0, .inr (2, [.int wd, .ref apx, .ref apy, .ref aon, .ref aen, .int cn, .int pn, .int tc, .int tn, .ref afi, .ref ase])), (apx, .inl (cJ, 256, .inr (.inl px))), (apy, .inl (cJ, 256, .inr (.inl py))), (aon, .inl (cZ, 256, .inl on)), (aen, .inl (cI, 256, .inl en)), (ase, .inl (cJ, 6, .inr (.inl se)))]) (W1 := [(afi, .inl (cJ, 6, .inr (.inl (km_prod fi b b 1))))]) (w2 := [(h0, .inr (2, [.int wd, .ref apx, .ref apy, .ref aon, .ref aen, .int cn, .int pn, .int tc, .int tn, .ref afi, .ref ase])), (apx, .inl (cJ, 256, .inr (.inl px))), (apy, .inl (cJ, 256, .inr (.inl py))), (aon, .inl (cZ, 256, .inl on)), (aen, .inl (cI, 256, .inl en)), (afi, .inl (cJ, 6, .inr (.inl (km_prod fi b b 1)))), (ase, .inl (cJ, 6, .inr (.inl se)))]) (va_runS (g := F0 m 7 ls [.long 1, .long b, .long b, .ref afi]) (As := [.ref afi, .long b, .long b, .long 1]) (rest := []) ⟨hx, hb, hml, hown, hts⟩ (c_km_prod l dC dI afi cJ fi b b 1  _) (va_cwS 4 hts (gi_S tw_368 tw_369 tw_6 tw_370) rfl rfl rfl (by decide +kernel) ⟨(by rw [← hR]; exact Nat.le_of_ble_eq_true rfl), (by rw [← hR]; exact Nat.le_of_ble_eq_true rfl)⟩) ⟨mc_blind, mc_pre (hP.sub [5] rfl) (hK.sub [0] rfl) (hD.sub [5] (by decide) rfl)⟩ rfl rfl hl.1 rfl (lv_room (Nat.le_of_ble_eq_true rfl)) d_M_through_7 ⟨Nat.zero_le _, Nat.zero_le _⟩) hP hD hS hA [5] [0, 1, 2, 3, 4, 6] [0, 1, 2, 3, 4, 6, 5] rfl rfl (by decide) (by decide) rfl rfl (by decide) (fun H locs hP hD hS => ?_)
  refine lv_aload_n hx hb d_M_through_10 rfl (lv_at hl 0 rfl) ?_
  refine va_get (D := (dC, dI)) (ci := 2) (v := .ref ase) (C := R_M) (T := F_M) (N := 11) hx hb hts in_M hown hK hP 0 rfl rfl 10 (by decide) (hts _ tw_289) (fun _ h9 => h9) rfl d_M_through_11 ?_
  refine lv_lload_n hx hb d_M_through_14 rfl (lv_at hl 1 rfl) ?_
  refine lv_lload hx hb d_M_through_15 (lv_at hl 3 rfl) ?_
  refine lv_ldc2 (v := 4) hx hb hown (hts _ tw_375) d_M_through_17 ?_
  refine cm_v (wc := [(ase, .inl (cJ, 6, .inr (.inl se)))]) (wr := [(h0, .inr (2, [.int wd, .ref apx, .ref apy, .ref aon, .ref aen, .int cn, .int pn, .int tc, .int tn, .ref afi, .ref ase])), (apx, .inl (cJ, 256, .inr (.inl px))), (apy, .inl (cJ, 256, .inr (.inl py))), (aon, .inl (cZ, 256, .inl on)), (aen, .inl (cI, 256, .inl en)), (afi, .inl (cJ, 6, .inr (.inl (km_prod fi b b 1))))]) (W1 := [(ase, .inl (cJ, 6, .inr (.inl (km_prod se a c0 4))))]) (w2 := [(h0, .inr (2, [.int wd, .ref apx, .ref apy, .ref aon, .ref aen, .int cn, .int pn, .int tc, .int tn, .ref afi, .ref ase])), (apx, .inl (cJ, 256, .inr (.inl px))), (apy, .inl (cJ, 256, .inr (.inl py))), (aon, .inl (cZ, 256, .inl on)), (aen, .inl (cI, 256, .inl en)), (afi, .inl (cJ, 6, .inr (.inl (km_prod fi b b 1)))), (ase, .inl (cJ, 6, .inr (.inl (km_prod se a c0 4))))]) (va_runS (g := F0 m 20 ls [.long 4, .long c0, .long a, .ref ase]) (As := [.ref ase, .long a, .long c0, .long 4]) (rest := []) ⟨hx, hb, hml, hown, hts⟩ (c_km_prod l dC dI ase cJ se a c0 4  _) (va_cwS 4 hts (gi_S tw_368 tw_369 tw_6 tw_370) rfl rfl rfl (by decide +kernel) ⟨(by rw [← hR]; exact Nat.le_of_ble_eq_true rfl), (by rw [← hR]; exact Nat.le_of_ble_eq_true rfl)⟩) ⟨mc_blind, mc_pre (hP.sub [6] rfl) (hK.sub [0] rfl) (hD.sub [6] (by decide) rfl)⟩ rfl rfl hl.1 rfl (lv_room (Nat.le_of_ble_eq_true rfl)) d_M_through_20 ⟨Nat.zero_le _, Nat.zero_le _⟩) hP hD hS hA [6] [0, 1, 2, 3, 4, 5] [0, 1, 2, 3, 4, 5, 6] rfl rfl (by decide) (by decide) rfl rfl (by decide) (fun H locs hP hD hS => ?_)
  refine lv_iconst (v := 0) hx hb d_M_through_23 (by decide) ?_
  refine lv_istore (lv' := [(7, .int 0), (0, .ref h0), (1, .long a), (3, .long b), (5, .long c0)]) hx hb d_M_through_24 hl (by decide) rfl (fun ls hl => ?_)
  have L26 : ∀ (n : Nat) (k : Int32), (lu 6 k) → 6 - k.toNatClampNeg < n → km_thr_L26 fi se a b c0 n k = RES → ∀ (ls : Array Slot) (H : Heap) (locs : List Loc), lv_has ls 8 [(7, .int k), (0, .ref h0)] → va_P (dC, dI) cls9 [(h0, .inr (2, [.int wd, .ref apx, .ref apy, .ref aon, .ref aen, .int cn, .int pn, .int tc, .int tn, .ref afi, .ref ase])), (apx, .inl (cJ, 256, .inr (.inl px))), (apy, .inl (cJ, 256, .inr (.inl py))), (aon, .inl (cZ, 256, .inl on)), (aen, .inl (cI, 256, .inl en)), (afi, .inl (cJ, 6, .inr (.inl (km_prod fi b b 1)))), (ase, .inl (cJ, 6, .inr (.inl (km_prod se a c0 4))))] H → va_D A [(h0, .inr (2, [.int wd, .ref apx, .ref apy, .ref aon, .ref aen, .int cn, .int pn, .int tc, .int tn, .ref afi, .ref ase])), (apx, .inl (cJ, 256, .inr (.inl px))), (apy, .inl (cJ, 256, .inr (.inl py))), (aon, .inl (cZ, 256, .inl on)), (aen, .inl (cI, 256, .inl en)), (afi, .inl (cJ, 6, .inr (.inl (km_prod fi b b 1)))), (ase, .inl (cJ, 6, .inr (.inl (km_prod se a c0 4))))] → va_S A s.heap H locs → W p l e R s m args below meth c H locs 0 0 Q (F0 m 26 ls []) := by
    intro n
    induction n with
    | zero => intro k hinv hmu; exact absurd hmu (Nat.not_lt_zero _)
    | succ n ih =>
      intro k hinv hmu hres ls H locs hl hP hD hS
      rw [km_thr_L26] at hres
      refine lv_iload hx hb d_M_through_26 (lv_at hl 0 rfl) ?_
      refine lv_bipush (v := 6) hx hb d_M_through_28 (by decide) ?_
      refine lv_icmp_ge (tgt := 59) hx hb d_M_through_30 rfl (fun h30 => ?_) (fun h30 => ?_)
      · rw [if_pos h30] at hres
        refine lv_iconst (v := 1) hx hb d_M_through_59 (by decide) ?_
        rw [hQ]
        subst hres
        exact W.zret (v := 1) hx hb hr (by first | rfl | decide) (fun t ht hW => ⟨⟨_, (), rfl, rfl, ⟨by rw [ht]; exact hP, va_K.moved hW.alike hK, hD⟩⟩, hS.F ht⟩) hS.2.2 d_M_through_60
      · rw [if_neg h30] at hres
        refine lv_aload_n hx hb d_M_through_33 rfl (lv_at hl 1 rfl) ?_
        refine va_get (D := (dC, dI)) (ci := 2) (v := .ref afi) (C := R_M) (T := F_M) (N := 11) hx hb hts in_M hown hK hP 0 rfl rfl 9 (by decide) (hts _ tw_288) (fun _ h9 => h9) rfl d_M_through_34 ?_
        refine lv_iload hx hb d_M_through_37 (lv_at hl 0 rfl) ?_
        refine va_lald hx hb hK hP 5 0 rfl rfl (by exact (lu_step (N := 6) (by decide) hinv h30).2.1) d_M_through_39 ?_
        refine lv_aload_n hx hb d_M_through_40 rfl (lv_at hl 1 rfl) ?_
        refine va_get (D := (dC, dI)) (ci := 2) (v := .ref ase) (C := R_M) (T := F_M) (N := 11) hx hb hts in_M hown hK hP 0 rfl rfl 10 (by decide) (hts _ tw_289) (fun _ h9 => h9) rfl d_M_through_41 ?_
        refine lv_iload hx hb d_M_through_44 (lv_at hl 0 rfl) ?_
        refine va_lald hx hb hK hP 6 0 rfl rfl (by exact (lu_step (N := 6) (by decide) hinv h30).2.1) d_M_through_46 ?_
        refine W.lcmp hx hb d_M_through_47 ?_
        refine lv_if_eq (tgt := 53) hx hb d_M_through_48 rfl (fun h48 => ?_) (fun h48 => ?_)
        · rw [if_pos h48] at hres
          refine lv_iinc (k := 0) (v := k + 1) (lv' := [(7, .int (k + 1)), (0, .ref h0)]) hx hb d_M_through_53 hl rfl rfl (by decide) rfl (fun ls hl => ?_)
          refine lv_goto (tgt := 26) hx hb d_M_through_56 rfl ?_
          exact ih (k + 1) (by exact (lu_step (N := 6) (by decide) hinv h30).1) (by have h9 := (lu_step (N := 6) (by decide) hinv h30).2.2; omega) hres ls _ _ (lv_sub hl [0, 1] rfl) hP hD hS
        · rw [if_neg h48] at hres
          refine lv_iconst (v := 0) hx hb d_M_through_51 (by decide) ?_
          rw [hQ]
          subst hres
          exact W.zret (v := 0) hx hb hr (by first | rfl | decide) (fun t ht hW => ⟨⟨_, (), rfl, rfl, ⟨by rw [ht]; exact hP, va_K.moved hW.alike hK, hD⟩⟩, hS.F ht⟩) hS.2.2 d_M_through_52
  exact L26 7 0 (by exact lu_0 _) (by decide) hres ls _ _ (lv_sub hl [0, 1] rfl) hP hD hS
def km_so_k76 (a : Int64) (t21_0 : Int32) (x73 : Int32 × (Nat → Int64) × (Nat → Int64)) : Int32 × (Nat → Int64) × (Nat → Int64) := (if x73.1 = 0 then (0, x73.2.1, x73.2.2) else (if x73.1 ≤ 0 then (t21_0, x73.2.1, x73.2.2) else (km_sign a, x73.2.1, x73.2.2)))
def km_so_j71 (fi : Nat → Int64) (se : Nat → Int64) (a : Int64) (c0 : Int64) (t21_0 : Int32) (t59_0 : Int64) (t71_0 : Int64) : Int32 × (Nat → Int64) × (Nat → Int64) := (km_so_k76 a t21_0 (km_cmp fi se t59_0 t71_0 c0))
def km_so_j59 (fi : Nat → Int64) (se : Nat → Int64) (a : Int64) (b : Int64) (c0 : Int64) (t21_0 : Int32) (t59_0 : Int64) : Int32 × (Nat → Int64) × (Nat → Int64) := (if 0 ≤ (lg_cmp b 0) then (km_so_j71 fi se a c0 t21_0 t59_0 b) else (km_so_j71 fi se a c0 t21_0 t59_0 (-b)))
def km_so_j21 (fi : Nat → Int64) (se : Nat → Int64) (a : Int64) (b : Int64) (c0 : Int64) (t21_0 : Int32) : Int32 × (Nat → Int64) × (Nat → Int64) := (if (km_sign a) = t21_0 then (km_sign a, fi, se) else (if t21_0 = 0 then (km_sign a, fi, se) else (if (km_sign a) = 0 then (t21_0, fi, se) else (if 0 ≤ (lg_cmp a 0) then (km_so_j59 fi se a b c0 t21_0 a) else (km_so_j59 fi se a b c0 t21_0 (-a))))))
def km_so (fi : Nat → Int64) (se : Nat → Int64) (a : Int64) (b : Int64) (c0 : Int64) : Int32 × (Nat → Int64) × (Nat → Int64) := (if (lg_cmp c0 0) = 0 then (km_so_j21 fi se a b c0 0) else (km_so_j21 fi se a b c0 (km_sign b)))
set_option maxHeartbeats 4000000 in
set_option maxRecDepth 100000 in
theorem c_km_so (l : Launch) (dC : Nat → ClassId) (dI : Nat → Nat → Nat) (h0 : Nat) (apx : Nat) (apy : Nat) (aon : Nat) (aen : Nat) (afi : Nat) (ase : Nat) (cJ : ClassId) (cZ : ClassId) (cI : ClassId) (wd : Int32) (cn : Int32) (pn : Int32) (tc : Int32) (tn : Int32) (px : Nat → Int64) (py : Nat → Int64) (on : Nat → Int32) (en : Nat → Int32) (fi : Nat → Int64) (se : Nat → Int64) (a : Int64) (b : Int64) (c0 : Int64)  : mc_i l y_M_signOf w_M_signOf { frames := 3, cells := 0, slots := 0, locals := 93 } (dC, dI) cls9 [(h0, .inr (2, [.int wd, .ref apx, .ref apy, .ref aon, .ref aen, .int cn, .int pn, .int tc, .int tn, .ref afi, .ref ase])), (apx, .inl (cJ, 256, .inr (.inl px))), (apy, .inl (cJ, 256, .inr (.inl py))), (aon, .inl (cZ, 256, .inl on)), (aen, .inl (cI, 256, .inl en)), (afi, .inl (cJ, 6, .inr (.inl fi))), (ase, .inl (cJ, 6, .inr (.inl se)))] [(h0, .inr (2, [.int wd, .ref apx, .ref apy, .ref aon, .ref aen, .int cn, .int pn, .int tc, .int tn, .ref afi, .ref ase])), (apx, .inl (cJ, 256, .inr (.inl px))), (apy, .inl (cJ, 256, .inr (.inl py))), (aon, .inl (cZ, 256, .inl on)), (aen, .inl (cI, 256, .inl en)), (afi, .inl (cJ, 6, .inr (.inl ((km_so fi se a b c0).2.1)))), (ase, .inl (cJ, 6, .inr (.inl ((km_so fi se a b c0).2.2))))] [(cJ, .long), (cZ, .boolean), (cI, .int)] [.ref h0, .long a, .long b, .long c0] ((km_so fi se a b c0).1) := by
  intro sz
  refine Met.ofW (cc := b_M_signOf) (maxL := 10) (ret := (some .int)) (by decide) rfl ?_
  intro p e s m args below meth c s₁ B hml hv
  obtain ⟨hargs, hsz, hP, hK, hD0⟩ := hv
  have hx := B.exec
  have hb := B.bytes
  have hr := B.returns
  have hts : ∀ w ∈ lw_w, w.before args s = true := fun w h => atoms_spec (ws := w_M_signOf) B.pre w (List.mem_cons_of_mem _ h)
  have hown : s.vm.findClass R_M = some m.cls := findClass_of_methodNamed B.named
  have hlocks := B.notSynchronized
  subst hsz
  have hD := hD0.self (sz := s.heap.size)
  generalize hR : (headSpec w_M_signOf { frames := 3, cells := 0, slots := 0, locals := 93 }).room = R
  generalize hAe : va_A [(h0, .inr (2, [.int wd, .ref apx, .ref apy, .ref aon, .ref aen, .int cn, .int pn, .int tc, .int tn, .ref afi, .ref ase])), (apx, .inl (cJ, 256, .inr (.inl px))), (apy, .inl (cJ, 256, .inr (.inl py))), (aon, .inl (cZ, 256, .inl on)), (aen, .inl (cI, 256, .inl en)), (afi, .inl (cJ, 6, .inr (.inl fi))), (ase, .inl (cJ, 6, .inr (.inl se)))] s.heap.size = A at hD ⊢
  have hA : ∀ q : Nat, s.heap.size ≤ q → A q := fun q h => by rw [← hAe]; exact Or.inr h
  have hS : va_S A s.heap s.heap [] := va_S.rf
  generalize hRES : km_so fi se a b c0 = RES
  have hres := hRES
  have hl := lv_entry [.ref h0, .long a, .long b, .long c0] (n := 10) (Nat.le_of_ble_eq_true rfl)
  have hent : entryFrame m args 10 = F0 m 0 (lg_sl [.ref h0, .long a, .long b, .long c0] ++ List.replicate (10 - (lg_sl [.ref h0, .long a, .long b, .long c0]).length) Slot.unset).toArray [] := by rw [hargs]; exact lg_entry_eq m [.ref h0, .long a, .long b, .long c0] 10
  rw [hent]
  clear hent
  generalize (lg_sl [.ref h0, .long a, .long b, .long c0] ++ List.replicate (10 - (lg_sl [.ref h0, .long a, .long b, .long c0]).length) Slot.unset).toArray = ls at hl ⊢
  have hl : lv_has ls 10 [(0, .ref h0), (1, .long a), (3, .long b), (5, .long c0)] := hl
  have hP : va_P (dC, dI) cls9 [(h0, .inr (2, [.int wd, .ref apx, .ref apy, .ref aon, .ref aen, .int cn, .int pn, .int tc, .int tn, .ref afi, .ref ase])), (apx, .inl (cJ, 256, .inr (.inl px))), (apy, .inl (cJ, 256, .inr (.inl py))), (aon, .inl (cZ, 256, .inl on)), (aen, .inl (cI, 256, .inl en)), (afi, .inl (cJ, 6, .inr (.inl fi))), (ase, .inl (cJ, 6, .inr (.inl se)))] s.heap := hP
  have hD : va_D A [(h0, .inr (2, [.int wd, .ref apx, .ref apy, .ref aon, .ref aen, .int cn, .int pn, .int tc, .int tn, .ref afi, .ref ase])), (apx, .inl (cJ, 256, .inr (.inl px))), (apy, .inl (cJ, 256, .inr (.inl py))), (aon, .inl (cZ, 256, .inl on)), (aen, .inl (cI, 256, .inl en)), (afi, .inl (cJ, 6, .inr (.inl fi))), (ase, .inl (cJ, 6, .inr (.inl se)))] := hD
  clear hD0 hRES hAe
  unfold km_so at hres
  generalize hQ : MQ below (va_Qi (fun x (_ : Unit) => x = RES.1) (fun _ t => va_P (dC, dI) cls9 [(h0, .inr (2, [.int wd, .ref apx, .ref apy, .ref aon, .ref aen, .int cn, .int pn, .int tc, .int tn, .ref afi, .ref ase])), (apx, .inl (cJ, 256, .inr (.inl px))), (apy, .inl (cJ, 256, .inr (.inl py))), (aon, .inl (cZ, 256, .inl on)), (aen, .inl (cI, 256, .inl en)), (afi, .inl (cJ, 6, .inr (.inl RES.2.1))), (ase, .inl (cJ, 6, .inr (.inl RES.2.2)))] t.heap ∧ va_K (dC, dI) cls9 [(cJ, .long), (cZ, .boolean), (cI, .int)] t ∧ va_D A [(h0, .inr (2, [.int wd, .ref apx, .ref apy, .ref aon, .ref aen, .int cn, .int pn, .int tc, .int tn, .ref afi, .ref ase])), (apx, .inl (cJ, 256, .inr (.inl px))), (apy, .inl (cJ, 256, .inr (.inl py))), (aon, .inl (cZ, 256, .inl on)), (aen, .inl (cI, 256, .inl en)), (afi, .inl (cJ, 6, .inr (.inl RES.2.1))), (ase, .inl (cJ, 6, .inr (.inl RES.2.2)))]) A) args s 0 0 A = Q
  replace hQ := hQ.symm
  refine lv_lload_n hx hb d_M_signOf_0 rfl (lv_at hl 1 rfl) ?_
  refine cq_Si (As := [.long a]) (rest := []) ⟨hx, hb, hml, hown, hts⟩ (c_km_sign l dC dI a) (va_cwS 1 hts (gi_S tw_350 tw_351 tw_6 tw_352) rfl rfl rfl (by decide +kernel) ⟨(by rw [← hR]; exact Nat.le_of_ble_eq_true rfl), (by rw [← hR]; exact Nat.le_of_ble_eq_true rfl)⟩) rfl rfl hl.1 (Nat.le_of_ble_eq_true rfl) d_M_signOf_1 ⟨Nat.zero_le _, Nat.zero_le _⟩ hP hS hA (fun H locs hP hS => ?_)
  refine lv_istore (lv' := [(7, .int (km_sign a)), (0, .ref h0), (1, .long a), (3, .long b), (5, .long c0)]) hx hb d_M_signOf_4 hl (by decide) rfl (fun ls hl => ?_)
  refine lv_lload hx hb d_M_signOf_6 (lv_at hl 4 rfl) ?_
  refine lv_lconst (v := 0) hx hb d_M_signOf_8 (by decide) ?_
  refine W.lcmp hx hb d_M_signOf_9 ?_
  have J21 : ∀ (t21_0 : Int32), km_so_j21 fi se a b c0 t21_0 = RES → ∀ (ls : Array Slot) (H : Heap) (locs : List Loc), lv_has ls 10 [(7, .int (km_sign a)), (0, .ref h0), (1, .long a), (3, .long b), (5, .long c0)] → va_P (dC, dI) cls9 [(h0, .inr (2, [.int wd, .ref apx, .ref apy, .ref aon, .ref aen, .int cn, .int pn, .int tc, .int tn, .ref afi, .ref ase])), (apx, .inl (cJ, 256, .inr (.inl px))), (apy, .inl (cJ, 256, .inr (.inl py))), (aon, .inl (cZ, 256, .inl on)), (aen, .inl (cI, 256, .inl en)), (afi, .inl (cJ, 6, .inr (.inl fi))), (ase, .inl (cJ, 6, .inr (.inl se)))] H → va_D A [(h0, .inr (2, [.int wd, .ref apx, .ref apy, .ref aon, .ref aen, .int cn, .int pn, .int tc, .int tn, .ref afi, .ref ase])), (apx, .inl (cJ, 256, .inr (.inl px))), (apy, .inl (cJ, 256, .inr (.inl py))), (aon, .inl (cZ, 256, .inl on)), (aen, .inl (cI, 256, .inl en)), (afi, .inl (cJ, 6, .inr (.inl fi))), (ase, .inl (cJ, 6, .inr (.inl se)))] → va_S A s.heap H locs → W p l e R s m args below meth c H locs 0 0 Q (F0 m 21 ls [.int t21_0]) := by
    intro t21_0 hres ls H locs hl hP hD hS
    unfold km_so_j21 at hres
    refine lv_istore (lv' := [(8, .int t21_0), (7, .int (km_sign a)), (0, .ref h0), (1, .long a), (3, .long b), (5, .long c0)]) hx hb d_M_signOf_21 hl (by decide) rfl (fun ls hl => ?_)
    refine lv_iload hx hb d_M_signOf_23 (lv_at hl 1 rfl) ?_
    refine lv_iload hx hb d_M_signOf_25 (lv_at hl 0 rfl) ?_
    refine lv_icmp_eq (tgt := 35) hx hb d_M_signOf_27 rfl (fun h27 => ?_) (fun h27 => ?_)
    · rw [if_pos h27] at hres
      refine lv_iload hx hb d_M_signOf_35 (lv_at hl 1 rfl) ?_
      rw [hQ]
      subst hres
      exact W.iret (v := km_sign a) hx hb hr (fun t ht hW => ⟨⟨_, (), rfl, rfl, ⟨by rw [ht]; exact hP, va_K.moved hW.alike hK, hD⟩⟩, hS.F ht⟩) hS.2.2 d_M_signOf_37
    · rw [if_neg h27] at hres
      refine lv_iload hx hb d_M_signOf_30 (lv_at hl 0 rfl) ?_
      refine lv_if_ne (tgt := 38) hx hb d_M_signOf_32 rfl (fun h32 => ?_) (fun h32 => ?_)
      · rw [if_neg h32] at hres
        refine lv_iload hx hb d_M_signOf_38 (lv_at hl 1 rfl) ?_
        refine lv_if_ne (tgt := 46) hx hb d_M_signOf_40 rfl (fun h40 => ?_) (fun h40 => ?_)
        · rw [if_neg h40] at hres
          refine lv_aload_n hx hb d_M_signOf_46 rfl (lv_at hl 2 rfl) ?_
          refine lv_lload_n hx hb d_M_signOf_47 rfl (lv_at hl 3 rfl) ?_
          refine lv_lconst (v := 0) hx hb d_M_signOf_48 (by decide) ?_
          refine W.lcmp hx hb d_M_signOf_49 ?_
          have J59 : ∀ (t59_0 : Int64), km_so_j59 fi se a b c0 t21_0 t59_0 = RES → ∀ (ls : Array Slot) (H : Heap) (locs : List Loc), lv_has ls 10 [(8, .int t21_0), (7, .int (km_sign a)), (3, .long b), (5, .long c0)] → va_P (dC, dI) cls9 [(h0, .inr (2, [.int wd, .ref apx, .ref apy, .ref aon, .ref aen, .int cn, .int pn, .int tc, .int tn, .ref afi, .ref ase])), (apx, .inl (cJ, 256, .inr (.inl px))), (apy, .inl (cJ, 256, .inr (.inl py))), (aon, .inl (cZ, 256, .inl on)), (aen, .inl (cI, 256, .inl en)), (afi, .inl (cJ, 6, .inr (.inl fi))), (ase, .inl (cJ, 6, .inr (.inl se)))] H → va_D A [(h0, .inr (2, [.int wd, .ref apx, .ref apy, .ref aon, .ref aen, .int cn, .int pn, .int tc, .int tn, .ref afi, .ref ase])), (apx, .inl (cJ, 256, .inr (.inl px))), (apy, .inl (cJ, 256, .inr (.inl py))), (aon, .inl (cZ, 256, .inl on)), (aen, .inl (cI, 256, .inl en)), (afi, .inl (cJ, 6, .inr (.inl fi))), (ase, .inl (cJ, 6, .inr (.inl se)))] → va_S A s.heap H locs → W p l e R s m args below meth c H locs 0 0 Q (F0 m 59 ls [.long t59_0, .ref h0]) := by
            intro t59_0 hres ls H locs hl hP hD hS
            unfold km_so_j59 at hres
            refine lv_lload_n hx hb d_M_signOf_59 rfl (lv_at hl 2 rfl) ?_
            refine lv_lconst (v := 0) hx hb d_M_signOf_60 (by decide) ?_
            refine W.lcmp hx hb d_M_signOf_61 ?_
            have J71 : ∀ (t71_0 : Int64), km_so_j71 fi se a c0 t21_0 t59_0 t71_0 = RES → ∀ (ls : Array Slot) (H : Heap) (locs : List Loc), lv_has ls 10 [(8, .int t21_0), (7, .int (km_sign a)), (5, .long c0)] → va_P (dC, dI) cls9 [(h0, .inr (2, [.int wd, .ref apx, .ref apy, .ref aon, .ref aen, .int cn, .int pn, .int tc, .int tn, .ref afi, .ref ase])), (apx, .inl (cJ, 256, .inr (.inl px))), (apy, .inl (cJ, 256, .inr (.inl py))), (aon, .inl (cZ, 256, .inl on)), (aen, .inl (cI, 256, .inl en)), (afi, .inl (cJ, 6, .inr (.inl fi))), (ase, .inl (cJ, 6, .inr (.inl se)))] H → va_D A [(h0, .inr (2, [.int wd, .ref apx, .ref apy, .ref aon, .ref aen, .int cn, .int pn, .int tc, .int tn, .ref afi, .ref ase])), (apx, .inl (cJ, 256, .inr (.inl px))), (apy, .inl (cJ, 256, .inr (.inl py))), (aon, .inl (cZ, 256, .inl on)), (aen, .inl (cI, 256, .inl en)), (afi, .inl (cJ, 6, .inr (.inl fi))), (ase, .inl (cJ, 6, .inr (.inl se)))] → va_S A s.heap H locs → W p l e R s m args below meth c H locs 0 0 Q (F0 m 71 ls [.long t71_0, .long t59_0, .ref h0]) := by
              intro t71_0 hres ls H locs hl hP hD hS
              unfold km_so_j71 at hres
              refine lv_lload hx hb d_M_signOf_71 (lv_at hl 2 rfl) ?_
              refine cm_i (wc := [(h0, .inr (2, [.int wd, .ref apx, .ref apy, .ref aon, .ref aen, .int cn, .int pn, .int tc, .int tn, .ref afi, .ref ase])), (apx, .inl (cJ, 256, .inr (.inl px))), (apy, .inl (cJ, 256, .inr (.inl py))), (aon, .inl (cZ, 256, .inl on)), (aen, .inl (cI, 256, .inl en)), (afi, .inl (cJ, 6, .inr (.inl fi))), (ase, .inl (cJ, 6, .inr (.inl se)))]) (wr := []) (W1 := [(h0, .inr (2, [.int wd, .ref apx, .ref apy, .ref aon, .ref aen, .int cn, .int pn, .int tc, .int tn, .ref afi, .ref ase])), (apx, .inl (cJ, 256, .inr (.inl px))), (apy, .inl (cJ, 256, .inr (.inl py))), (aon, .inl (cZ, 256, .inl on)), (aen, .inl (cI, 256, .inl en)), (afi, .inl (cJ, 6, .inr (.inl ((km_cmp fi se t59_0 t71_0 c0).2.1)))), (ase, .inl (cJ, 6, .inr (.inl ((km_cmp fi se t59_0 t71_0 c0).2.2))))]) (w2 := [(h0, .inr (2, [.int wd, .ref apx, .ref apy, .ref aon, .ref aen, .int cn, .int pn, .int tc, .int tn, .ref afi, .ref ase])), (apx, .inl (cJ, 256, .inr (.inl px))), (apy, .inl (cJ, 256, .inr (.inl py))), (aon, .inl (cZ, 256, .inl on)), (aen, .inl (cI, 256, .inl en)), (afi, .inl (cJ, 6, .inr (.inl ((km_cmp fi se t59_0 t71_0 c0).2.1)))), (ase, .inl (cJ, 6, .inr (.inl ((km_cmp fi se t59_0 t71_0 c0).2.2))))]) (va_runV (g := F0 m 73 ls [.long c0, .long t71_0, .long t59_0, .ref h0]) (As := [.long t59_0, .long t71_0, .long c0]) (rest := []) ⟨hx, hb, hml, hown, hts⟩ (c_km_cmp l dC dI h0 apx apy aon aen afi ase cJ cZ cI wd cn pn tc tn px py on en fi se t59_0 t71_0 c0  _) (cwV 3 hts (gi_V tw_384 tw_386 ts_18 tw_6 tw_387) rfl rfl rfl (by decide +kernel) ⟨(by rw [← hR]; exact Nat.le_of_ble_eq_true rfl), (by rw [← hR]; exact Nat.le_of_ble_eq_true rfl)⟩) ⟨mc_blind, va_recv (ci := 2) (q := (R_M, F_M, 11)) hK hP rfl (q0 := 0) rfl, mc_pre (hP.sub [0, 1, 2, 3, 4, 5, 6] rfl) (hK.sub [0, 1, 2] rfl) (hD.sub [0, 1, 2, 3, 4, 5, 6] (by decide) rfl)⟩ rfl rfl hl.1 rfl (lv_room (Nat.le_of_ble_eq_true rfl)) d_M_signOf_73 ⟨Nat.zero_le _, Nat.zero_le _⟩) hP hD hS hA [0, 1, 2, 3, 4, 5, 6] [] [0, 1, 2, 3, 4, 5, 6] rfl rfl (by decide) (by decide) rfl rfl (by decide) (fun H locs hP hD hS => ?_)
              have K76 : ∀ (x73 : Int32 × (Nat → Int64) × (Nat → Int64)), km_so_k76 a t21_0 x73 = RES → ∀ (ls : Array Slot) (H : Heap) (locs : List Loc), lv_has ls 10 [(8, .int t21_0), (7, .int (km_sign a)), (5, .long c0)] → va_P (dC, dI) cls9 [(h0, .inr (2, [.int wd, .ref apx, .ref apy, .ref aon, .ref aen, .int cn, .int pn, .int tc, .int tn, .ref afi, .ref ase])), (apx, .inl (cJ, 256, .inr (.inl px))), (apy, .inl (cJ, 256, .inr (.inl py))), (aon, .inl (cZ, 256, .inl on)), (aen, .inl (cI, 256, .inl en)), (afi, .inl (cJ, 6, .inr (.inl x73.2.1))), (ase, .inl (cJ, 6, .inr (.inl x73.2.2)))] H → va_D A [(h0, .inr (2, [.int wd, .ref apx, .ref apy, .ref aon, .ref aen, .int cn, .int pn, .int tc, .int tn, .ref afi, .ref ase])), (apx, .inl (cJ, 256, .inr (.inl px))), (apy, .inl (cJ, 256, .inr (.inl py))), (aon, .inl (cZ, 256, .inl on)), (aen, .inl (cI, 256, .inl en)), (afi, .inl (cJ, 6, .inr (.inl x73.2.1))), (ase, .inl (cJ, 6, .inr (.inl x73.2.2)))] → va_S A s.heap H locs → W p l e R s m args below meth c H locs 0 0 Q (F0 m 76 ls [.int x73.1]) := by
                intro x73 hres ls H locs hl hP hD hS
                unfold km_so_k76 at hres
                refine lv_istore (lv' := [(9, .int x73.1), (8, .int t21_0), (7, .int (km_sign a)), (5, .long c0)]) hx hb d_M_signOf_76 hl (by decide) rfl (fun ls hl => ?_)
                refine lv_iload hx hb d_M_signOf_78 (lv_at hl 0 rfl) ?_
                refine lv_if_ne (tgt := 87) hx hb d_M_signOf_80 rfl (fun h80 => ?_) (fun h80 => ?_)
                · rw [if_neg h80] at hres
                  refine lv_iload hx hb d_M_signOf_87 (lv_at hl 0 rfl) ?_
                  refine lv_if_le (tgt := 97) hx hb d_M_signOf_89 rfl (fun h89 => ?_) (fun h89 => ?_)
                  · rw [if_pos h89] at hres
                    refine lv_iload hx hb d_M_signOf_97 (lv_at hl 1 rfl) ?_
                    rw [hQ]
                    subst hres
                    exact W.iret (v := t21_0) hx hb hr (fun t ht hW => ⟨⟨_, (), rfl, rfl, ⟨by rw [ht]; exact hP, va_K.moved hW.alike hK, hD⟩⟩, hS.F ht⟩) hS.2.2 d_M_signOf_99
                  · rw [if_neg h89] at hres
                    refine lv_iload hx hb d_M_signOf_92 (lv_at hl 2 rfl) ?_
                    refine lv_goto (tgt := 99) hx hb d_M_signOf_94 rfl ?_
                    rw [hQ]
                    subst hres
                    exact W.iret (v := km_sign a) hx hb hr (fun t ht hW => ⟨⟨_, (), rfl, rfl, ⟨by rw [ht]; exact hP, va_K.moved hW.alike hK, hD⟩⟩, hS.F ht⟩) hS.2.2 d_M_signOf_99
                · rw [if_pos h80] at hres
                  refine lv_iconst (v := 0) hx hb d_M_signOf_83 (by decide) ?_
                  refine lv_goto (tgt := 99) hx hb d_M_signOf_84 rfl ?_
                  rw [hQ]
                  subst hres
                  exact W.iret (v := 0) hx hb hr (fun t ht hW => ⟨⟨_, (), rfl, rfl, ⟨by rw [ht]; exact hP, va_K.moved hW.alike hK, hD⟩⟩, hS.F ht⟩) hS.2.2 d_M_signOf_99
              exact K76 (km_cmp fi se t59_0 t71_0 c0) hres ls _ _ (lv_sub hl [0, 1, 2] rfl) hP hD hS
            refine lv_if_ge (tgt := 70) hx hb d_M_signOf_62 rfl (fun h62 => ?_) (fun h62 => ?_)
            · rw [if_pos h62] at hres
              refine lv_lload_n hx hb d_M_signOf_70 rfl (lv_at hl 2 rfl) ?_
              exact J71 b hres ls _ _ (lv_sub hl [0, 1, 3] rfl) hP hD hS
            · rw [if_neg h62] at hres
              refine lv_lload_n hx hb d_M_signOf_65 rfl (lv_at hl 2 rfl) ?_
              refine lv_lneg hx hb d_M_signOf_66 ?_
              refine lv_goto (tgt := 71) hx hb d_M_signOf_67 rfl ?_
              exact J71 (-b) hres ls _ _ (lv_sub hl [0, 1, 3] rfl) hP hD hS
          refine lv_if_ge (tgt := 58) hx hb d_M_signOf_50 rfl (fun h50 => ?_) (fun h50 => ?_)
          · rw [if_pos h50] at hres
            refine lv_lload_n hx hb d_M_signOf_58 rfl (lv_at hl 3 rfl) ?_
            exact J59 a hres ls _ _ (lv_sub hl [0, 1, 4, 5] rfl) hP hD hS
          · rw [if_neg h50] at hres
            refine lv_lload_n hx hb d_M_signOf_53 rfl (lv_at hl 3 rfl) ?_
            refine lv_lneg hx hb d_M_signOf_54 ?_
            refine lv_goto (tgt := 59) hx hb d_M_signOf_55 rfl ?_
            exact J59 (-a) hres ls _ _ (lv_sub hl [0, 1, 4, 5] rfl) hP hD hS
        · rw [if_pos h40] at hres
          refine lv_iload hx hb d_M_signOf_43 (lv_at hl 0 rfl) ?_
          rw [hQ]
          subst hres
          exact W.iret (v := t21_0) hx hb hr (fun t ht hW => ⟨⟨_, (), rfl, rfl, ⟨by rw [ht]; exact hP, va_K.moved hW.alike hK, hD⟩⟩, hS.F ht⟩) hS.2.2 d_M_signOf_45
      · rw [if_pos h32] at hres
        refine lv_iload hx hb d_M_signOf_35 (lv_at hl 1 rfl) ?_
        rw [hQ]
        subst hres
        exact W.iret (v := km_sign a) hx hb hr (fun t ht hW => ⟨⟨_, (), rfl, rfl, ⟨by rw [ht]; exact hP, va_K.moved hW.alike hK, hD⟩⟩, hS.F ht⟩) hS.2.2 d_M_signOf_37
  refine lv_if_ne (tgt := 17) hx hb d_M_signOf_10 rfl (fun h10 => ?_) (fun h10 => ?_)
  · rw [if_neg h10] at hres
    refine lv_lload_n hx hb d_M_signOf_17 rfl (lv_at hl 3 rfl) ?_
    refine cq_Si (As := [.long b]) (rest := []) ⟨hx, hb, hml, hown, hts⟩ (c_km_sign l dC dI b) (va_cwS 1 hts (gi_S tw_350 tw_351 tw_6 tw_352) rfl rfl rfl (by decide +kernel) ⟨(by rw [← hR]; exact Nat.le_of_ble_eq_true rfl), (by rw [← hR]; exact Nat.le_of_ble_eq_true rfl)⟩) rfl rfl hl.1 (Nat.le_of_ble_eq_true rfl) d_M_signOf_18 ⟨Nat.zero_le _, Nat.zero_le _⟩ hP hS hA (fun H locs hP hS => ?_)
    exact J21 (km_sign b) hres ls _ _ (lv_sub hl [0, 1, 2, 3, 4] rfl) hP hD hS
  · rw [if_pos h10] at hres
    refine lv_iconst (v := 0) hx hb d_M_signOf_13 (by decide) ?_
    refine lv_goto (tgt := 21) hx hb d_M_signOf_14 rfl ?_
    exact J21 0 hres ls _ _ (lv_sub hl [0, 1, 2, 3, 4] rfl) hP hD hS
def km_cross_j47 (t9_0 : Int32) (t47_0 : Int32) : Int32 × Int32 := (t9_0, t47_0)
def km_cross_j43 (tn : Int32) (t9_0 : Int32) (t43_0 : Int32) : Int32 × Int32 := (km_cross_j47 t9_0 (tn + t43_0))
def km_cross_j9 (tn : Int32) (a : Int32) (b : Int32) (c0 : Int32) (t9_0 : Int32) : Int32 × Int32 := (if c0 ≤ 0 then (km_cross_j47 t9_0 tn) else (if b = 0 then (if a = 0 then (km_cross_j43 tn t9_0 0) else (if b = 0 then (km_cross_j43 tn t9_0 (-1)) else (km_cross_j43 tn t9_0 0))) else (if a = 0 then (km_cross_j43 tn t9_0 1) else (if a = 0 then (km_cross_j43 tn t9_0 0) else (if b = 0 then (km_cross_j43 tn t9_0 (-1)) else (km_cross_j43 tn t9_0 0))))))
def km_cross (tc : Int32) (tn : Int32) (a : Int32) (b : Int32) (c0 : Int32) : Int32 × Int32 := (if c0 = 0 then (km_cross_j9 tn a b c0 1) else (km_cross_j9 tn a b c0 tc))
set_option maxHeartbeats 4000000 in
set_option maxRecDepth 100000 in
theorem c_km_cross (l : Launch) (dC : Nat → ClassId) (dI : Nat → Nat → Nat) (h0 : Nat) (apx : Nat) (apy : Nat) (aon : Nat) (aen : Nat) (afi : Nat) (ase : Nat) (cJ : ClassId) (cZ : ClassId) (cI : ClassId) (wd : Int32) (cn : Int32) (pn : Int32) (px : Nat → Int64) (py : Nat → Int64) (on : Nat → Int32) (en : Nat → Int32) (fi : Nat → Int64) (se : Nat → Int64) (tc : Int32) (tn : Int32) (a : Int32) (b : Int32) (c0 : Int32)  : mc_v l y_M_cross w_M_cross { frames := 0, cells := 0, slots := 0, locals := 0 } (dC, dI) cls9 [(h0, .inr (2, [.int wd, .ref apx, .ref apy, .ref aon, .ref aen, .int cn, .int pn, .int tc, .int tn, .ref afi, .ref ase])), (apx, .inl (cJ, 256, .inr (.inl px))), (apy, .inl (cJ, 256, .inr (.inl py))), (aon, .inl (cZ, 256, .inl on)), (aen, .inl (cI, 256, .inl en)), (afi, .inl (cJ, 6, .inr (.inl fi))), (ase, .inl (cJ, 6, .inr (.inl se)))] [(h0, .inr (2, [.int wd, .ref apx, .ref apy, .ref aon, .ref aen, .int cn, .int pn, .int ((km_cross tc tn a b c0).1), .int ((km_cross tc tn a b c0).2), .ref afi, .ref ase])), (apx, .inl (cJ, 256, .inr (.inl px))), (apy, .inl (cJ, 256, .inr (.inl py))), (aon, .inl (cZ, 256, .inl on)), (aen, .inl (cI, 256, .inl en)), (afi, .inl (cJ, 6, .inr (.inl fi))), (ase, .inl (cJ, 6, .inr (.inl se)))] [(cJ, .long), (cZ, .boolean), (cI, .int)] [.ref h0, .int a, .int b, .int c0] := by
  intro sz
  refine Met.ofW (cc := b_M_cross) (maxL := 4) (ret := none) (by decide) rfl ?_
  intro p e s m args below meth c s₁ B hml hv
  obtain ⟨hargs, hsz, hP, hK, hD0⟩ := hv
  have hx := B.exec
  have hb := B.bytes
  have hr := B.returns
  have hts : ∀ w ∈ lw_w, w.before args s = true := fun w h => atoms_spec (ws := w_M_cross) B.pre w (List.mem_cons_of_mem _ h)
  have hown : s.vm.findClass R_M = some m.cls := findClass_of_methodNamed B.named
  have hlocks := B.notSynchronized
  subst hsz
  have hD := hD0.self (sz := s.heap.size)
  generalize hR : (headSpec w_M_cross { frames := 0, cells := 0, slots := 0, locals := 0 }).room = R
  generalize hAe : va_A [(h0, .inr (2, [.int wd, .ref apx, .ref apy, .ref aon, .ref aen, .int cn, .int pn, .int tc, .int tn, .ref afi, .ref ase])), (apx, .inl (cJ, 256, .inr (.inl px))), (apy, .inl (cJ, 256, .inr (.inl py))), (aon, .inl (cZ, 256, .inl on)), (aen, .inl (cI, 256, .inl en)), (afi, .inl (cJ, 6, .inr (.inl fi))), (ase, .inl (cJ, 6, .inr (.inl se)))] s.heap.size = A at hD ⊢
  have hA : ∀ q : Nat, s.heap.size ≤ q → A q := fun q h => by rw [← hAe]; exact Or.inr h
  have hS : va_S A s.heap s.heap [] := va_S.rf
  generalize hRES : km_cross tc tn a b c0 = RES
  have hres := hRES
  have hl := lv_entry [.ref h0, .int a, .int b, .int c0] (n := 4) (Nat.le_of_ble_eq_true rfl)
  have hent : entryFrame m args 4 = F0 m 0 (lg_sl [.ref h0, .int a, .int b, .int c0] ++ List.replicate (4 - (lg_sl [.ref h0, .int a, .int b, .int c0]).length) Slot.unset).toArray [] := by rw [hargs]; exact lg_entry_eq m [.ref h0, .int a, .int b, .int c0] 4
  rw [hent]
  clear hent
  generalize (lg_sl [.ref h0, .int a, .int b, .int c0] ++ List.replicate (4 - (lg_sl [.ref h0, .int a, .int b, .int c0]).length) Slot.unset).toArray = ls at hl ⊢
  have hl : lv_has ls 4 [(0, .ref h0), (1, .int a), (2, .int b), (3, .int c0)] := hl
  have hP : va_P (dC, dI) cls9 [(h0, .inr (2, [.int wd, .ref apx, .ref apy, .ref aon, .ref aen, .int cn, .int pn, .int tc, .int tn, .ref afi, .ref ase])), (apx, .inl (cJ, 256, .inr (.inl px))), (apy, .inl (cJ, 256, .inr (.inl py))), (aon, .inl (cZ, 256, .inl on)), (aen, .inl (cI, 256, .inl en)), (afi, .inl (cJ, 6, .inr (.inl fi))), (ase, .inl (cJ, 6, .inr (.inl se)))] s.heap := hP
  have hD : va_D A [(h0, .inr (2, [.int wd, .ref apx, .ref apy, .ref aon, .ref aen, .int cn, .int pn, .int tc, .int tn, .ref afi, .ref ase])), (apx, .inl (cJ, 256, .inr (.inl px))), (apy, .inl (cJ, 256, .inr (.inl py))), (aon, .inl (cZ, 256, .inl on)), (aen, .inl (cI, 256, .inl en)), (afi, .inl (cJ, 6, .inr (.inl fi))), (ase, .inl (cJ, 6, .inr (.inl se)))] := hD
  clear hD0 hRES hAe
  unfold km_cross at hres
  generalize hQ : MQ below (va_Qv (fun (_ : Unit) => True) (fun _ t => va_P (dC, dI) cls9 [(h0, .inr (2, [.int wd, .ref apx, .ref apy, .ref aon, .ref aen, .int cn, .int pn, .int RES.1, .int RES.2, .ref afi, .ref ase])), (apx, .inl (cJ, 256, .inr (.inl px))), (apy, .inl (cJ, 256, .inr (.inl py))), (aon, .inl (cZ, 256, .inl on)), (aen, .inl (cI, 256, .inl en)), (afi, .inl (cJ, 6, .inr (.inl fi))), (ase, .inl (cJ, 6, .inr (.inl se)))] t.heap ∧ va_K (dC, dI) cls9 [(cJ, .long), (cZ, .boolean), (cI, .int)] t ∧ va_D A [(h0, .inr (2, [.int wd, .ref apx, .ref apy, .ref aon, .ref aen, .int cn, .int pn, .int RES.1, .int RES.2, .ref afi, .ref ase])), (apx, .inl (cJ, 256, .inr (.inl px))), (apy, .inl (cJ, 256, .inr (.inl py))), (aon, .inl (cZ, 256, .inl on)), (aen, .inl (cI, 256, .inl en)), (afi, .inl (cJ, 6, .inr (.inl fi))), (ase, .inl (cJ, 6, .inr (.inl se)))]) A) args s 0 0 A = Q
  replace hQ := hQ.symm
  refine lv_iload_n hx hb d_M_cross_0 rfl (lv_at hl 3 rfl) ?_
  have J9 : ∀ (t9_0 : Int32), km_cross_j9 tn a b c0 t9_0 = RES → ∀ (ls : Array Slot) (H : Heap) (locs : List Loc), lv_has ls 4 [(0, .ref h0), (1, .int a), (2, .int b), (3, .int c0)] → va_P (dC, dI) cls9 [(h0, .inr (2, [.int wd, .ref apx, .ref apy, .ref aon, .ref aen, .int cn, .int pn, .int t9_0, .int tn, .ref afi, .ref ase])), (apx, .inl (cJ, 256, .inr (.inl px))), (apy, .inl (cJ, 256, .inr (.inl py))), (aon, .inl (cZ, 256, .inl on)), (aen, .inl (cI, 256, .inl en)), (afi, .inl (cJ, 6, .inr (.inl fi))), (ase, .inl (cJ, 6, .inr (.inl se)))] H → va_D A [(h0, .inr (2, [.int wd, .ref apx, .ref apy, .ref aon, .ref aen, .int cn, .int pn, .int t9_0, .int tn, .ref afi, .ref ase])), (apx, .inl (cJ, 256, .inr (.inl px))), (apy, .inl (cJ, 256, .inr (.inl py))), (aon, .inl (cZ, 256, .inl on)), (aen, .inl (cI, 256, .inl en)), (afi, .inl (cJ, 6, .inr (.inl fi))), (ase, .inl (cJ, 6, .inr (.inl se)))] → va_S A s.heap H locs → W p l e R s m args below meth c H locs 0 0 Q (F0 m 9 ls []) := by
    intro t9_0 hres ls H locs hl hP hD hS
    unfold km_cross_j9 at hres
    refine lv_iload_n hx hb d_M_cross_9 rfl (lv_at hl 3 rfl) ?_
    have J47 : ∀ (t47_0 : Int32), km_cross_j47 t9_0 t47_0 = RES → ∀ (ls : Array Slot) (H : Heap) (locs : List Loc), lv_has ls 4 [] → va_P (dC, dI) cls9 [(h0, .inr (2, [.int wd, .ref apx, .ref apy, .ref aon, .ref aen, .int cn, .int pn, .int t9_0, .int t47_0, .ref afi, .ref ase])), (apx, .inl (cJ, 256, .inr (.inl px))), (apy, .inl (cJ, 256, .inr (.inl py))), (aon, .inl (cZ, 256, .inl on)), (aen, .inl (cI, 256, .inl en)), (afi, .inl (cJ, 6, .inr (.inl fi))), (ase, .inl (cJ, 6, .inr (.inl se)))] H → va_D A [(h0, .inr (2, [.int wd, .ref apx, .ref apy, .ref aon, .ref aen, .int cn, .int pn, .int t9_0, .int t47_0, .ref afi, .ref ase])), (apx, .inl (cJ, 256, .inr (.inl px))), (apy, .inl (cJ, 256, .inr (.inl py))), (aon, .inl (cZ, 256, .inl on)), (aen, .inl (cI, 256, .inl en)), (afi, .inl (cJ, 6, .inr (.inl fi))), (ase, .inl (cJ, 6, .inr (.inl se)))] → va_S A s.heap H locs → W p l e R s m args below meth c H locs 0 0 Q (F0 m 47 ls []) := by
      intro t47_0 hres ls H locs hl hP hD hS
      unfold km_cross_j47 at hres
      rw [hQ]
      subst hres
      exact W.vret hx hb hr (fun t ht hW => ⟨⟨(), rfl, trivial, ⟨by rw [ht]; exact hP, va_K.moved hW.alike hK, hD⟩⟩, hS.F ht⟩) hS.2.2 d_M_cross_47
    refine lv_if_le (tgt := 47) hx hb d_M_cross_10 rfl (fun h10 => ?_) (fun h10 => ?_)
    · rw [if_pos h10] at hres
      exact J47 tn hres ls _ _ (lv_sub hl [] rfl) hP hD hS
    · rw [if_neg h10] at hres
      refine lv_aload_n hx hb d_M_cross_13 rfl (lv_at hl 0 rfl) ?_
      refine lv_dup hx hb d_M_cross_14 rfl ?_
      refine va_get (D := (dC, dI)) (ci := 2) (v := .int tn) (C := R_M) (T := F_M) (N := 11) hx hb hts in_M hown hK hP 0 rfl rfl 8 (by decide) (hts _ tw_287) (fun _ h9 => h9) rfl d_M_cross_15 ?_
      refine lv_iload_n hx hb d_M_cross_18 rfl (lv_at hl 2 rfl) ?_
      have J43 : ∀ (t43_0 : Int32), km_cross_j43 tn t9_0 t43_0 = RES → ∀ (ls : Array Slot) (H : Heap) (locs : List Loc), lv_has ls 4 [] → va_P (dC, dI) cls9 [(h0, .inr (2, [.int wd, .ref apx, .ref apy, .ref aon, .ref aen, .int cn, .int pn, .int t9_0, .int tn, .ref afi, .ref ase])), (apx, .inl (cJ, 256, .inr (.inl px))), (apy, .inl (cJ, 256, .inr (.inl py))), (aon, .inl (cZ, 256, .inl on)), (aen, .inl (cI, 256, .inl en)), (afi, .inl (cJ, 6, .inr (.inl fi))), (ase, .inl (cJ, 6, .inr (.inl se)))] H → va_D A [(h0, .inr (2, [.int wd, .ref apx, .ref apy, .ref aon, .ref aen, .int cn, .int pn, .int t9_0, .int tn, .ref afi, .ref ase])), (apx, .inl (cJ, 256, .inr (.inl px))), (apy, .inl (cJ, 256, .inr (.inl py))), (aon, .inl (cZ, 256, .inl on)), (aen, .inl (cI, 256, .inl en)), (afi, .inl (cJ, 6, .inr (.inl fi))), (ase, .inl (cJ, 6, .inr (.inl se)))] → va_S A s.heap H locs → W p l e R s m args below meth c H locs 0 0 Q (F0 m 43 ls [.int t43_0, .int tn, .ref h0]) := by
        intro t43_0 hres ls H locs hl hP hD hS
        unfold km_cross_j43 at hres
        refine lv_iadd hx hb d_M_cross_43 ?_
        refine va_put (D := (dC, dI)) (ci := 2) (v := .int (tn + t43_0)) (ty := .int) (C := R_M) (T := F_M) (N := 11) hx hb hts in_M tf_M tok_M n_M hown hK hP hD hS 0 rfl rfl 8 (by decide) (hts _ tw_287) (fun _ h9 => h9) rfl (by decide +kernel) (by rfl) (by rfl) (Nat.le_of_ble_eq_true rfl) d_M_cross_44 (fun H locs hP hD hS => ?_)
        have hP : va_P (dC, dI) cls9 [(h0, .inr (2, [.int wd, .ref apx, .ref apy, .ref aon, .ref aen, .int cn, .int pn, .int t9_0, .int (tn + t43_0), .ref afi, .ref ase])), (apx, .inl (cJ, 256, .inr (.inl px))), (apy, .inl (cJ, 256, .inr (.inl py))), (aon, .inl (cZ, 256, .inl on)), (aen, .inl (cI, 256, .inl en)), (afi, .inl (cJ, 6, .inr (.inl fi))), (ase, .inl (cJ, 6, .inr (.inl se)))] H := hP
        have hD : va_D A [(h0, .inr (2, [.int wd, .ref apx, .ref apy, .ref aon, .ref aen, .int cn, .int pn, .int t9_0, .int (tn + t43_0), .ref afi, .ref ase])), (apx, .inl (cJ, 256, .inr (.inl px))), (apy, .inl (cJ, 256, .inr (.inl py))), (aon, .inl (cZ, 256, .inl on)), (aen, .inl (cI, 256, .inl en)), (afi, .inl (cJ, 6, .inr (.inl fi))), (ase, .inl (cJ, 6, .inr (.inl se)))] := hD
        exact J47 (tn + t43_0) hres ls _ _ (lv_sub hl [] rfl) hP hD hS
      refine lv_if_eq (tgt := 30) hx hb d_M_cross_19 rfl (fun h19 => ?_) (fun h19 => ?_)
      · rw [if_pos h19] at hres
        refine lv_iload_n hx hb d_M_cross_30 rfl (lv_at hl 1 rfl) ?_
        refine lv_if_eq (tgt := 42) hx hb d_M_cross_31 rfl (fun h31 => ?_) (fun h31 => ?_)
        · rw [if_pos h31] at hres
          refine lv_iconst (v := 0) hx hb d_M_cross_42 (by decide) ?_
          exact J43 0 hres ls _ _ (lv_sub hl [] rfl) hP hD hS
        · rw [if_neg h31] at hres
          refine lv_iload_n hx hb d_M_cross_34 rfl (lv_at hl 2 rfl) ?_
          refine lv_if_ne (tgt := 42) hx hb d_M_cross_35 rfl (fun h35 => ?_) (fun h35 => ?_)
          · rw [if_neg h35] at hres
            refine lv_iconst (v := 0) hx hb d_M_cross_42 (by decide) ?_
            exact J43 0 hres ls _ _ (lv_sub hl [] rfl) hP hD hS
          · rw [if_pos h35] at hres
            refine lv_iconst (v := (-1)) hx hb d_M_cross_38 (by decide) ?_
            refine lv_goto (tgt := 43) hx hb d_M_cross_39 rfl ?_
            exact J43 (-1) hres ls _ _ (lv_sub hl [] rfl) hP hD hS
      · rw [if_neg h19] at hres
        refine lv_iload_n hx hb d_M_cross_22 rfl (lv_at hl 1 rfl) ?_
        refine lv_if_ne (tgt := 30) hx hb d_M_cross_23 rfl (fun h23 => ?_) (fun h23 => ?_)
        · rw [if_neg h23] at hres
          refine lv_iload_n hx hb d_M_cross_30 rfl (lv_at hl 1 rfl) ?_
          refine lv_if_eq (tgt := 42) hx hb d_M_cross_31 rfl (fun h31 => ?_) (fun h31 => ?_)
          · rw [if_pos h31] at hres
            refine lv_iconst (v := 0) hx hb d_M_cross_42 (by decide) ?_
            exact J43 0 hres ls _ _ (lv_sub hl [] rfl) hP hD hS
          · rw [if_neg h31] at hres
            refine lv_iload_n hx hb d_M_cross_34 rfl (lv_at hl 2 rfl) ?_
            refine lv_if_ne (tgt := 42) hx hb d_M_cross_35 rfl (fun h35 => ?_) (fun h35 => ?_)
            · rw [if_neg h35] at hres
              refine lv_iconst (v := 0) hx hb d_M_cross_42 (by decide) ?_
              exact J43 0 hres ls _ _ (lv_sub hl [] rfl) hP hD hS
            · rw [if_pos h35] at hres
              refine lv_iconst (v := (-1)) hx hb d_M_cross_38 (by decide) ?_
              refine lv_goto (tgt := 43) hx hb d_M_cross_39 rfl ?_
              exact J43 (-1) hres ls _ _ (lv_sub hl [] rfl) hP hD hS
        · rw [if_pos h23] at hres
          refine lv_iconst (v := 1) hx hb d_M_cross_26 (by decide) ?_
          refine lv_goto (tgt := 43) hx hb d_M_cross_27 rfl ?_
          exact J43 1 hres ls _ _ (lv_sub hl [] rfl) hP hD hS
  refine lv_if_ne (tgt := 9) hx hb d_M_cross_1 rfl (fun h1 => ?_) (fun h1 => ?_)
  · rw [if_neg h1] at hres
    exact J9 tc hres ls _ _ (lv_sub hl [0, 1, 2, 3] rfl) hP hD hS
  · rw [if_pos h1] at hres
    refine lv_aload_n hx hb d_M_cross_4 rfl (lv_at hl 0 rfl) ?_
    refine lv_iconst (v := 1) hx hb d_M_cross_5 (by decide) ?_
    refine va_put (D := (dC, dI)) (ci := 2) (v := .int 1) (ty := .boolean) (C := R_M) (T := F_M) (N := 11) hx hb hts in_M tf_M tok_M n_M hown hK hP hD hS 0 rfl rfl 7 (by decide) (hts _ tw_286) (fun _ h9 => h9) rfl (by decide +kernel) (by rfl) (by rfl) (Nat.le_of_ble_eq_true rfl) d_M_cross_6 (fun H locs hP hD hS => ?_)
    have hP : va_P (dC, dI) cls9 [(h0, .inr (2, [.int wd, .ref apx, .ref apy, .ref aon, .ref aen, .int cn, .int pn, .int 1, .int tn, .ref afi, .ref ase])), (apx, .inl (cJ, 256, .inr (.inl px))), (apy, .inl (cJ, 256, .inr (.inl py))), (aon, .inl (cZ, 256, .inl on)), (aen, .inl (cI, 256, .inl en)), (afi, .inl (cJ, 6, .inr (.inl fi))), (ase, .inl (cJ, 6, .inr (.inl se)))] H := hP
    have hD : va_D A [(h0, .inr (2, [.int wd, .ref apx, .ref apy, .ref aon, .ref aen, .int cn, .int pn, .int 1, .int tn, .ref afi, .ref ase])), (apx, .inl (cJ, 256, .inr (.inl px))), (apy, .inl (cJ, 256, .inr (.inl py))), (aon, .inl (cZ, 256, .inl on)), (aen, .inl (cI, 256, .inl en)), (afi, .inl (cJ, 6, .inr (.inl fi))), (ase, .inl (cJ, 6, .inr (.inl se)))] := hD
    exact J9 1 hres ls _ _ (lv_sub hl [0, 1, 2, 3] rfl) hP hD hS
def km_line_j103 (t103_0 : Int32) (t103_1 : Int32) : Int32 × Int32 := (t103_0, t103_1)
def km_line_k103 (x100 : Int32 × Int32) : Int32 × Int32 := (km_line_j103 x100.1 x100.2)
def km_line_j87 (tn : Int32) (a : Int64) (b : Int64) (c0 : Int64) (d : Int64) (t37_0 : Int32) (t75_0 : Int32) (t87_0 : Int32) : Int32 × Int32 := (km_line_k103 (km_cross t37_0 tn t75_0 t87_0 ((km_sign ((a * d) - (c0 * b))) * (km_sign (d - b)))))
def km_line_j75 (tn : Int32) (a : Int64) (b : Int64) (c0 : Int64) (d : Int64) (t37_0 : Int32) (t75_0 : Int32) : Int32 × Int32 := (if (lg_cmp d 0) < 0 then (km_line_j87 tn a b c0 d t37_0 t75_0 0) else (km_line_j87 tn a b c0 d t37_0 t75_0 1))
def km_line_j60 (tn : Int32) (a : Int64) (b : Int64) (c0 : Int64) (d : Int64) (t37_0 : Int32) (t48_0 : Int32) (t60_0 : Int32) : Int32 × Int32 := (if t48_0 = t60_0 then (km_line_j103 t37_0 tn) else (if (lg_cmp b 0) < 0 then (km_line_j75 tn a b c0 d t37_0 0) else (km_line_j75 tn a b c0 d t37_0 1)))
def km_line_j48 (tn : Int32) (a : Int64) (b : Int64) (c0 : Int64) (d : Int64) (t37_0 : Int32) (t48_0 : Int32) : Int32 × Int32 := (if (lg_cmp d 0) < 0 then (km_line_j60 tn a b c0 d t37_0 t48_0 0) else (km_line_j60 tn a b c0 d t37_0 t48_0 1))
def km_line_j37 (tn : Int32) (a : Int64) (b : Int64) (c0 : Int64) (d : Int64) (t37_0 : Int32) : Int32 × Int32 := (if (lg_cmp b 0) < 0 then (km_line_j48 tn a b c0 d t37_0 0) else (km_line_j48 tn a b c0 d t37_0 1))
def km_line (tc : Int32) (tn : Int32) (a : Int64) (b : Int64) (c0 : Int64) (d : Int64) : Int32 × Int32 := (if (lg_cmp ((a * d) - (c0 * b)) 0) = 0 then (if 0 < (lg_cmp ((a * c0) + (b * d)) 0) then (km_line_j37 tn a b c0 d tc) else (km_line_j37 tn a b c0 d 1)) else (km_line_j37 tn a b c0 d tc))
set_option maxHeartbeats 4000000 in
set_option maxRecDepth 100000 in
theorem c_km_line (l : Launch) (dC : Nat → ClassId) (dI : Nat → Nat → Nat) (h0 : Nat) (apx : Nat) (apy : Nat) (aon : Nat) (aen : Nat) (afi : Nat) (ase : Nat) (cJ : ClassId) (cZ : ClassId) (cI : ClassId) (wd : Int32) (cn : Int32) (pn : Int32) (px : Nat → Int64) (py : Nat → Int64) (on : Nat → Int32) (en : Nat → Int32) (fi : Nat → Int64) (se : Nat → Int64) (tc : Int32) (tn : Int32) (a : Int64) (b : Int64) (c0 : Int64) (d : Int64)  : mc_v l y_M_line w_M_line { frames := 1, cells := 0, slots := 0, locals := 23 } (dC, dI) cls9 [(h0, .inr (2, [.int wd, .ref apx, .ref apy, .ref aon, .ref aen, .int cn, .int pn, .int tc, .int tn, .ref afi, .ref ase])), (apx, .inl (cJ, 256, .inr (.inl px))), (apy, .inl (cJ, 256, .inr (.inl py))), (aon, .inl (cZ, 256, .inl on)), (aen, .inl (cI, 256, .inl en)), (afi, .inl (cJ, 6, .inr (.inl fi))), (ase, .inl (cJ, 6, .inr (.inl se)))] [(h0, .inr (2, [.int wd, .ref apx, .ref apy, .ref aon, .ref aen, .int cn, .int pn, .int ((km_line tc tn a b c0 d).1), .int ((km_line tc tn a b c0 d).2), .ref afi, .ref ase])), (apx, .inl (cJ, 256, .inr (.inl px))), (apy, .inl (cJ, 256, .inr (.inl py))), (aon, .inl (cZ, 256, .inl on)), (aen, .inl (cI, 256, .inl en)), (afi, .inl (cJ, 6, .inr (.inl fi))), (ase, .inl (cJ, 6, .inr (.inl se)))] [(cJ, .long), (cZ, .boolean), (cI, .int)] [.ref h0, .long a, .long b, .long c0, .long d] := by
  intro sz
  refine Met.ofW (cc := b_M_line) (maxL := 11) (ret := none) (by decide) rfl ?_
  intro p e s m args below meth c s₁ B hml hv
  obtain ⟨hargs, hsz, hP, hK, hD0⟩ := hv
  have hx := B.exec
  have hb := B.bytes
  have hr := B.returns
  have hts : ∀ w ∈ lw_w, w.before args s = true := fun w h => atoms_spec (ws := w_M_line) B.pre w (List.mem_cons_of_mem _ h)
  have hown : s.vm.findClass R_M = some m.cls := findClass_of_methodNamed B.named
  have hlocks := B.notSynchronized
  subst hsz
  have hD := hD0.self (sz := s.heap.size)
  generalize hR : (headSpec w_M_line { frames := 1, cells := 0, slots := 0, locals := 23 }).room = R
  generalize hAe : va_A [(h0, .inr (2, [.int wd, .ref apx, .ref apy, .ref aon, .ref aen, .int cn, .int pn, .int tc, .int tn, .ref afi, .ref ase])), (apx, .inl (cJ, 256, .inr (.inl px))), (apy, .inl (cJ, 256, .inr (.inl py))), (aon, .inl (cZ, 256, .inl on)), (aen, .inl (cI, 256, .inl en)), (afi, .inl (cJ, 6, .inr (.inl fi))), (ase, .inl (cJ, 6, .inr (.inl se)))] s.heap.size = A at hD ⊢
  have hA : ∀ q : Nat, s.heap.size ≤ q → A q := fun q h => by rw [← hAe]; exact Or.inr h
  have hS : va_S A s.heap s.heap [] := va_S.rf
  generalize hRES : km_line tc tn a b c0 d = RES
  have hres := hRES
  have hl := lv_entry [.ref h0, .long a, .long b, .long c0, .long d] (n := 11) (Nat.le_of_ble_eq_true rfl)
  have hent : entryFrame m args 11 = F0 m 0 (lg_sl [.ref h0, .long a, .long b, .long c0, .long d] ++ List.replicate (11 - (lg_sl [.ref h0, .long a, .long b, .long c0, .long d]).length) Slot.unset).toArray [] := by rw [hargs]; exact lg_entry_eq m [.ref h0, .long a, .long b, .long c0, .long d] 11
  rw [hent]
  clear hent
  generalize (lg_sl [.ref h0, .long a, .long b, .long c0, .long d] ++ List.replicate (11 - (lg_sl [.ref h0, .long a, .long b, .long c0, .long d]).length) Slot.unset).toArray = ls at hl ⊢
  have hl : lv_has ls 11 [(0, .ref h0), (1, .long a), (3, .long b), (5, .long c0), (7, .long d)] := hl
  have hP : va_P (dC, dI) cls9 [(h0, .inr (2, [.int wd, .ref apx, .ref apy, .ref aon, .ref aen, .int cn, .int pn, .int tc, .int tn, .ref afi, .ref ase])), (apx, .inl (cJ, 256, .inr (.inl px))), (apy, .inl (cJ, 256, .inr (.inl py))), (aon, .inl (cZ, 256, .inl on)), (aen, .inl (cI, 256, .inl en)), (afi, .inl (cJ, 6, .inr (.inl fi))), (ase, .inl (cJ, 6, .inr (.inl se)))] s.heap := hP
  have hD : va_D A [(h0, .inr (2, [.int wd, .ref apx, .ref apy, .ref aon, .ref aen, .int cn, .int pn, .int tc, .int tn, .ref afi, .ref ase])), (apx, .inl (cJ, 256, .inr (.inl px))), (apy, .inl (cJ, 256, .inr (.inl py))), (aon, .inl (cZ, 256, .inl on)), (aen, .inl (cI, 256, .inl en)), (afi, .inl (cJ, 6, .inr (.inl fi))), (ase, .inl (cJ, 6, .inr (.inl se)))] := hD
  clear hD0 hRES hAe
  unfold km_line at hres
  generalize hQ : MQ below (va_Qv (fun (_ : Unit) => True) (fun _ t => va_P (dC, dI) cls9 [(h0, .inr (2, [.int wd, .ref apx, .ref apy, .ref aon, .ref aen, .int cn, .int pn, .int RES.1, .int RES.2, .ref afi, .ref ase])), (apx, .inl (cJ, 256, .inr (.inl px))), (apy, .inl (cJ, 256, .inr (.inl py))), (aon, .inl (cZ, 256, .inl on)), (aen, .inl (cI, 256, .inl en)), (afi, .inl (cJ, 6, .inr (.inl fi))), (ase, .inl (cJ, 6, .inr (.inl se)))] t.heap ∧ va_K (dC, dI) cls9 [(cJ, .long), (cZ, .boolean), (cI, .int)] t ∧ va_D A [(h0, .inr (2, [.int wd, .ref apx, .ref apy, .ref aon, .ref aen, .int cn, .int pn, .int RES.1, .int RES.2, .ref afi, .ref ase])), (apx, .inl (cJ, 256, .inr (.inl px))), (apy, .inl (cJ, 256, .inr (.inl py))), (aon, .inl (cZ, 256, .inl on)), (aen, .inl (cI, 256, .inl en)), (afi, .inl (cJ, 6, .inr (.inl fi))), (ase, .inl (cJ, 6, .inr (.inl se)))]) A) args s 0 0 A = Q
  replace hQ := hQ.symm
  refine lv_lload_n hx hb d_M_line_0 rfl (lv_at hl 1 rfl) ?_
  refine lv_lload hx hb d_M_line_1 (lv_at hl 4 rfl) ?_
  refine lv_lmul hx hb d_M_line_3 ?_
  refine lv_lload hx hb d_M_line_4 (lv_at hl 3 rfl) ?_
  refine lv_lload_n hx hb d_M_line_6 rfl (lv_at hl 2 rfl) ?_
  refine lv_lmul hx hb d_M_line_7 ?_
  refine lv_lsub hx hb d_M_line_8 ?_
  refine lv_lstore (lv' := [(9, .long ((a * d) - (c0 * b))), (0, .ref h0), (1, .long a), (3, .long b), (5, .long c0), (7, .long d)]) hx hb d_M_line_9 hl (by decide) rfl (fun ls hl => ?_)
  refine lv_lload hx hb d_M_line_11 (lv_at hl 0 rfl) ?_
  refine lv_lconst (v := 0) hx hb d_M_line_13 (by decide) ?_
  refine W.lcmp hx hb d_M_line_14 ?_
  have J37 : ∀ (t37_0 : Int32), km_line_j37 tn a b c0 d t37_0 = RES → ∀ (ls : Array Slot) (H : Heap) (locs : List Loc), lv_has ls 11 [(9, .long ((a * d) - (c0 * b))), (0, .ref h0), (3, .long b), (7, .long d)] → va_P (dC, dI) cls9 [(h0, .inr (2, [.int wd, .ref apx, .ref apy, .ref aon, .ref aen, .int cn, .int pn, .int t37_0, .int tn, .ref afi, .ref ase])), (apx, .inl (cJ, 256, .inr (.inl px))), (apy, .inl (cJ, 256, .inr (.inl py))), (aon, .inl (cZ, 256, .inl on)), (aen, .inl (cI, 256, .inl en)), (afi, .inl (cJ, 6, .inr (.inl fi))), (ase, .inl (cJ, 6, .inr (.inl se)))] H → va_D A [(h0, .inr (2, [.int wd, .ref apx, .ref apy, .ref aon, .ref aen, .int cn, .int pn, .int t37_0, .int tn, .ref afi, .ref ase])), (apx, .inl (cJ, 256, .inr (.inl px))), (apy, .inl (cJ, 256, .inr (.inl py))), (aon, .inl (cZ, 256, .inl on)), (aen, .inl (cI, 256, .inl en)), (afi, .inl (cJ, 6, .inr (.inl fi))), (ase, .inl (cJ, 6, .inr (.inl se)))] → va_S A s.heap H locs → W p l e R s m args below meth c H locs 0 0 Q (F0 m 37 ls []) := by
    intro t37_0 hres ls H locs hl hP hD hS
    unfold km_line_j37 at hres
    refine lv_lload_n hx hb d_M_line_37 rfl (lv_at hl 2 rfl) ?_
    refine lv_lconst (v := 0) hx hb d_M_line_38 (by decide) ?_
    refine W.lcmp hx hb d_M_line_39 ?_
    have J48 : ∀ (t48_0 : Int32), km_line_j48 tn a b c0 d t37_0 t48_0 = RES → ∀ (ls : Array Slot) (H : Heap) (locs : List Loc), lv_has ls 11 [(9, .long ((a * d) - (c0 * b))), (0, .ref h0), (3, .long b), (7, .long d)] → va_P (dC, dI) cls9 [(h0, .inr (2, [.int wd, .ref apx, .ref apy, .ref aon, .ref aen, .int cn, .int pn, .int t37_0, .int tn, .ref afi, .ref ase])), (apx, .inl (cJ, 256, .inr (.inl px))), (apy, .inl (cJ, 256, .inr (.inl py))), (aon, .inl (cZ, 256, .inl on)), (aen, .inl (cI, 256, .inl en)), (afi, .inl (cJ, 6, .inr (.inl fi))), (ase, .inl (cJ, 6, .inr (.inl se)))] H → va_D A [(h0, .inr (2, [.int wd, .ref apx, .ref apy, .ref aon, .ref aen, .int cn, .int pn, .int t37_0, .int tn, .ref afi, .ref ase])), (apx, .inl (cJ, 256, .inr (.inl px))), (apy, .inl (cJ, 256, .inr (.inl py))), (aon, .inl (cZ, 256, .inl on)), (aen, .inl (cI, 256, .inl en)), (afi, .inl (cJ, 6, .inr (.inl fi))), (ase, .inl (cJ, 6, .inr (.inl se)))] → va_S A s.heap H locs → W p l e R s m args below meth c H locs 0 0 Q (F0 m 48 ls [.int t48_0]) := by
      intro t48_0 hres ls H locs hl hP hD hS
      unfold km_line_j48 at hres
      refine lv_lload hx hb d_M_line_48 (lv_at hl 3 rfl) ?_
      refine lv_lconst (v := 0) hx hb d_M_line_50 (by decide) ?_
      refine W.lcmp hx hb d_M_line_51 ?_
      have J60 : ∀ (t60_0 : Int32), km_line_j60 tn a b c0 d t37_0 t48_0 t60_0 = RES → ∀ (ls : Array Slot) (H : Heap) (locs : List Loc), lv_has ls 11 [(9, .long ((a * d) - (c0 * b))), (0, .ref h0), (3, .long b), (7, .long d)] → va_P (dC, dI) cls9 [(h0, .inr (2, [.int wd, .ref apx, .ref apy, .ref aon, .ref aen, .int cn, .int pn, .int t37_0, .int tn, .ref afi, .ref ase])), (apx, .inl (cJ, 256, .inr (.inl px))), (apy, .inl (cJ, 256, .inr (.inl py))), (aon, .inl (cZ, 256, .inl on)), (aen, .inl (cI, 256, .inl en)), (afi, .inl (cJ, 6, .inr (.inl fi))), (ase, .inl (cJ, 6, .inr (.inl se)))] H → va_D A [(h0, .inr (2, [.int wd, .ref apx, .ref apy, .ref aon, .ref aen, .int cn, .int pn, .int t37_0, .int tn, .ref afi, .ref ase])), (apx, .inl (cJ, 256, .inr (.inl px))), (apy, .inl (cJ, 256, .inr (.inl py))), (aon, .inl (cZ, 256, .inl on)), (aen, .inl (cI, 256, .inl en)), (afi, .inl (cJ, 6, .inr (.inl fi))), (ase, .inl (cJ, 6, .inr (.inl se)))] → va_S A s.heap H locs → W p l e R s m args below meth c H locs 0 0 Q (F0 m 60 ls [.int t60_0, .int t48_0]) := by
        intro t60_0 hres ls H locs hl hP hD hS
        unfold km_line_j60 at hres
        have J103 : ∀ (t103_0 : Int32) (t103_1 : Int32), km_line_j103 t103_0 t103_1 = RES → ∀ (ls : Array Slot) (H : Heap) (locs : List Loc), lv_has ls 11 [] → va_P (dC, dI) cls9 [(h0, .inr (2, [.int wd, .ref apx, .ref apy, .ref aon, .ref aen, .int cn, .int pn, .int t103_0, .int t103_1, .ref afi, .ref ase])), (apx, .inl (cJ, 256, .inr (.inl px))), (apy, .inl (cJ, 256, .inr (.inl py))), (aon, .inl (cZ, 256, .inl on)), (aen, .inl (cI, 256, .inl en)), (afi, .inl (cJ, 6, .inr (.inl fi))), (ase, .inl (cJ, 6, .inr (.inl se)))] H → va_D A [(h0, .inr (2, [.int wd, .ref apx, .ref apy, .ref aon, .ref aen, .int cn, .int pn, .int t103_0, .int t103_1, .ref afi, .ref ase])), (apx, .inl (cJ, 256, .inr (.inl px))), (apy, .inl (cJ, 256, .inr (.inl py))), (aon, .inl (cZ, 256, .inl on)), (aen, .inl (cI, 256, .inl en)), (afi, .inl (cJ, 6, .inr (.inl fi))), (ase, .inl (cJ, 6, .inr (.inl se)))] → va_S A s.heap H locs → W p l e R s m args below meth c H locs 0 0 Q (F0 m 103 ls []) := by
          intro t103_0 t103_1 hres ls H locs hl hP hD hS
          unfold km_line_j103 at hres
          rw [hQ]
          subst hres
          exact W.vret hx hb hr (fun t ht hW => ⟨⟨(), rfl, trivial, ⟨by rw [ht]; exact hP, va_K.moved hW.alike hK, hD⟩⟩, hS.F ht⟩) hS.2.2 d_M_line_103
        refine lv_icmp_eq (tgt := 103) hx hb d_M_line_60 rfl (fun h60 => ?_) (fun h60 => ?_)
        · rw [if_pos h60] at hres
          exact J103 t37_0 tn hres ls _ _ (lv_sub hl [] rfl) hP hD hS
        · rw [if_neg h60] at hres
          refine lv_aload_n hx hb d_M_line_63 rfl (lv_at hl 1 rfl) ?_
          refine lv_lload_n hx hb d_M_line_64 rfl (lv_at hl 2 rfl) ?_
          refine lv_lconst (v := 0) hx hb d_M_line_65 (by decide) ?_
          refine W.lcmp hx hb d_M_line_66 ?_
          have J75 : ∀ (t75_0 : Int32), km_line_j75 tn a b c0 d t37_0 t75_0 = RES → ∀ (ls : Array Slot) (H : Heap) (locs : List Loc), lv_has ls 11 [(9, .long ((a * d) - (c0 * b))), (3, .long b), (7, .long d)] → va_P (dC, dI) cls9 [(h0, .inr (2, [.int wd, .ref apx, .ref apy, .ref aon, .ref aen, .int cn, .int pn, .int t37_0, .int tn, .ref afi, .ref ase])), (apx, .inl (cJ, 256, .inr (.inl px))), (apy, .inl (cJ, 256, .inr (.inl py))), (aon, .inl (cZ, 256, .inl on)), (aen, .inl (cI, 256, .inl en)), (afi, .inl (cJ, 6, .inr (.inl fi))), (ase, .inl (cJ, 6, .inr (.inl se)))] H → va_D A [(h0, .inr (2, [.int wd, .ref apx, .ref apy, .ref aon, .ref aen, .int cn, .int pn, .int t37_0, .int tn, .ref afi, .ref ase])), (apx, .inl (cJ, 256, .inr (.inl px))), (apy, .inl (cJ, 256, .inr (.inl py))), (aon, .inl (cZ, 256, .inl on)), (aen, .inl (cI, 256, .inl en)), (afi, .inl (cJ, 6, .inr (.inl fi))), (ase, .inl (cJ, 6, .inr (.inl se)))] → va_S A s.heap H locs → W p l e R s m args below meth c H locs 0 0 Q (F0 m 75 ls [.int t75_0, .ref h0]) := by
            intro t75_0 hres ls H locs hl hP hD hS
            unfold km_line_j75 at hres
            refine lv_lload hx hb d_M_line_75 (lv_at hl 2 rfl) ?_
            refine lv_lconst (v := 0) hx hb d_M_line_77 (by decide) ?_
            refine W.lcmp hx hb d_M_line_78 ?_
            have J87 : ∀ (t87_0 : Int32), km_line_j87 tn a b c0 d t37_0 t75_0 t87_0 = RES → ∀ (ls : Array Slot) (H : Heap) (locs : List Loc), lv_has ls 11 [(9, .long ((a * d) - (c0 * b))), (3, .long b), (7, .long d)] → va_P (dC, dI) cls9 [(h0, .inr (2, [.int wd, .ref apx, .ref apy, .ref aon, .ref aen, .int cn, .int pn, .int t37_0, .int tn, .ref afi, .ref ase])), (apx, .inl (cJ, 256, .inr (.inl px))), (apy, .inl (cJ, 256, .inr (.inl py))), (aon, .inl (cZ, 256, .inl on)), (aen, .inl (cI, 256, .inl en)), (afi, .inl (cJ, 6, .inr (.inl fi))), (ase, .inl (cJ, 6, .inr (.inl se)))] H → va_D A [(h0, .inr (2, [.int wd, .ref apx, .ref apy, .ref aon, .ref aen, .int cn, .int pn, .int t37_0, .int tn, .ref afi, .ref ase])), (apx, .inl (cJ, 256, .inr (.inl px))), (apy, .inl (cJ, 256, .inr (.inl py))), (aon, .inl (cZ, 256, .inl on)), (aen, .inl (cI, 256, .inl en)), (afi, .inl (cJ, 6, .inr (.inl fi))), (ase, .inl (cJ, 6, .inr (.inl se)))] → va_S A s.heap H locs → W p l e R s m args below meth c H locs 0 0 Q (F0 m 87 ls [.int t87_0, .int t75_0, .ref h0]) := by
              intro t87_0 hres ls H locs hl hP hD hS
              unfold km_line_j87 at hres
              refine lv_lload hx hb d_M_line_87 (lv_at hl 0 rfl) ?_
              refine cq_Si (As := [.long ((a * d) - (c0 * b))]) (rest := [.int t87_0, .int t75_0, .ref h0]) ⟨hx, hb, hml, hown, hts⟩ (c_km_sign l dC dI ((a * d) - (c0 * b))) (va_cwS 1 hts (gi_S tw_350 tw_351 tw_6 tw_352) rfl rfl rfl (by decide +kernel) ⟨(by rw [← hR]; exact Nat.le_of_ble_eq_true rfl), (by rw [← hR]; exact Nat.le_of_ble_eq_true rfl)⟩) rfl rfl hl.1 (Nat.le_of_ble_eq_true rfl) d_M_line_89 ⟨Nat.zero_le _, Nat.zero_le _⟩ hP hS hA (fun H locs hP hS => ?_)
              refine lv_lload hx hb d_M_line_92 (lv_at hl 2 rfl) ?_
              refine lv_lload_n hx hb d_M_line_94 rfl (lv_at hl 1 rfl) ?_
              refine lv_lsub hx hb d_M_line_95 ?_
              refine cq_Si (As := [.long (d - b)]) (rest := [.int (km_sign ((a * d) - (c0 * b))), .int t87_0, .int t75_0, .ref h0]) ⟨hx, hb, hml, hown, hts⟩ (c_km_sign l dC dI (d - b)) (va_cwS 1 hts (gi_S tw_350 tw_351 tw_6 tw_352) rfl rfl rfl (by decide +kernel) ⟨(by rw [← hR]; exact Nat.le_of_ble_eq_true rfl), (by rw [← hR]; exact Nat.le_of_ble_eq_true rfl)⟩) rfl rfl hl.1 (Nat.le_of_ble_eq_true rfl) d_M_line_96 ⟨Nat.zero_le _, Nat.zero_le _⟩ hP hS hA (fun H locs hP hS => ?_)
              refine lv_imul hx hb d_M_line_99 ?_
              refine cm_v (wc := [(h0, .inr (2, [.int wd, .ref apx, .ref apy, .ref aon, .ref aen, .int cn, .int pn, .int t37_0, .int tn, .ref afi, .ref ase])), (apx, .inl (cJ, 256, .inr (.inl px))), (apy, .inl (cJ, 256, .inr (.inl py))), (aon, .inl (cZ, 256, .inl on)), (aen, .inl (cI, 256, .inl en)), (afi, .inl (cJ, 6, .inr (.inl fi))), (ase, .inl (cJ, 6, .inr (.inl se)))]) (wr := []) (W1 := [(h0, .inr (2, [.int wd, .ref apx, .ref apy, .ref aon, .ref aen, .int cn, .int pn, .int ((km_cross t37_0 tn t75_0 t87_0 ((km_sign ((a * d) - (c0 * b))) * (km_sign (d - b)))).1), .int ((km_cross t37_0 tn t75_0 t87_0 ((km_sign ((a * d) - (c0 * b))) * (km_sign (d - b)))).2), .ref afi, .ref ase])), (apx, .inl (cJ, 256, .inr (.inl px))), (apy, .inl (cJ, 256, .inr (.inl py))), (aon, .inl (cZ, 256, .inl on)), (aen, .inl (cI, 256, .inl en)), (afi, .inl (cJ, 6, .inr (.inl fi))), (ase, .inl (cJ, 6, .inr (.inl se)))]) (w2 := [(h0, .inr (2, [.int wd, .ref apx, .ref apy, .ref aon, .ref aen, .int cn, .int pn, .int ((km_cross t37_0 tn t75_0 t87_0 ((km_sign ((a * d) - (c0 * b))) * (km_sign (d - b)))).1), .int ((km_cross t37_0 tn t75_0 t87_0 ((km_sign ((a * d) - (c0 * b))) * (km_sign (d - b)))).2), .ref afi, .ref ase])), (apx, .inl (cJ, 256, .inr (.inl px))), (apy, .inl (cJ, 256, .inr (.inl py))), (aon, .inl (cZ, 256, .inl on)), (aen, .inl (cI, 256, .inl en)), (afi, .inl (cJ, 6, .inr (.inl fi))), (ase, .inl (cJ, 6, .inr (.inl se)))]) (va_runV (g := F0 m 100 ls [.int ((km_sign ((a * d) - (c0 * b))) * (km_sign (d - b))), .int t87_0, .int t75_0, .ref h0]) (As := [.int t75_0, .int t87_0, .int ((km_sign ((a * d) - (c0 * b))) * (km_sign (d - b)))]) (rest := []) ⟨hx, hb, hml, hown, hts⟩ (c_km_cross l dC dI h0 apx apy aon aen afi ase cJ cZ cI wd cn pn px py on en fi se t37_0 tn t75_0 t87_0 ((km_sign ((a * d) - (c0 * b))) * (km_sign (d - b)))  _) (cwV 3 hts (gi_V tw_353 tw_355 ts_13 tw_6 tw_356) rfl rfl rfl (by decide +kernel) ⟨(by rw [← hR]; exact Nat.le_of_ble_eq_true rfl), (by rw [← hR]; exact Nat.le_of_ble_eq_true rfl)⟩) ⟨mc_blind, va_recv (ci := 2) (q := (R_M, F_M, 11)) hK hP rfl (q0 := 0) rfl, mc_pre (hP.sub [0, 1, 2, 3, 4, 5, 6] rfl) (hK.sub [0, 1, 2] rfl) (hD.sub [0, 1, 2, 3, 4, 5, 6] (by decide) rfl)⟩ rfl rfl hl.1 rfl (lv_room (Nat.le_of_ble_eq_true rfl)) d_M_line_100 ⟨Nat.zero_le _, Nat.zero_le _⟩) hP hD hS hA [0, 1, 2, 3, 4, 5, 6] [] [0, 1, 2, 3, 4, 5, 6] rfl rfl (by decide) (by decide) rfl rfl (by decide) (fun H locs hP hD hS => ?_)
              have K103 : ∀ (x100 : Int32 × Int32), km_line_k103 x100 = RES → ∀ (ls : Array Slot) (H : Heap) (locs : List Loc), lv_has ls 11 [(9, .long ((a * d) - (c0 * b))), (3, .long b), (7, .long d)] → va_P (dC, dI) cls9 [(h0, .inr (2, [.int wd, .ref apx, .ref apy, .ref aon, .ref aen, .int cn, .int pn, .int x100.1, .int x100.2, .ref afi, .ref ase])), (apx, .inl (cJ, 256, .inr (.inl px))), (apy, .inl (cJ, 256, .inr (.inl py))), (aon, .inl (cZ, 256, .inl on)), (aen, .inl (cI, 256, .inl en)), (afi, .inl (cJ, 6, .inr (.inl fi))), (ase, .inl (cJ, 6, .inr (.inl se)))] H → va_D A [(h0, .inr (2, [.int wd, .ref apx, .ref apy, .ref aon, .ref aen, .int cn, .int pn, .int x100.1, .int x100.2, .ref afi, .ref ase])), (apx, .inl (cJ, 256, .inr (.inl px))), (apy, .inl (cJ, 256, .inr (.inl py))), (aon, .inl (cZ, 256, .inl on)), (aen, .inl (cI, 256, .inl en)), (afi, .inl (cJ, 6, .inr (.inl fi))), (ase, .inl (cJ, 6, .inr (.inl se)))] → va_S A s.heap H locs → W p l e R s m args below meth c H locs 0 0 Q (F0 m 103 ls []) := by
                intro x100 hres ls H locs hl hP hD hS
                unfold km_line_k103 at hres
                exact J103 x100.1 x100.2 hres ls _ _ (lv_sub hl [] rfl) hP hD hS
              exact K103 (km_cross t37_0 tn t75_0 t87_0 ((km_sign ((a * d) - (c0 * b))) * (km_sign (d - b)))) hres ls _ _ (lv_sub hl [0, 1, 2] rfl) hP hD hS
            refine lv_if_lt (tgt := 86) hx hb d_M_line_79 rfl (fun h79 => ?_) (fun h79 => ?_)
            · rw [if_pos h79] at hres
              refine lv_iconst (v := 0) hx hb d_M_line_86 (by decide) ?_
              exact J87 0 hres ls _ _ (lv_sub hl [0, 1, 2] rfl) hP hD hS
            · rw [if_neg h79] at hres
              refine lv_iconst (v := 1) hx hb d_M_line_82 (by decide) ?_
              refine lv_goto (tgt := 87) hx hb d_M_line_83 rfl ?_
              exact J87 1 hres ls _ _ (lv_sub hl [0, 1, 2] rfl) hP hD hS
          refine lv_if_lt (tgt := 74) hx hb d_M_line_67 rfl (fun h67 => ?_) (fun h67 => ?_)
          · rw [if_pos h67] at hres
            refine lv_iconst (v := 0) hx hb d_M_line_74 (by decide) ?_
            exact J75 0 hres ls _ _ (lv_sub hl [0, 2, 3] rfl) hP hD hS
          · rw [if_neg h67] at hres
            refine lv_iconst (v := 1) hx hb d_M_line_70 (by decide) ?_
            refine lv_goto (tgt := 75) hx hb d_M_line_71 rfl ?_
            exact J75 1 hres ls _ _ (lv_sub hl [0, 2, 3] rfl) hP hD hS
      refine lv_if_lt (tgt := 59) hx hb d_M_line_52 rfl (fun h52 => ?_) (fun h52 => ?_)
      · rw [if_pos h52] at hres
        refine lv_iconst (v := 0) hx hb d_M_line_59 (by decide) ?_
        exact J60 0 hres ls _ _ (lv_sub hl [0, 1, 2, 3] rfl) hP hD hS
      · rw [if_neg h52] at hres
        refine lv_iconst (v := 1) hx hb d_M_line_55 (by decide) ?_
        refine lv_goto (tgt := 60) hx hb d_M_line_56 rfl ?_
        exact J60 1 hres ls _ _ (lv_sub hl [0, 1, 2, 3] rfl) hP hD hS
    refine lv_if_lt (tgt := 47) hx hb d_M_line_40 rfl (fun h40 => ?_) (fun h40 => ?_)
    · rw [if_pos h40] at hres
      refine lv_iconst (v := 0) hx hb d_M_line_47 (by decide) ?_
      exact J48 0 hres ls _ _ (lv_sub hl [0, 1, 2, 3] rfl) hP hD hS
    · rw [if_neg h40] at hres
      refine lv_iconst (v := 1) hx hb d_M_line_43 (by decide) ?_
      refine lv_goto (tgt := 48) hx hb d_M_line_44 rfl ?_
      exact J48 1 hres ls _ _ (lv_sub hl [0, 1, 2, 3] rfl) hP hD hS
  refine lv_if_ne (tgt := 37) hx hb d_M_line_15 rfl (fun h15 => ?_) (fun h15 => ?_)
  · rw [if_neg h15] at hres
    exact J37 tc hres ls _ _ (lv_sub hl [0, 1, 3, 5] rfl) hP hD hS
  · rw [if_pos h15] at hres
    refine lv_lload_n hx hb d_M_line_18 rfl (lv_at hl 2 rfl) ?_
    refine lv_lload hx hb d_M_line_19 (lv_at hl 4 rfl) ?_
    refine lv_lmul hx hb d_M_line_21 ?_
    refine lv_lload_n hx hb d_M_line_22 rfl (lv_at hl 3 rfl) ?_
    refine lv_lload hx hb d_M_line_23 (lv_at hl 5 rfl) ?_
    refine lv_lmul hx hb d_M_line_25 ?_
    refine lv_ladd hx hb d_M_line_26 ?_
    refine lv_lconst (v := 0) hx hb d_M_line_27 (by decide) ?_
    refine W.lcmp hx hb d_M_line_28 ?_
    refine lv_if_gt (tgt := 37) hx hb d_M_line_29 rfl (fun h29 => ?_) (fun h29 => ?_)
    · rw [if_pos h29] at hres
      exact J37 tc hres ls _ _ (lv_sub hl [0, 1, 3, 5] rfl) hP hD hS
    · rw [if_neg h29] at hres
      refine lv_aload_n hx hb d_M_line_32 rfl (lv_at hl 1 rfl) ?_
      refine lv_iconst (v := 1) hx hb d_M_line_33 (by decide) ?_
      refine va_put (D := (dC, dI)) (ci := 2) (v := .int 1) (ty := .boolean) (C := R_M) (T := F_M) (N := 11) hx hb hts in_M tf_M tok_M n_M hown hK hP hD hS 0 rfl rfl 7 (by decide) (hts _ tw_286) (fun _ h9 => h9) rfl (by decide +kernel) (by rfl) (by rfl) (Nat.le_of_ble_eq_true rfl) d_M_line_34 (fun H locs hP hD hS => ?_)
      have hP : va_P (dC, dI) cls9 [(h0, .inr (2, [.int wd, .ref apx, .ref apy, .ref aon, .ref aen, .int cn, .int pn, .int 1, .int tn, .ref afi, .ref ase])), (apx, .inl (cJ, 256, .inr (.inl px))), (apy, .inl (cJ, 256, .inr (.inl py))), (aon, .inl (cZ, 256, .inl on)), (aen, .inl (cI, 256, .inl en)), (afi, .inl (cJ, 6, .inr (.inl fi))), (ase, .inl (cJ, 6, .inr (.inl se)))] H := hP
      have hD : va_D A [(h0, .inr (2, [.int wd, .ref apx, .ref apy, .ref aon, .ref aen, .int cn, .int pn, .int 1, .int tn, .ref afi, .ref ase])), (apx, .inl (cJ, 256, .inr (.inl px))), (apy, .inl (cJ, 256, .inr (.inl py))), (aon, .inl (cZ, 256, .inl on)), (aen, .inl (cI, 256, .inl en)), (afi, .inl (cJ, 6, .inr (.inl fi))), (ase, .inl (cJ, 6, .inr (.inl se)))] := hD
      exact J37 1 hres ls _ _ (lv_sub hl [0, 1, 3, 5] rfl) hP hD hS
def km_side_k142 (x139 : Int32 × (Nat → Int64) × (Nat → Int64)) : Int32 × (Nat → Int64) × (Nat → Int64) := x139
def km_side (fi : Nat → Int64) (se : Nat → Int64) (ax : Int64) (ay : Int64) (bx : Int64) (bz : Int64) (cx : Int64) (cz : Int64) (dn : Int32) : Int32 × (Nat → Int64) × (Nat → Int64) := (if (lg_cmp ((ay - (2 * bz)) + cz) 0) = 0 then (km_sign ((((((ax - (2 * bx)) + cx) * ay) * ay) - (((2 * (bx - ax)) * (2 * (bz - ay))) * ay)) + ((ax * (2 * (bz - ay))) * (2 * (bz - ay)))), fi, se) else (km_side_k142 (km_so fi se (((2 * ((ay - (2 * bz)) + cz)) * ((((ay - (2 * bz)) + cz) * ax) - (((ax - (2 * bx)) + cx) * ay))) - (((((ay - (2 * bz)) + cz) * (2 * (bx - ax))) - (((ax - (2 * bx)) + cx) * (2 * (bz - ay)))) * (2 * (bz - ay)))) ((Int32.toInt64 dn) * ((((ay - (2 * bz)) + cz) * (2 * (bx - ax))) - (((ax - (2 * bx)) + cx) * (2 * (bz - ay))))) (((2 * (bz - ay)) * (2 * (bz - ay))) - ((4 * ((ay - (2 * bz)) + cz)) * ay)))))
set_option maxHeartbeats 4000000 in
set_option maxRecDepth 100000 in
theorem c_km_side (l : Launch) (dC : Nat → ClassId) (dI : Nat → Nat → Nat) (h0 : Nat) (apx : Nat) (apy : Nat) (aon : Nat) (aen : Nat) (afi : Nat) (ase : Nat) (cJ : ClassId) (cZ : ClassId) (cI : ClassId) (wd : Int32) (cn : Int32) (pn : Int32) (tc : Int32) (tn : Int32) (px : Nat → Int64) (py : Nat → Int64) (on : Nat → Int32) (en : Nat → Int32) (fi : Nat → Int64) (se : Nat → Int64) (ax : Int64) (ay : Int64) (bx : Int64) (bz : Int64) (cx : Int64) (cz : Int64) (dn : Int32)  : mc_i l y_M_side w_M_side { frames := 4, cells := 0, slots := 0, locals := 122 } (dC, dI) cls9 [(h0, .inr (2, [.int wd, .ref apx, .ref apy, .ref aon, .ref aen, .int cn, .int pn, .int tc, .int tn, .ref afi, .ref ase])), (apx, .inl (cJ, 256, .inr (.inl px))), (apy, .inl (cJ, 256, .inr (.inl py))), (aon, .inl (cZ, 256, .inl on)), (aen, .inl (cI, 256, .inl en)), (afi, .inl (cJ, 6, .inr (.inl fi))), (ase, .inl (cJ, 6, .inr (.inl se)))] [(h0, .inr (2, [.int wd, .ref apx, .ref apy, .ref aon, .ref aen, .int cn, .int pn, .int tc, .int tn, .ref afi, .ref ase])), (apx, .inl (cJ, 256, .inr (.inl px))), (apy, .inl (cJ, 256, .inr (.inl py))), (aon, .inl (cZ, 256, .inl on)), (aen, .inl (cI, 256, .inl en)), (afi, .inl (cJ, 6, .inr (.inl ((km_side fi se ax ay bx bz cx cz dn).2.1)))), (ase, .inl (cJ, 6, .inr (.inl ((km_side fi se ax ay bx bz cx cz dn).2.2))))] [(cJ, .long), (cZ, .boolean), (cI, .int)] [.ref h0, .long ax, .long ay, .long bx, .long bz, .long cx, .long cz, .int dn] ((km_side fi se ax ay bx bz cx cz dn).1) := by
  intro sz
  refine Met.ofW (cc := b_M_side) (maxL := 26) (ret := (some .int)) (by decide) rfl ?_
  intro p e s m args below meth c s₁ B hml hv
  obtain ⟨hargs, hsz, hP, hK, hD0⟩ := hv
  have hx := B.exec
  have hb := B.bytes
  have hr := B.returns
  have hts : ∀ w ∈ lw_w, w.before args s = true := fun w h => atoms_spec (ws := w_M_side) B.pre w (List.mem_cons_of_mem _ h)
  have hown : s.vm.findClass R_M = some m.cls := findClass_of_methodNamed B.named
  have hlocks := B.notSynchronized
  subst hsz
  have hD := hD0.self (sz := s.heap.size)
  generalize hR : (headSpec w_M_side { frames := 4, cells := 0, slots := 0, locals := 122 }).room = R
  generalize hAe : va_A [(h0, .inr (2, [.int wd, .ref apx, .ref apy, .ref aon, .ref aen, .int cn, .int pn, .int tc, .int tn, .ref afi, .ref ase])), (apx, .inl (cJ, 256, .inr (.inl px))), (apy, .inl (cJ, 256, .inr (.inl py))), (aon, .inl (cZ, 256, .inl on)), (aen, .inl (cI, 256, .inl en)), (afi, .inl (cJ, 6, .inr (.inl fi))), (ase, .inl (cJ, 6, .inr (.inl se)))] s.heap.size = A at hD ⊢
  have hA : ∀ q : Nat, s.heap.size ≤ q → A q := fun q h => by rw [← hAe]; exact Or.inr h
  have hS : va_S A s.heap s.heap [] := va_S.rf
  generalize hRES : km_side fi se ax ay bx bz cx cz dn = RES
  have hres := hRES
  have hl := lv_entry [.ref h0, .long ax, .long ay, .long bx, .long bz, .long cx, .long cz, .int dn] (n := 26) (Nat.le_of_ble_eq_true rfl)
  have hent : entryFrame m args 26 = F0 m 0 (lg_sl [.ref h0, .long ax, .long ay, .long bx, .long bz, .long cx, .long cz, .int dn] ++ List.replicate (26 - (lg_sl [.ref h0, .long ax, .long ay, .long bx, .long bz, .long cx, .long cz, .int dn]).length) Slot.unset).toArray [] := by rw [hargs]; exact lg_entry_eq m [.ref h0, .long ax, .long ay, .long bx, .long bz, .long cx, .long cz, .int dn] 26
  rw [hent]
  clear hent
  generalize (lg_sl [.ref h0, .long ax, .long ay, .long bx, .long bz, .long cx, .long cz, .int dn] ++ List.replicate (26 - (lg_sl [.ref h0, .long ax, .long ay, .long bx, .long bz, .long cx, .long cz, .int dn]).length) Slot.unset).toArray = ls at hl ⊢
  have hl : lv_has ls 26 [(0, .ref h0), (1, .long ax), (3, .long ay), (5, .long bx), (7, .long bz), (9, .long cx), (11, .long cz), (13, .int dn)] := hl
  have hP : va_P (dC, dI) cls9 [(h0, .inr (2, [.int wd, .ref apx, .ref apy, .ref aon, .ref aen, .int cn, .int pn, .int tc, .int tn, .ref afi, .ref ase])), (apx, .inl (cJ, 256, .inr (.inl px))), (apy, .inl (cJ, 256, .inr (.inl py))), (aon, .inl (cZ, 256, .inl on)), (aen, .inl (cI, 256, .inl en)), (afi, .inl (cJ, 6, .inr (.inl fi))), (ase, .inl (cJ, 6, .inr (.inl se)))] s.heap := hP
  have hD : va_D A [(h0, .inr (2, [.int wd, .ref apx, .ref apy, .ref aon, .ref aen, .int cn, .int pn, .int tc, .int tn, .ref afi, .ref ase])), (apx, .inl (cJ, 256, .inr (.inl px))), (apy, .inl (cJ, 256, .inr (.inl py))), (aon, .inl (cZ, 256, .inl on)), (aen, .inl (cI, 256, .inl en)), (afi, .inl (cJ, 6, .inr (.inl fi))), (ase, .inl (cJ, 6, .inr (.inl se)))] := hD
  clear hD0 hRES hAe
  unfold km_side at hres
  generalize hQ : MQ below (va_Qi (fun x (_ : Unit) => x = RES.1) (fun _ t => va_P (dC, dI) cls9 [(h0, .inr (2, [.int wd, .ref apx, .ref apy, .ref aon, .ref aen, .int cn, .int pn, .int tc, .int tn, .ref afi, .ref ase])), (apx, .inl (cJ, 256, .inr (.inl px))), (apy, .inl (cJ, 256, .inr (.inl py))), (aon, .inl (cZ, 256, .inl on)), (aen, .inl (cI, 256, .inl en)), (afi, .inl (cJ, 6, .inr (.inl RES.2.1))), (ase, .inl (cJ, 6, .inr (.inl RES.2.2)))] t.heap ∧ va_K (dC, dI) cls9 [(cJ, .long), (cZ, .boolean), (cI, .int)] t ∧ va_D A [(h0, .inr (2, [.int wd, .ref apx, .ref apy, .ref aon, .ref aen, .int cn, .int pn, .int tc, .int tn, .ref afi, .ref ase])), (apx, .inl (cJ, 256, .inr (.inl px))), (apy, .inl (cJ, 256, .inr (.inl py))), (aon, .inl (cZ, 256, .inl on)), (aen, .inl (cI, 256, .inl en)), (afi, .inl (cJ, 6, .inr (.inl RES.2.1))), (ase, .inl (cJ, 6, .inr (.inl RES.2.2)))]) A) args s 0 0 A = Q
  replace hQ := hQ.symm
  refine lv_lload_n hx hb d_M_side_0 rfl (lv_at hl 1 rfl) ?_
  refine lv_ldc2 (v := 2) hx hb hown (hts _ tw_321) d_M_side_1 ?_
  refine lv_lload hx hb d_M_side_4 (lv_at hl 3 rfl) ?_
  refine lv_lmul hx hb d_M_side_6 ?_
  refine lv_lsub hx hb d_M_side_7 ?_
  refine lv_lload hx hb d_M_side_8 (lv_at hl 5 rfl) ?_
  refine lv_ladd hx hb d_M_side_10 ?_
  refine lv_lstore (lv' := [(14, .long ((ax - (2 * bx)) + cx)), (0, .ref h0), (1, .long ax), (3, .long ay), (5, .long bx), (7, .long bz), (9, .long cx), (11, .long cz), (13, .int dn)]) hx hb d_M_side_11 hl (by decide) rfl (fun ls hl => ?_)
  refine lv_ldc2 (v := 2) hx hb hown (hts _ tw_321) d_M_side_13 ?_
  refine lv_lload hx hb d_M_side_16 (lv_at hl 4 rfl) ?_
  refine lv_lload_n hx hb d_M_side_18 rfl (lv_at hl 2 rfl) ?_
  refine lv_lsub hx hb d_M_side_19 ?_
  refine lv_lmul hx hb d_M_side_20 ?_
  refine lv_lstore (lv' := [(16, .long (2 * (bx - ax))), (14, .long ((ax - (2 * bx)) + cx)), (0, .ref h0), (1, .long ax), (3, .long ay), (5, .long bx), (7, .long bz), (9, .long cx), (11, .long cz), (13, .int dn)]) hx hb d_M_side_21 hl (by decide) rfl (fun ls hl => ?_)
  refine lv_lload_n hx hb d_M_side_23 rfl (lv_at hl 4 rfl) ?_
  refine lv_ldc2 (v := 2) hx hb hown (hts _ tw_321) d_M_side_24 ?_
  refine lv_lload hx hb d_M_side_27 (lv_at hl 6 rfl) ?_
  refine lv_lmul hx hb d_M_side_29 ?_
  refine lv_lsub hx hb d_M_side_30 ?_
  refine lv_lload hx hb d_M_side_31 (lv_at hl 8 rfl) ?_
  refine lv_ladd hx hb d_M_side_33 ?_
  refine lv_lstore (lv' := [(18, .long ((ay - (2 * bz)) + cz)), (16, .long (2 * (bx - ax))), (14, .long ((ax - (2 * bx)) + cx)), (0, .ref h0), (1, .long ax), (3, .long ay), (5, .long bx), (7, .long bz), (9, .long cx), (11, .long cz), (13, .int dn)]) hx hb d_M_side_34 hl (by decide) rfl (fun ls hl => ?_)
  refine lv_ldc2 (v := 2) hx hb hown (hts _ tw_321) d_M_side_36 ?_
  refine lv_lload hx hb d_M_side_39 (lv_at hl 7 rfl) ?_
  refine lv_lload_n hx hb d_M_side_41 rfl (lv_at hl 5 rfl) ?_
  refine lv_lsub hx hb d_M_side_42 ?_
  refine lv_lmul hx hb d_M_side_43 ?_
  refine lv_lstore (lv' := [(20, .long (2 * (bz - ay))), (18, .long ((ay - (2 * bz)) + cz)), (16, .long (2 * (bx - ax))), (14, .long ((ax - (2 * bx)) + cx)), (0, .ref h0), (1, .long ax), (3, .long ay), (5, .long bx), (7, .long bz), (9, .long cx), (11, .long cz), (13, .int dn)]) hx hb d_M_side_44 hl (by decide) rfl (fun ls hl => ?_)
  refine lv_lload hx hb d_M_side_46 (lv_at hl 1 rfl) ?_
  refine lv_lconst (v := 0) hx hb d_M_side_48 (by decide) ?_
  refine W.lcmp hx hb d_M_side_49 ?_
  refine lv_if_ne (tgt := 79) hx hb d_M_side_50 rfl (fun h50 => ?_) (fun h50 => ?_)
  · rw [if_neg h50] at hres
    refine lv_lload hx hb d_M_side_79 (lv_at hl 1 rfl) ?_
    refine lv_lload hx hb d_M_side_81 (lv_at hl 2 rfl) ?_
    refine lv_lmul hx hb d_M_side_83 ?_
    refine lv_lload hx hb d_M_side_84 (lv_at hl 3 rfl) ?_
    refine lv_lload hx hb d_M_side_86 (lv_at hl 0 rfl) ?_
    refine lv_lmul hx hb d_M_side_88 ?_
    refine lv_lsub hx hb d_M_side_89 ?_
    refine lv_lstore (lv' := [(22, .long ((((ay - (2 * bz)) + cz) * (2 * (bx - ax))) - (((ax - (2 * bx)) + cx) * (2 * (bz - ay))))), (20, .long (2 * (bz - ay))), (18, .long ((ay - (2 * bz)) + cz)), (16, .long (2 * (bx - ax))), (14, .long ((ax - (2 * bx)) + cx)), (0, .ref h0), (1, .long ax), (3, .long ay), (5, .long bx), (7, .long bz), (9, .long cx), (11, .long cz), (13, .int dn)]) hx hb d_M_side_90 hl (by decide) rfl (fun ls hl => ?_)
    refine lv_lload hx hb d_M_side_92 (lv_at hl 2 rfl) ?_
    refine lv_lload_n hx hb d_M_side_94 rfl (lv_at hl 6 rfl) ?_
    refine lv_lmul hx hb d_M_side_95 ?_
    refine lv_lload hx hb d_M_side_96 (lv_at hl 4 rfl) ?_
    refine lv_lload_n hx hb d_M_side_98 rfl (lv_at hl 7 rfl) ?_
    refine lv_lmul hx hb d_M_side_99 ?_
    refine lv_lsub hx hb d_M_side_100 ?_
    refine lv_lstore (lv' := [(24, .long ((((ay - (2 * bz)) + cz) * ax) - (((ax - (2 * bx)) + cx) * ay))), (22, .long ((((ay - (2 * bz)) + cz) * (2 * (bx - ax))) - (((ax - (2 * bx)) + cx) * (2 * (bz - ay))))), (20, .long (2 * (bz - ay))), (18, .long ((ay - (2 * bz)) + cz)), (16, .long (2 * (bx - ax))), (14, .long ((ax - (2 * bx)) + cx)), (0, .ref h0), (1, .long ax), (3, .long ay), (5, .long bx), (7, .long bz), (9, .long cx), (11, .long cz), (13, .int dn)]) hx hb d_M_side_101 hl (by decide) rfl (fun ls hl => ?_)
    refine lv_aload_n hx hb d_M_side_103 rfl (lv_at hl 6 rfl) ?_
    refine lv_ldc2 (v := 2) hx hb hown (hts _ tw_321) d_M_side_104 ?_
    refine lv_lload hx hb d_M_side_107 (lv_at hl 3 rfl) ?_
    refine lv_lmul hx hb d_M_side_109 ?_
    refine lv_lload hx hb d_M_side_110 (lv_at hl 0 rfl) ?_
    refine lv_lmul hx hb d_M_side_112 ?_
    refine lv_lload hx hb d_M_side_113 (lv_at hl 1 rfl) ?_
    refine lv_lload hx hb d_M_side_115 (lv_at hl 2 rfl) ?_
    refine lv_lmul hx hb d_M_side_117 ?_
    refine lv_lsub hx hb d_M_side_118 ?_
    refine lv_iload hx hb d_M_side_119 (lv_at hl 13 rfl) ?_
    refine lv_i2l (v := Int32.toInt64 dn) hx hb d_M_side_121 rfl ?_
    refine lv_lload hx hb d_M_side_122 (lv_at hl 1 rfl) ?_
    refine lv_lmul hx hb d_M_side_124 ?_
    refine lv_lload hx hb d_M_side_125 (lv_at hl 2 rfl) ?_
    refine lv_lload hx hb d_M_side_127 (lv_at hl 2 rfl) ?_
    refine lv_lmul hx hb d_M_side_129 ?_
    refine lv_ldc2 (v := 4) hx hb hown (hts _ tw_375) d_M_side_130 ?_
    refine lv_lload hx hb d_M_side_133 (lv_at hl 3 rfl) ?_
    refine lv_lmul hx hb d_M_side_135 ?_
    refine lv_lload_n hx hb d_M_side_136 rfl (lv_at hl 8 rfl) ?_
    refine lv_lmul hx hb d_M_side_137 ?_
    refine lv_lsub hx hb d_M_side_138 ?_
    refine cm_i (wc := [(h0, .inr (2, [.int wd, .ref apx, .ref apy, .ref aon, .ref aen, .int cn, .int pn, .int tc, .int tn, .ref afi, .ref ase])), (apx, .inl (cJ, 256, .inr (.inl px))), (apy, .inl (cJ, 256, .inr (.inl py))), (aon, .inl (cZ, 256, .inl on)), (aen, .inl (cI, 256, .inl en)), (afi, .inl (cJ, 6, .inr (.inl fi))), (ase, .inl (cJ, 6, .inr (.inl se)))]) (wr := []) (W1 := [(h0, .inr (2, [.int wd, .ref apx, .ref apy, .ref aon, .ref aen, .int cn, .int pn, .int tc, .int tn, .ref afi, .ref ase])), (apx, .inl (cJ, 256, .inr (.inl px))), (apy, .inl (cJ, 256, .inr (.inl py))), (aon, .inl (cZ, 256, .inl on)), (aen, .inl (cI, 256, .inl en)), (afi, .inl (cJ, 6, .inr (.inl ((km_so fi se (((2 * ((ay - (2 * bz)) + cz)) * ((((ay - (2 * bz)) + cz) * ax) - (((ax - (2 * bx)) + cx) * ay))) - (((((ay - (2 * bz)) + cz) * (2 * (bx - ax))) - (((ax - (2 * bx)) + cx) * (2 * (bz - ay)))) * (2 * (bz - ay)))) ((Int32.toInt64 dn) * ((((ay - (2 * bz)) + cz) * (2 * (bx - ax))) - (((ax - (2 * bx)) + cx) * (2 * (bz - ay))))) (((2 * (bz - ay)) * (2 * (bz - ay))) - ((4 * ((ay - (2 * bz)) + cz)) * ay))).2.1)))), (ase, .inl (cJ, 6, .inr (.inl ((km_so fi se (((2 * ((ay - (2 * bz)) + cz)) * ((((ay - (2 * bz)) + cz) * ax) - (((ax - (2 * bx)) + cx) * ay))) - (((((ay - (2 * bz)) + cz) * (2 * (bx - ax))) - (((ax - (2 * bx)) + cx) * (2 * (bz - ay)))) * (2 * (bz - ay)))) ((Int32.toInt64 dn) * ((((ay - (2 * bz)) + cz) * (2 * (bx - ax))) - (((ax - (2 * bx)) + cx) * (2 * (bz - ay))))) (((2 * (bz - ay)) * (2 * (bz - ay))) - ((4 * ((ay - (2 * bz)) + cz)) * ay))).2.2))))]) (w2 := [(h0, .inr (2, [.int wd, .ref apx, .ref apy, .ref aon, .ref aen, .int cn, .int pn, .int tc, .int tn, .ref afi, .ref ase])), (apx, .inl (cJ, 256, .inr (.inl px))), (apy, .inl (cJ, 256, .inr (.inl py))), (aon, .inl (cZ, 256, .inl on)), (aen, .inl (cI, 256, .inl en)), (afi, .inl (cJ, 6, .inr (.inl ((km_so fi se (((2 * ((ay - (2 * bz)) + cz)) * ((((ay - (2 * bz)) + cz) * ax) - (((ax - (2 * bx)) + cx) * ay))) - (((((ay - (2 * bz)) + cz) * (2 * (bx - ax))) - (((ax - (2 * bx)) + cx) * (2 * (bz - ay)))) * (2 * (bz - ay)))) ((Int32.toInt64 dn) * ((((ay - (2 * bz)) + cz) * (2 * (bx - ax))) - (((ax - (2 * bx)) + cx) * (2 * (bz - ay))))) (((2 * (bz - ay)) * (2 * (bz - ay))) - ((4 * ((ay - (2 * bz)) + cz)) * ay))).2.1)))), (ase, .inl (cJ, 6, .inr (.inl ((km_so fi se (((2 * ((ay - (2 * bz)) + cz)) * ((((ay - (2 * bz)) + cz) * ax) - (((ax - (2 * bx)) + cx) * ay))) - (((((ay - (2 * bz)) + cz) * (2 * (bx - ax))) - (((ax - (2 * bx)) + cx) * (2 * (bz - ay)))) * (2 * (bz - ay)))) ((Int32.toInt64 dn) * ((((ay - (2 * bz)) + cz) * (2 * (bx - ax))) - (((ax - (2 * bx)) + cx) * (2 * (bz - ay))))) (((2 * (bz - ay)) * (2 * (bz - ay))) - ((4 * ((ay - (2 * bz)) + cz)) * ay))).2.2))))]) (va_runV (g := F0 m 139 ls [.long (((2 * (bz - ay)) * (2 * (bz - ay))) - ((4 * ((ay - (2 * bz)) + cz)) * ay)), .long ((Int32.toInt64 dn) * ((((ay - (2 * bz)) + cz) * (2 * (bx - ax))) - (((ax - (2 * bx)) + cx) * (2 * (bz - ay))))), .long (((2 * ((ay - (2 * bz)) + cz)) * ((((ay - (2 * bz)) + cz) * ax) - (((ax - (2 * bx)) + cx) * ay))) - (((((ay - (2 * bz)) + cz) * (2 * (bx - ax))) - (((ax - (2 * bx)) + cx) * (2 * (bz - ay)))) * (2 * (bz - ay)))), .ref h0]) (As := [.long (((2 * ((ay - (2 * bz)) + cz)) * ((((ay - (2 * bz)) + cz) * ax) - (((ax - (2 * bx)) + cx) * ay))) - (((((ay - (2 * bz)) + cz) * (2 * (bx - ax))) - (((ax - (2 * bx)) + cx) * (2 * (bz - ay)))) * (2 * (bz - ay)))), .long ((Int32.toInt64 dn) * ((((ay - (2 * bz)) + cz) * (2 * (bx - ax))) - (((ax - (2 * bx)) + cx) * (2 * (bz - ay))))), .long (((2 * (bz - ay)) * (2 * (bz - ay))) - ((4 * ((ay - (2 * bz)) + cz)) * ay))]) (rest := []) ⟨hx, hb, hml, hown, hts⟩ (c_km_so l dC dI h0 apx apy aon aen afi ase cJ cZ cI wd cn pn tc tn px py on en fi se (((2 * ((ay - (2 * bz)) + cz)) * ((((ay - (2 * bz)) + cz) * ax) - (((ax - (2 * bx)) + cx) * ay))) - (((((ay - (2 * bz)) + cz) * (2 * (bx - ax))) - (((ax - (2 * bx)) + cx) * (2 * (bz - ay)))) * (2 * (bz - ay)))) ((Int32.toInt64 dn) * ((((ay - (2 * bz)) + cz) * (2 * (bx - ax))) - (((ax - (2 * bx)) + cx) * (2 * (bz - ay))))) (((2 * (bz - ay)) * (2 * (bz - ay))) - ((4 * ((ay - (2 * bz)) + cz)) * ay))  _) (cwV 3 hts (gi_V tw_380 tw_382 ts_17 tw_6 tw_383) rfl rfl rfl (by decide +kernel) ⟨(by rw [← hR]; exact Nat.le_of_ble_eq_true rfl), (by rw [← hR]; exact Nat.le_of_ble_eq_true rfl)⟩) ⟨mc_blind, va_recv (ci := 2) (q := (R_M, F_M, 11)) hK hP rfl (q0 := 0) rfl, mc_pre (hP.sub [0, 1, 2, 3, 4, 5, 6] rfl) (hK.sub [0, 1, 2] rfl) (hD.sub [0, 1, 2, 3, 4, 5, 6] (by decide) rfl)⟩ rfl rfl hl.1 rfl (lv_room (Nat.le_of_ble_eq_true rfl)) d_M_side_139 ⟨Nat.zero_le _, Nat.zero_le _⟩) hP hD hS hA [0, 1, 2, 3, 4, 5, 6] [] [0, 1, 2, 3, 4, 5, 6] rfl rfl (by decide) (by decide) rfl rfl (by decide) (fun H locs hP hD hS => ?_)
    have K142 : ∀ (x139 : Int32 × (Nat → Int64) × (Nat → Int64)), km_side_k142 x139 = RES → ∀ (ls : Array Slot) (H : Heap) (locs : List Loc), lv_has ls 26 [(24, .long ((((ay - (2 * bz)) + cz) * ax) - (((ax - (2 * bx)) + cx) * ay))), (22, .long ((((ay - (2 * bz)) + cz) * (2 * (bx - ax))) - (((ax - (2 * bx)) + cx) * (2 * (bz - ay))))), (20, .long (2 * (bz - ay))), (18, .long ((ay - (2 * bz)) + cz)), (16, .long (2 * (bx - ax))), (14, .long ((ax - (2 * bx)) + cx)), (0, .ref h0), (1, .long ax), (3, .long ay), (5, .long bx), (7, .long bz), (9, .long cx), (11, .long cz), (13, .int dn)] → va_P (dC, dI) cls9 [(h0, .inr (2, [.int wd, .ref apx, .ref apy, .ref aon, .ref aen, .int cn, .int pn, .int tc, .int tn, .ref afi, .ref ase])), (apx, .inl (cJ, 256, .inr (.inl px))), (apy, .inl (cJ, 256, .inr (.inl py))), (aon, .inl (cZ, 256, .inl on)), (aen, .inl (cI, 256, .inl en)), (afi, .inl (cJ, 6, .inr (.inl x139.2.1))), (ase, .inl (cJ, 6, .inr (.inl x139.2.2)))] H → va_D A [(h0, .inr (2, [.int wd, .ref apx, .ref apy, .ref aon, .ref aen, .int cn, .int pn, .int tc, .int tn, .ref afi, .ref ase])), (apx, .inl (cJ, 256, .inr (.inl px))), (apy, .inl (cJ, 256, .inr (.inl py))), (aon, .inl (cZ, 256, .inl on)), (aen, .inl (cI, 256, .inl en)), (afi, .inl (cJ, 6, .inr (.inl x139.2.1))), (ase, .inl (cJ, 6, .inr (.inl x139.2.2)))] → va_S A s.heap H locs → W p l e R s m args below meth c H locs 0 0 Q (F0 m 142 ls [.int x139.1]) := by
      intro x139 hres ls H locs hl hP hD hS
      unfold km_side_k142 at hres
      rw [hQ]
      subst hres
      exact W.iret (v := x139.1) hx hb hr (fun t ht hW => ⟨⟨_, (), rfl, rfl, ⟨by rw [ht]; exact hP, va_K.moved hW.alike hK, hD⟩⟩, hS.F ht⟩) hS.2.2 d_M_side_142
    exact K142 (km_so fi se (((2 * ((ay - (2 * bz)) + cz)) * ((((ay - (2 * bz)) + cz) * ax) - (((ax - (2 * bx)) + cx) * ay))) - (((((ay - (2 * bz)) + cz) * (2 * (bx - ax))) - (((ax - (2 * bx)) + cx) * (2 * (bz - ay)))) * (2 * (bz - ay)))) ((Int32.toInt64 dn) * ((((ay - (2 * bz)) + cz) * (2 * (bx - ax))) - (((ax - (2 * bx)) + cx) * (2 * (bz - ay))))) (((2 * (bz - ay)) * (2 * (bz - ay))) - ((4 * ((ay - (2 * bz)) + cz)) * ay))) hres ls _ _ (lv_sub hl [0, 1, 2, 3, 4, 5, 6, 7, 8, 9, 10, 11, 12, 13] rfl) hP hD hS
  · rw [if_pos h50] at hres
    refine lv_lload hx hb d_M_side_53 (lv_at hl 3 rfl) ?_
    refine lv_lload_n hx hb d_M_side_55 rfl (lv_at hl 6 rfl) ?_
    refine lv_lmul hx hb d_M_side_56 ?_
    refine lv_lload_n hx hb d_M_side_57 rfl (lv_at hl 6 rfl) ?_
    refine lv_lmul hx hb d_M_side_58 ?_
    refine lv_lload hx hb d_M_side_59 (lv_at hl 2 rfl) ?_
    refine lv_lload hx hb d_M_side_61 (lv_at hl 0 rfl) ?_
    refine lv_lmul hx hb d_M_side_63 ?_
    refine lv_lload_n hx hb d_M_side_64 rfl (lv_at hl 6 rfl) ?_
    refine lv_lmul hx hb d_M_side_65 ?_
    refine lv_lsub hx hb d_M_side_66 ?_
    refine lv_lload_n hx hb d_M_side_67 rfl (lv_at hl 5 rfl) ?_
    refine lv_lload hx hb d_M_side_68 (lv_at hl 0 rfl) ?_
    refine lv_lmul hx hb d_M_side_70 ?_
    refine lv_lload hx hb d_M_side_71 (lv_at hl 0 rfl) ?_
    refine lv_lmul hx hb d_M_side_73 ?_
    refine lv_ladd hx hb d_M_side_74 ?_
    refine cq_Si (As := [.long ((((((ax - (2 * bx)) + cx) * ay) * ay) - (((2 * (bx - ax)) * (2 * (bz - ay))) * ay)) + ((ax * (2 * (bz - ay))) * (2 * (bz - ay))))]) (rest := []) ⟨hx, hb, hml, hown, hts⟩ (c_km_sign l dC dI ((((((ax - (2 * bx)) + cx) * ay) * ay) - (((2 * (bx - ax)) * (2 * (bz - ay))) * ay)) + ((ax * (2 * (bz - ay))) * (2 * (bz - ay))))) (va_cwS 1 hts (gi_S tw_350 tw_351 tw_6 tw_352) rfl rfl rfl (by decide +kernel) ⟨(by rw [← hR]; exact Nat.le_of_ble_eq_true rfl), (by rw [← hR]; exact Nat.le_of_ble_eq_true rfl)⟩) rfl rfl hl.1 (Nat.le_of_ble_eq_true rfl) d_M_side_75 ⟨Nat.zero_le _, Nat.zero_le _⟩ hP hS hA (fun H locs hP hS => ?_)
    rw [hQ]
    subst hres
    exact W.iret (v := km_sign ((((((ax - (2 * bx)) + cx) * ay) * ay) - (((2 * (bx - ax)) * (2 * (bz - ay))) * ay)) + ((ax * (2 * (bz - ay))) * (2 * (bz - ay))))) hx hb hr (fun t ht hW => ⟨⟨_, (), rfl, rfl, ⟨by rw [ht]; exact hP, va_K.moved hW.alike hK, hD⟩⟩, hS.F ht⟩) hS.2.2 d_M_side_78
end
section
def km_curve_j447 (t447_0 : Nat → Int64) (t447_1 : Nat → Int64) (t447_2 : Int32) (t447_3 : Int32) : Int32 × Int32 × (Nat → Int64) × (Nat → Int64) := (t447_2, t447_3, t447_0, t447_1)
def km_curve_k447 (x441 : Int32 × (Nat → Int64) × (Nat → Int64)) (x444 : Int32 × Int32) : Int32 × Int32 × (Nat → Int64) × (Nat → Int64) := (km_curve_j447 x441.2.1 x441.2.2 x444.1 x444.2)
def km_curve_k444 (t274_0 : Int32) (x404 : Int32 × Int32) (t418_0 : Int32) (x441 : Int32 × (Nat → Int64) × (Nat → Int64)) : Int32 × Int32 × (Nat → Int64) × (Nat → Int64) := (km_curve_k447 x441 (km_cross x404.1 x404.2 t418_0 t274_0 x441.1))
def km_curve_j441 (ax : Int64) (ay : Int64) (bx : Int64) (bz : Int64) (cx : Int64) (cz : Int64) (t274_0 : Int32) (x401 : Int32 × (Nat → Int64) × (Nat → Int64)) (x404 : Int32 × Int32) (t418_0 : Int32) (t441_0 : Int32) : Int32 × Int32 × (Nat → Int64) × (Nat → Int64) := (km_curve_k444 t274_0 x404 t418_0 (km_side x401.2.1 x401.2.2 ax ay bx bz cx cz t441_0))
def km_curve_j418 (ax : Int64) (ay : Int64) (bx : Int64) (bz : Int64) (cx : Int64) (cz : Int64) (t274_0 : Int32) (x401 : Int32 × (Nat → Int64) × (Nat → Int64)) (x404 : Int32 × Int32) (t418_0 : Int32) : Int32 × Int32 × (Nat → Int64) × (Nat → Int64) := (if t274_0 = 0 then (km_curve_j441 ax ay bx bz cx cz t274_0 x401 x404 t418_0 (-1)) else (km_curve_j441 ax ay bx bz cx cz t274_0 x401 x404 t418_0 1))
def km_curve_k407 (ax : Int64) (ay : Int64) (bx : Int64) (bz : Int64) (cx : Int64) (cz : Int64) (t274_0 : Int32) (x401 : Int32 × (Nat → Int64) × (Nat → Int64)) (x404 : Int32 × Int32) : Int32 × Int32 × (Nat → Int64) × (Nat → Int64) := (if t274_0 = 0 then (km_curve_j418 ax ay bx bz cx cz t274_0 x401 x404 1) else (km_curve_j418 ax ay bx bz cx cz t274_0 x401 x404 0))
def km_curve_k404 (tn : Int32) (ax : Int64) (ay : Int64) (bx : Int64) (bz : Int64) (cx : Int64) (cz : Int64) (t255_2 : Int32) (t274_0 : Int32) (t380_0 : Int32) (x401 : Int32 × (Nat → Int64) × (Nat → Int64)) : Int32 × Int32 × (Nat → Int64) × (Nat → Int64) := (km_curve_k407 ax ay bx bz cx cz t274_0 x401 (km_cross t255_2 tn t274_0 t380_0 x401.1))
def km_curve_j401 (tn : Int32) (ax : Int64) (ay : Int64) (bx : Int64) (bz : Int64) (cx : Int64) (cz : Int64) (t255_0 : Nat → Int64) (t255_1 : Nat → Int64) (t255_2 : Int32) (t274_0 : Int32) (t380_0 : Int32) (t401_0 : Int32) : Int32 × Int32 × (Nat → Int64) × (Nat → Int64) := (km_curve_k404 tn ax ay bx bz cx cz t255_2 t274_0 t380_0 (km_side t255_0 t255_1 ax ay bx bz cx cz t401_0))
def km_curve_j380 (tn : Int32) (ax : Int64) (ay : Int64) (bx : Int64) (bz : Int64) (cx : Int64) (cz : Int64) (t255_0 : Nat → Int64) (t255_1 : Nat → Int64) (t255_2 : Int32) (t274_0 : Int32) (t380_0 : Int32) : Int32 × Int32 × (Nat → Int64) × (Nat → Int64) := (if t274_0 = 0 then (km_curve_j401 tn ax ay bx bz cx cz t255_0 t255_1 t255_2 t274_0 t380_0 1) else (km_curve_j401 tn ax ay bx bz cx cz t255_0 t255_1 t255_2 t274_0 t380_0 (-1)))
def km_curve_j354 (tn : Int32) (ax : Int64) (ay : Int64) (bx : Int64) (bz : Int64) (cx : Int64) (cz : Int64) (t255_0 : Nat → Int64) (t255_1 : Nat → Int64) (t255_2 : Int32) (t274_0 : Int32) : Int32 × Int32 × (Nat → Int64) × (Nat → Int64) := (if (lg_cmp (bz * bz) (ay * cz)) ≤ 0 then (km_curve_j447 t255_0 t255_1 t255_2 tn) else (if t274_0 = 0 then (km_curve_j380 tn ax ay bx bz cx cz t255_0 t255_1 t255_2 t274_0 1) else (km_curve_j380 tn ax ay bx bz cx cz t255_0 t255_1 t255_2 t274_0 0)))
def km_curve_k329 (x323 : Int32 × (Nat → Int64) × (Nat → Int64)) (x326 : Int32 × Int32) : Int32 × Int32 × (Nat → Int64) × (Nat → Int64) := (km_curve_j447 x323.2.1 x323.2.2 x326.1 x326.2)
def km_curve_k326 (tn : Int32) (t255_2 : Int32) (t274_0 : Int32) (t288_0 : Int32) (x323 : Int32 × (Nat → Int64) × (Nat → Int64)) : Int32 × Int32 × (Nat → Int64) × (Nat → Int64) := (km_curve_k329 x323 (km_cross t255_2 tn t274_0 t288_0 x323.1))
def km_curve_j323 (tn : Int32) (ax : Int64) (ay : Int64) (bx : Int64) (bz : Int64) (cx : Int64) (cz : Int64) (t255_0 : Nat → Int64) (t255_1 : Nat → Int64) (t255_2 : Int32) (t274_0 : Int32) (t288_0 : Int32) (t323_0 : Int32) : Int32 × Int32 × (Nat → Int64) × (Nat → Int64) := (km_curve_k326 tn t255_2 t274_0 t288_0 (km_side t255_0 t255_1 ax ay bx bz cx cz t323_0))
def km_curve_j288 (tn : Int32) (ax : Int64) (ay : Int64) (bx : Int64) (bz : Int64) (cx : Int64) (cz : Int64) (t255_0 : Nat → Int64) (t255_1 : Nat → Int64) (t255_2 : Int32) (t274_0 : Int32) (t288_0 : Int32) : Int32 × Int32 × (Nat → Int64) × (Nat → Int64) := (if t274_0 = t288_0 then (if t274_0 = 0 then (if (lg_cmp bz 0) ≤ 0 then (km_curve_j447 t255_0 t255_1 t255_2 tn) else (km_curve_j354 tn ax ay bx bz cx cz t255_0 t255_1 t255_2 t274_0)) else (if 0 ≤ (lg_cmp bz 0) then (km_curve_j447 t255_0 t255_1 t255_2 tn) else (km_curve_j354 tn ax ay bx bz cx cz t255_0 t255_1 t255_2 t274_0))) else (if t288_0 = 0 then (km_curve_j323 tn ax ay bx bz cx cz t255_0 t255_1 t255_2 t274_0 t288_0 (-1)) else (km_curve_j323 tn ax ay bx bz cx cz t255_0 t255_1 t255_2 t274_0 t288_0 1)))
def km_curve_j274 (tn : Int32) (ax : Int64) (ay : Int64) (bx : Int64) (bz : Int64) (cx : Int64) (cz : Int64) (t255_0 : Nat → Int64) (t255_1 : Nat → Int64) (t255_2 : Int32) (t274_0 : Int32) : Int32 × Int32 × (Nat → Int64) × (Nat → Int64) := (if (lg_cmp cz 0) < 0 then (km_curve_j288 tn ax ay bx bz cx cz t255_0 t255_1 t255_2 t274_0 0) else (km_curve_j288 tn ax ay bx bz cx cz t255_0 t255_1 t255_2 t274_0 1))
def km_curve_j255 (tn : Int32) (ax : Int64) (ay : Int64) (bx : Int64) (bz : Int64) (cx : Int64) (cz : Int64) (t255_0 : Nat → Int64) (t255_1 : Nat → Int64) (t255_2 : Int32) : Int32 × Int32 × (Nat → Int64) × (Nat → Int64) := (if t255_2 = 0 then (if (lg_cmp ay 0) < 0 then (km_curve_j274 tn ax ay bx bz cx cz t255_0 t255_1 t255_2 0) else (km_curve_j274 tn ax ay bx bz cx cz t255_0 t255_1 t255_2 1)) else (t255_2, tn, t255_0, t255_1))
def km_curve_k247 (tc : Int32) (tn : Int32) (ax : Int64) (ay : Int64) (bx : Int64) (bz : Int64) (cx : Int64) (cz : Int64) (x244 : Int32 × (Nat → Int64) × (Nat → Int64)) : Int32 × Int32 × (Nat → Int64) × (Nat → Int64) := (if x244.1 = 0 then (km_curve_j255 tn ax ay bx bz cx cz x244.2.1 x244.2.2 tc) else (km_curve_j255 tn ax ay bx bz cx cz x244.2.1 x244.2.2 1))
def km_curve_j182 (tn : Int32) (fi : Nat → Int64) (se : Nat → Int64) (ax : Int64) (ay : Int64) (bx : Int64) (bz : Int64) (cx : Int64) (cz : Int64) (t182_0 : Int32) : Int32 × Int32 × (Nat → Int64) × (Nat → Int64) := (km_curve_j255 tn ax ay bx bz cx cz fi se t182_0)
def km_curve_j100 (tc : Int32) (tn : Int32) (fi : Nat → Int64) (se : Nat → Int64) (ax : Int64) (ay : Int64) (bx : Int64) (bz : Int64) (cx : Int64) (cz : Int64) (t72_0 : Int32) (t100_0 : Int32) : Int32 × Int32 × (Nat → Int64) × (Nat → Int64) := (if t72_0 = 0 then (if (lg_cmp ay bz) = 0 then (if (lg_cmp bz cz) = 0 then (if (lg_cmp ax 0) = 0 then (if (lg_cmp ay 0) = 0 then (km_curve_j182 tn fi se ax ay bx bz cx cz 1) else (km_curve_j182 tn fi se ax ay bx bz cx cz tc)) else (km_curve_j182 tn fi se ax ay bx bz cx cz tc)) else (if t100_0 = 0 then (km_curve_j182 tn fi se ax ay bx bz cx cz tc) else (if t72_0 = 0 then (if (km_zero ay bz cz) = 0 then (km_curve_j182 tn fi se ax ay bx bz cx cz tc) else (km_curve_j182 tn fi se ax ay bx bz cx cz 1)) else (if (km_zero ax bx cx) = 0 then (km_curve_j182 tn fi se ax ay bx bz cx cz tc) else (km_curve_j182 tn fi se ax ay bx bz cx cz 1))))) else (if t100_0 = 0 then (km_curve_j182 tn fi se ax ay bx bz cx cz tc) else (if t72_0 = 0 then (if (km_zero ay bz cz) = 0 then (km_curve_j182 tn fi se ax ay bx bz cx cz tc) else (km_curve_j182 tn fi se ax ay bx bz cx cz 1)) else (if (km_zero ax bx cx) = 0 then (km_curve_j182 tn fi se ax ay bx bz cx cz tc) else (km_curve_j182 tn fi se ax ay bx bz cx cz 1))))) else (if t100_0 = 0 then (km_curve_j182 tn fi se ax ay bx bz cx cz tc) else (if t72_0 = 0 then (if (km_zero ay bz cz) = 0 then (km_curve_j182 tn fi se ax ay bx bz cx cz tc) else (km_curve_j182 tn fi se ax ay bx bz cx cz 1)) else (if (km_zero ax bx cx) = 0 then (km_curve_j182 tn fi se ax ay bx bz cx cz tc) else (km_curve_j182 tn fi se ax ay bx bz cx cz 1)))))
def km_curve_j72 (tc : Int32) (tn : Int32) (fi : Nat → Int64) (se : Nat → Int64) (ax : Int64) (ay : Int64) (bx : Int64) (bz : Int64) (cx : Int64) (cz : Int64) (v45_l13 : Int64) (v45_l15 : Int64) (v45_l17 : Int64) (t72_0 : Int32) : Int32 × Int32 × (Nat → Int64) × (Nat → Int64) := (if (lg_cmp v45_l13 0) = 0 then (if (lg_cmp v45_l15 0) = 0 then (if (lg_cmp v45_l17 0) = 0 then (km_curve_j100 tc tn fi se ax ay bx bz cx cz t72_0 1) else (km_curve_j100 tc tn fi se ax ay bx bz cx cz t72_0 0)) else (km_curve_j100 tc tn fi se ax ay bx bz cx cz t72_0 0)) else (km_curve_j100 tc tn fi se ax ay bx bz cx cz t72_0 0))
def km_curve_k45 (tc : Int32) (tn : Int32) (fi : Nat → Int64) (se : Nat → Int64) (ax : Int64) (ay : Int64) (bx : Int64) (bz : Int64) (cx : Int64) (cz : Int64) (v45_l13 : Int64) (v45_l15 : Int64) (v45_l17 : Int64) (v45_l19 : Int64) : Int32 × Int32 × (Nat → Int64) × (Nat → Int64) := (if (lg_cmp v45_l19 0) = 0 then (if (lg_cmp ax bx) = 0 then (if (lg_cmp bx cx) = 0 then (km_curve_j72 tc tn fi se ax ay bx bz cx cz v45_l13 v45_l15 v45_l17 0) else (km_curve_j72 tc tn fi se ax ay bx bz cx cz v45_l13 v45_l15 v45_l17 1)) else (km_curve_j72 tc tn fi se ax ay bx bz cx cz v45_l13 v45_l15 v45_l17 1)) else (if (lg_cmp ((Int32.toInt64 (km_sign v45_l19)) * v45_l13) 0) < 0 then (km_curve_j255 tn ax ay bx bz cx cz fi se tc) else (if (lg_cmp ((Int32.toInt64 (km_sign v45_l19)) * v45_l15) 0) < 0 then (km_curve_j255 tn ax ay bx bz cx cz fi se tc) else (if (lg_cmp ((Int32.toInt64 (km_sign v45_l19)) * v45_l17) 0) < 0 then (km_curve_j255 tn ax ay bx bz cx cz fi se tc) else (km_curve_k247 tc tn ax ay bx bz cx cz (km_thr fi se ((Int32.toInt64 (km_sign v45_l19)) * v45_l13) ((Int32.toInt64 (km_sign v45_l19)) * v45_l15) ((Int32.toInt64 (km_sign v45_l19)) * v45_l17)))))))
def km_curve (tc : Int32) (tn : Int32) (fi : Nat → Int64) (se : Nat → Int64) (ax : Int64) (ay : Int64) (bx : Int64) (bz : Int64) (cx : Int64) (cz : Int64) : Int32 × Int32 × (Nat → Int64) × (Nat → Int64) := (km_curve_k45 tc tn fi se ax ay bx bz cx cz ((bx * cz) - (cx * bz)) ((cx * ay) - (ax * cz)) ((ax * bz) - (bx * ay)) ((((bx * cz) - (cx * bz)) + ((cx * ay) - (ax * cz))) + ((ax * bz) - (bx * ay))))
set_option maxHeartbeats 4000000 in
set_option maxRecDepth 100000 in
theorem c_km_curve (l : Launch) (dC : Nat → ClassId) (dI : Nat → Nat → Nat) (h0 : Nat) (apx : Nat) (apy : Nat) (aon : Nat) (aen : Nat) (afi : Nat) (ase : Nat) (cJ : ClassId) (cZ : ClassId) (cI : ClassId) (wd : Int32) (cn : Int32) (pn : Int32) (px : Nat → Int64) (py : Nat → Int64) (on : Nat → Int32) (en : Nat → Int32) (tc : Int32) (tn : Int32) (fi : Nat → Int64) (se : Nat → Int64) (ax : Int64) (ay : Int64) (bx : Int64) (bz : Int64) (cx : Int64) (cz : Int64)  : mc_v l y_M_curve w_M_curve { frames := 5, cells := 0, slots := 0, locals := 167 } (dC, dI) cls9 [(h0, .inr (2, [.int wd, .ref apx, .ref apy, .ref aon, .ref aen, .int cn, .int pn, .int tc, .int tn, .ref afi, .ref ase])), (apx, .inl (cJ, 256, .inr (.inl px))), (apy, .inl (cJ, 256, .inr (.inl py))), (aon, .inl (cZ, 256, .inl on)), (aen, .inl (cI, 256, .inl en)), (afi, .inl (cJ, 6, .inr (.inl fi))), (ase, .inl (cJ, 6, .inr (.inl se)))] [(h0, .inr (2, [.int wd, .ref apx, .ref apy, .ref aon, .ref aen, .int cn, .int pn, .int ((km_curve tc tn fi se ax ay bx bz cx cz).1), .int ((km_curve tc tn fi se ax ay bx bz cx cz).2.1), .ref afi, .ref ase])), (apx, .inl (cJ, 256, .inr (.inl px))), (apy, .inl (cJ, 256, .inr (.inl py))), (aon, .inl (cZ, 256, .inl on)), (aen, .inl (cI, 256, .inl en)), (afi, .inl (cJ, 6, .inr (.inl ((km_curve tc tn fi se ax ay bx bz cx cz).2.2.1)))), (ase, .inl (cJ, 6, .inr (.inl ((km_curve tc tn fi se ax ay bx bz cx cz).2.2.2))))] [(cJ, .long), (cZ, .boolean), (cI, .int)] [.ref h0, .long ax, .long ay, .long bx, .long bz, .long cx, .long cz] := by
  intro sz
  refine Met.ofW (cc := b_M_curve) (maxL := 23) (ret := none) (by decide) rfl ?_
  intro p e s m args below meth c s₁ B hml hv
  obtain ⟨hargs, hsz, hP, hK, hD0⟩ := hv
  have hx := B.exec
  have hb := B.bytes
  have hr := B.returns
  have hts : ∀ w ∈ lw_w, w.before args s = true := fun w h => atoms_spec (ws := w_M_curve) B.pre w (List.mem_cons_of_mem _ h)
  have hown : s.vm.findClass R_M = some m.cls := findClass_of_methodNamed B.named
  have hlocks := B.notSynchronized
  subst hsz
  have hD := hD0.self (sz := s.heap.size)
  generalize hR : (headSpec w_M_curve { frames := 5, cells := 0, slots := 0, locals := 167 }).room = R
  generalize hAe : va_A [(h0, .inr (2, [.int wd, .ref apx, .ref apy, .ref aon, .ref aen, .int cn, .int pn, .int tc, .int tn, .ref afi, .ref ase])), (apx, .inl (cJ, 256, .inr (.inl px))), (apy, .inl (cJ, 256, .inr (.inl py))), (aon, .inl (cZ, 256, .inl on)), (aen, .inl (cI, 256, .inl en)), (afi, .inl (cJ, 6, .inr (.inl fi))), (ase, .inl (cJ, 6, .inr (.inl se)))] s.heap.size = A at hD ⊢
  have hA : ∀ q : Nat, s.heap.size ≤ q → A q := fun q h => by rw [← hAe]; exact Or.inr h
  have hS : va_S A s.heap s.heap [] := va_S.rf
  generalize hRES : km_curve tc tn fi se ax ay bx bz cx cz = RES
  have hres := hRES
  have hl := lv_entry [.ref h0, .long ax, .long ay, .long bx, .long bz, .long cx, .long cz] (n := 23) (Nat.le_of_ble_eq_true rfl)
  have hent : entryFrame m args 23 = F0 m 0 (lg_sl [.ref h0, .long ax, .long ay, .long bx, .long bz, .long cx, .long cz] ++ List.replicate (23 - (lg_sl [.ref h0, .long ax, .long ay, .long bx, .long bz, .long cx, .long cz]).length) Slot.unset).toArray [] := by rw [hargs]; exact lg_entry_eq m [.ref h0, .long ax, .long ay, .long bx, .long bz, .long cx, .long cz] 23
  rw [hent]
  clear hent
  generalize (lg_sl [.ref h0, .long ax, .long ay, .long bx, .long bz, .long cx, .long cz] ++ List.replicate (23 - (lg_sl [.ref h0, .long ax, .long ay, .long bx, .long bz, .long cx, .long cz]).length) Slot.unset).toArray = ls at hl ⊢
  have hl : lv_has ls 23 [(0, .ref h0), (1, .long ax), (3, .long ay), (5, .long bx), (7, .long bz), (9, .long cx), (11, .long cz)] := hl
  have hP : va_P (dC, dI) cls9 [(h0, .inr (2, [.int wd, .ref apx, .ref apy, .ref aon, .ref aen, .int cn, .int pn, .int tc, .int tn, .ref afi, .ref ase])), (apx, .inl (cJ, 256, .inr (.inl px))), (apy, .inl (cJ, 256, .inr (.inl py))), (aon, .inl (cZ, 256, .inl on)), (aen, .inl (cI, 256, .inl en)), (afi, .inl (cJ, 6, .inr (.inl fi))), (ase, .inl (cJ, 6, .inr (.inl se)))] s.heap := hP
  have hD : va_D A [(h0, .inr (2, [.int wd, .ref apx, .ref apy, .ref aon, .ref aen, .int cn, .int pn, .int tc, .int tn, .ref afi, .ref ase])), (apx, .inl (cJ, 256, .inr (.inl px))), (apy, .inl (cJ, 256, .inr (.inl py))), (aon, .inl (cZ, 256, .inl on)), (aen, .inl (cI, 256, .inl en)), (afi, .inl (cJ, 6, .inr (.inl fi))), (ase, .inl (cJ, 6, .inr (.inl se)))] := hD
  clear hD0 hRES hAe
  unfold km_curve at hres
  generalize hQ : MQ below (va_Qv (fun (_ : Unit) => True) (fun _ t => va_P (dC, dI) cls9 [(h0, .inr (2, [.int wd, .ref apx, .ref apy, .ref aon, .ref aen, .int cn, .int pn, .int RES.1, .int RES.2.1, .ref afi, .ref ase])), (apx, .inl (cJ, 256, .inr (.inl px))), (apy, .inl (cJ, 256, .inr (.inl py))), (aon, .inl (cZ, 256, .inl on)), (aen, .inl (cI, 256, .inl en)), (afi, .inl (cJ, 6, .inr (.inl RES.2.2.1))), (ase, .inl (cJ, 6, .inr (.inl RES.2.2.2)))] t.heap ∧ va_K (dC, dI) cls9 [(cJ, .long), (cZ, .boolean), (cI, .int)] t ∧ va_D A [(h0, .inr (2, [.int wd, .ref apx, .ref apy, .ref aon, .ref aen, .int cn, .int pn, .int RES.1, .int RES.2.1, .ref afi, .ref ase])), (apx, .inl (cJ, 256, .inr (.inl px))), (apy, .inl (cJ, 256, .inr (.inl py))), (aon, .inl (cZ, 256, .inl on)), (aen, .inl (cI, 256, .inl en)), (afi, .inl (cJ, 6, .inr (.inl RES.2.2.1))), (ase, .inl (cJ, 6, .inr (.inl RES.2.2.2)))]) A) args s 0 0 A = Q
  replace hQ := hQ.symm
  refine lv_lload hx hb d_M_curve_0 (lv_at hl 3 rfl) ?_
  refine lv_lload hx hb d_M_curve_2 (lv_at hl 6 rfl) ?_
  refine lv_lmul hx hb d_M_curve_4 ?_
  refine lv_lload hx hb d_M_curve_5 (lv_at hl 5 rfl) ?_
  refine lv_lload hx hb d_M_curve_7 (lv_at hl 4 rfl) ?_
  refine lv_lmul hx hb d_M_curve_9 ?_
  refine lv_lsub hx hb d_M_curve_10 ?_
  refine lv_lstore (lv' := [(13, .long ((bx * cz) - (cx * bz))), (0, .ref h0), (1, .long ax), (3, .long ay), (5, .long bx), (7, .long bz), (9, .long cx), (11, .long cz)]) hx hb d_M_curve_11 hl (by decide) rfl (fun ls hl => ?_)
  refine lv_lload hx hb d_M_curve_13 (lv_at hl 6 rfl) ?_
  refine lv_lload_n hx hb d_M_curve_15 rfl (lv_at hl 3 rfl) ?_
  refine lv_lmul hx hb d_M_curve_16 ?_
  refine lv_lload_n hx hb d_M_curve_17 rfl (lv_at hl 2 rfl) ?_
  refine lv_lload hx hb d_M_curve_18 (lv_at hl 7 rfl) ?_
  refine lv_lmul hx hb d_M_curve_20 ?_
  refine lv_lsub hx hb d_M_curve_21 ?_
  refine lv_lstore (lv' := [(15, .long ((cx * ay) - (ax * cz))), (13, .long ((bx * cz) - (cx * bz))), (0, .ref h0), (1, .long ax), (3, .long ay), (5, .long bx), (7, .long bz), (9, .long cx), (11, .long cz)]) hx hb d_M_curve_22 hl (by decide) rfl (fun ls hl => ?_)
  refine lv_lload_n hx hb d_M_curve_24 rfl (lv_at hl 3 rfl) ?_
  refine lv_lload hx hb d_M_curve_25 (lv_at hl 6 rfl) ?_
  refine lv_lmul hx hb d_M_curve_27 ?_
  refine lv_lload hx hb d_M_curve_28 (lv_at hl 5 rfl) ?_
  refine lv_lload_n hx hb d_M_curve_30 rfl (lv_at hl 4 rfl) ?_
  refine lv_lmul hx hb d_M_curve_31 ?_
  refine lv_lsub hx hb d_M_curve_32 ?_
  refine lv_lstore (lv' := [(17, .long ((ax * bz) - (bx * ay))), (15, .long ((cx * ay) - (ax * cz))), (13, .long ((bx * cz) - (cx * bz))), (0, .ref h0), (1, .long ax), (3, .long ay), (5, .long bx), (7, .long bz), (9, .long cx), (11, .long cz)]) hx hb d_M_curve_33 hl (by decide) rfl (fun ls hl => ?_)
  refine lv_lload hx hb d_M_curve_35 (lv_at hl 2 rfl) ?_
  refine lv_lload hx hb d_M_curve_37 (lv_at hl 1 rfl) ?_
  refine lv_ladd hx hb d_M_curve_39 ?_
  refine lv_lload hx hb d_M_curve_40 (lv_at hl 0 rfl) ?_
  refine lv_ladd hx hb d_M_curve_42 ?_
  refine lv_lstore (lv' := [(19, .long ((((bx * cz) - (cx * bz)) + ((cx * ay) - (ax * cz))) + ((ax * bz) - (bx * ay)))), (17, .long ((ax * bz) - (bx * ay))), (15, .long ((cx * ay) - (ax * cz))), (13, .long ((bx * cz) - (cx * bz))), (0, .ref h0), (1, .long ax), (3, .long ay), (5, .long bx), (7, .long bz), (9, .long cx), (11, .long cz)]) hx hb d_M_curve_43 hl (by decide) rfl (fun ls hl => ?_)
  have K45 : ∀ (v45_l13 : Int64) (v45_l15 : Int64) (v45_l17 : Int64) (v45_l19 : Int64), km_curve_k45 tc tn fi se ax ay bx bz cx cz v45_l13 v45_l15 v45_l17 v45_l19 = RES → ∀ (ls : Array Slot) (H : Heap) (locs : List Loc), lv_has ls 23 [(19, .long v45_l19), (17, .long v45_l17), (15, .long v45_l15), (13, .long v45_l13), (0, .ref h0), (1, .long ax), (3, .long ay), (5, .long bx), (7, .long bz), (9, .long cx), (11, .long cz)] → va_P (dC, dI) cls9 [(h0, .inr (2, [.int wd, .ref apx, .ref apy, .ref aon, .ref aen, .int cn, .int pn, .int tc, .int tn, .ref afi, .ref ase])), (apx, .inl (cJ, 256, .inr (.inl px))), (apy, .inl (cJ, 256, .inr (.inl py))), (aon, .inl (cZ, 256, .inl on)), (aen, .inl (cI, 256, .inl en)), (afi, .inl (cJ, 6, .inr (.inl fi))), (ase, .inl (cJ, 6, .inr (.inl se)))] H → va_D A [(h0, .inr (2, [.int wd, .ref apx, .ref apy, .ref aon, .ref aen, .int cn, .int pn, .int tc, .int tn, .ref afi, .ref ase])), (apx, .inl (cJ, 256, .inr (.inl px))), (apy, .inl (cJ, 256, .inr (.inl py))), (aon, .inl (cZ, 256, .inl on)), (aen, .inl (cI, 256, .inl en)), (afi, .inl (cJ, 6, .inr (.inl fi))), (ase, .inl (cJ, 6, .inr (.inl se)))] → va_S A s.heap H locs → W p l e R s m args below meth c H locs 0 0 Q (F0 m 45 ls []) := by
    intro v45_l13 v45_l15 v45_l17 v45_l19 hres ls H locs hl hP hD hS
    unfold km_curve_k45 at hres
    refine lv_lload hx hb d_M_curve_45 (lv_at hl 0 rfl) ?_
    refine lv_lconst (v := 0) hx hb d_M_curve_47 (by decide) ?_
    refine W.lcmp hx hb d_M_curve_48 ?_
    have J255 : ∀ (t255_0 : Nat → Int64) (t255_1 : Nat → Int64) (t255_2 : Int32), km_curve_j255 tn ax ay bx bz cx cz t255_0 t255_1 t255_2 = RES → ∀ (ls : Array Slot) (H : Heap) (locs : List Loc), lv_has ls 23 [(0, .ref h0), (1, .long ax), (3, .long ay), (5, .long bx), (7, .long bz), (9, .long cx), (11, .long cz)] → va_P (dC, dI) cls9 [(h0, .inr (2, [.int wd, .ref apx, .ref apy, .ref aon, .ref aen, .int cn, .int pn, .int t255_2, .int tn, .ref afi, .ref ase])), (apx, .inl (cJ, 256, .inr (.inl px))), (apy, .inl (cJ, 256, .inr (.inl py))), (aon, .inl (cZ, 256, .inl on)), (aen, .inl (cI, 256, .inl en)), (afi, .inl (cJ, 6, .inr (.inl t255_0))), (ase, .inl (cJ, 6, .inr (.inl t255_1)))] H → va_D A [(h0, .inr (2, [.int wd, .ref apx, .ref apy, .ref aon, .ref aen, .int cn, .int pn, .int t255_2, .int tn, .ref afi, .ref ase])), (apx, .inl (cJ, 256, .inr (.inl px))), (apy, .inl (cJ, 256, .inr (.inl py))), (aon, .inl (cZ, 256, .inl on)), (aen, .inl (cI, 256, .inl en)), (afi, .inl (cJ, 6, .inr (.inl t255_0))), (ase, .inl (cJ, 6, .inr (.inl t255_1)))] → va_S A s.heap H locs → W p l e R s m args below meth c H locs 0 0 Q (F0 m 255 ls []) := by
      intro t255_0 t255_1 t255_2 hres ls H locs hl hP hD hS
      unfold km_curve_j255 at hres
      refine lv_aload_n hx hb d_M_curve_255 rfl (lv_at hl 0 rfl) ?_
      refine va_get (D := (dC, dI)) (ci := 2) (v := .int t255_2) (C := R_M) (T := F_M) (N := 11) hx hb hts in_M hown hK hP 0 rfl rfl 7 (by decide) (hts _ tw_286) (fun _ h9 => h9) rfl d_M_curve_256 ?_
      refine lv_if_eq (tgt := 263) hx hb d_M_curve_259 rfl (fun h259 => ?_) (fun h259 => ?_)
      · rw [if_pos h259] at hres
        refine lv_lload_n hx hb d_M_curve_263 rfl (lv_at hl 2 rfl) ?_
        refine lv_lconst (v := 0) hx hb d_M_curve_264 (by decide) ?_
        refine W.lcmp hx hb d_M_curve_265 ?_
        have J274 : ∀ (t274_0 : Int32), km_curve_j274 tn ax ay bx bz cx cz t255_0 t255_1 t255_2 t274_0 = RES → ∀ (ls : Array Slot) (H : Heap) (locs : List Loc), lv_has ls 23 [(0, .ref h0), (1, .long ax), (3, .long ay), (5, .long bx), (7, .long bz), (9, .long cx), (11, .long cz)] → va_P (dC, dI) cls9 [(h0, .inr (2, [.int wd, .ref apx, .ref apy, .ref aon, .ref aen, .int cn, .int pn, .int t255_2, .int tn, .ref afi, .ref ase])), (apx, .inl (cJ, 256, .inr (.inl px))), (apy, .inl (cJ, 256, .inr (.inl py))), (aon, .inl (cZ, 256, .inl on)), (aen, .inl (cI, 256, .inl en)), (afi, .inl (cJ, 6, .inr (.inl t255_0))), (ase, .inl (cJ, 6, .inr (.inl t255_1)))] H → va_D A [(h0, .inr (2, [.int wd, .ref apx, .ref apy, .ref aon, .ref aen, .int cn, .int pn, .int t255_2, .int tn, .ref afi, .ref ase])), (apx, .inl (cJ, 256, .inr (.inl px))), (apy, .inl (cJ, 256, .inr (.inl py))), (aon, .inl (cZ, 256, .inl on)), (aen, .inl (cI, 256, .inl en)), (afi, .inl (cJ, 6, .inr (.inl t255_0))), (ase, .inl (cJ, 6, .inr (.inl t255_1)))] → va_S A s.heap H locs → W p l e R s m args below meth c H locs 0 0 Q (F0 m 274 ls [.int t274_0]) := by
          intro t274_0 hres ls H locs hl hP hD hS
          unfold km_curve_j274 at hres
          refine lv_istore (lv' := [(21, .int t274_0), (0, .ref h0), (1, .long ax), (3, .long ay), (5, .long bx), (7, .long bz), (9, .long cx), (11, .long cz)]) hx hb d_M_curve_274 hl (by decide) rfl (fun ls hl => ?_)
          refine lv_lload hx hb d_M_curve_276 (lv_at hl 7 rfl) ?_
          refine lv_lconst (v := 0) hx hb d_M_curve_278 (by decide) ?_
          refine W.lcmp hx hb d_M_curve_279 ?_
          have J288 : ∀ (t288_0 : Int32), km_curve_j288 tn ax ay bx bz cx cz t255_0 t255_1 t255_2 t274_0 t288_0 = RES → ∀ (ls : Array Slot) (H : Heap) (locs : List Loc), lv_has ls 23 [(21, .int t274_0), (0, .ref h0), (1, .long ax), (3, .long ay), (5, .long bx), (7, .long bz), (9, .long cx), (11, .long cz)] → va_P (dC, dI) cls9 [(h0, .inr (2, [.int wd, .ref apx, .ref apy, .ref aon, .ref aen, .int cn, .int pn, .int t255_2, .int tn, .ref afi, .ref ase])), (apx, .inl (cJ, 256, .inr (.inl px))), (apy, .inl (cJ, 256, .inr (.inl py))), (aon, .inl (cZ, 256, .inl on)), (aen, .inl (cI, 256, .inl en)), (afi, .inl (cJ, 6, .inr (.inl t255_0))), (ase, .inl (cJ, 6, .inr (.inl t255_1)))] H → va_D A [(h0, .inr (2, [.int wd, .ref apx, .ref apy, .ref aon, .ref aen, .int cn, .int pn, .int t255_2, .int tn, .ref afi, .ref ase])), (apx, .inl (cJ, 256, .inr (.inl px))), (apy, .inl (cJ, 256, .inr (.inl py))), (aon, .inl (cZ, 256, .inl on)), (aen, .inl (cI, 256, .inl en)), (afi, .inl (cJ, 6, .inr (.inl t255_0))), (ase, .inl (cJ, 6, .inr (.inl t255_1)))] → va_S A s.heap H locs → W p l e R s m args below meth c H locs 0 0 Q (F0 m 288 ls [.int t288_0]) := by
            intro t288_0 hres ls H locs hl hP hD hS
            unfold km_curve_j288 at hres
            refine lv_istore (lv' := [(22, .int t288_0), (21, .int t274_0), (0, .ref h0), (1, .long ax), (3, .long ay), (5, .long bx), (7, .long bz), (9, .long cx), (11, .long cz)]) hx hb d_M_curve_288 hl (by decide) rfl (fun ls hl => ?_)
            refine lv_iload hx hb d_M_curve_290 (lv_at hl 1 rfl) ?_
            refine lv_iload hx hb d_M_curve_292 (lv_at hl 0 rfl) ?_
            have J447 : ∀ (t447_0 : Nat → Int64) (t447_1 : Nat → Int64) (t447_2 : Int32) (t447_3 : Int32), km_curve_j447 t447_0 t447_1 t447_2 t447_3 = RES → ∀ (ls : Array Slot) (H : Heap) (locs : List Loc), lv_has ls 23 [] → va_P (dC, dI) cls9 [(h0, .inr (2, [.int wd, .ref apx, .ref apy, .ref aon, .ref aen, .int cn, .int pn, .int t447_2, .int t447_3, .ref afi, .ref ase])), (apx, .inl (cJ, 256, .inr (.inl px))), (apy, .inl (cJ, 256, .inr (.inl py))), (aon, .inl (cZ, 256, .inl on)), (aen, .inl (cI, 256, .inl en)), (afi, .inl (cJ, 6, .inr (.inl t447_0))), (ase, .inl (cJ, 6, .inr (.inl t447_1)))] H → va_D A [(h0, .inr (2, [.int wd, .ref apx, .ref apy, .ref aon, .ref aen, .int cn, .int pn, .int t447_2, .int t447_3, .ref afi, .ref ase])), (apx, .inl (cJ, 256, .inr (.inl px))), (apy, .inl (cJ, 256, .inr (.inl py))), (aon, .inl (cZ, 256, .inl on)), (aen, .inl (cI, 256, .inl en)), (afi, .inl (cJ, 6, .inr (.inl t447_0))), (ase, .inl (cJ, 6, .inr (.inl t447_1)))] → va_S A s.heap H locs → W p l e R s m args below meth c H locs 0 0 Q (F0 m 447 ls []) := by
              intro t447_0 t447_1 t447_2 t447_3 hres ls H locs hl hP hD hS
              unfold km_curve_j447 at hres
              rw [hQ]
              subst hres
              exact W.vret hx hb hr (fun t ht hW => ⟨⟨(), rfl, trivial, ⟨by rw [ht]; exact hP, va_K.moved hW.alike hK, hD⟩⟩, hS.F ht⟩) hS.2.2 d_M_curve_447
            refine lv_icmp_eq (tgt := 332) hx hb d_M_curve_294 rfl (fun h294 => ?_) (fun h294 => ?_)
            · rw [if_pos h294] at hres
              refine lv_iload hx hb d_M_curve_332 (lv_at hl 1 rfl) ?_
              have J354 : km_curve_j354 tn ax ay bx bz cx cz t255_0 t255_1 t255_2 t274_0 = RES → ∀ (ls : Array Slot) (H : Heap) (locs : List Loc), lv_has ls 23 [(21, .int t274_0), (0, .ref h0), (1, .long ax), (3, .long ay), (5, .long bx), (7, .long bz), (9, .long cx), (11, .long cz)] → va_P (dC, dI) cls9 [(h0, .inr (2, [.int wd, .ref apx, .ref apy, .ref aon, .ref aen, .int cn, .int pn, .int t255_2, .int tn, .ref afi, .ref ase])), (apx, .inl (cJ, 256, .inr (.inl px))), (apy, .inl (cJ, 256, .inr (.inl py))), (aon, .inl (cZ, 256, .inl on)), (aen, .inl (cI, 256, .inl en)), (afi, .inl (cJ, 6, .inr (.inl t255_0))), (ase, .inl (cJ, 6, .inr (.inl t255_1)))] H → va_D A [(h0, .inr (2, [.int wd, .ref apx, .ref apy, .ref aon, .ref aen, .int cn, .int pn, .int t255_2, .int tn, .ref afi, .ref ase])), (apx, .inl (cJ, 256, .inr (.inl px))), (apy, .inl (cJ, 256, .inr (.inl py))), (aon, .inl (cZ, 256, .inl on)), (aen, .inl (cI, 256, .inl en)), (afi, .inl (cJ, 6, .inr (.inl t255_0))), (ase, .inl (cJ, 6, .inr (.inl t255_1)))] → va_S A s.heap H locs → W p l e R s m args below meth c H locs 0 0 Q (F0 m 354 ls []) := by
                intro  hres ls H locs hl hP hD hS
                unfold km_curve_j354 at hres
                refine lv_lload hx hb d_M_curve_354 (lv_at hl 5 rfl) ?_
                refine lv_lload hx hb d_M_curve_356 (lv_at hl 5 rfl) ?_
                refine lv_lmul hx hb d_M_curve_358 ?_
                refine lv_lload_n hx hb d_M_curve_359 rfl (lv_at hl 3 rfl) ?_
                refine lv_lload hx hb d_M_curve_360 (lv_at hl 7 rfl) ?_
                refine lv_lmul hx hb d_M_curve_362 ?_
                refine W.lcmp hx hb d_M_curve_363 ?_
                refine lv_if_le (tgt := 447) hx hb d_M_curve_364 rfl (fun h364 => ?_) (fun h364 => ?_)
                · rw [if_pos h364] at hres
                  exact J447 t255_0 t255_1 t255_2 tn hres ls _ _ (lv_sub hl [] rfl) hP hD hS
                · rw [if_neg h364] at hres
                  refine lv_aload_n hx hb d_M_curve_367 rfl (lv_at hl 1 rfl) ?_
                  refine lv_iload hx hb d_M_curve_368 (lv_at hl 0 rfl) ?_
                  refine lv_iload hx hb d_M_curve_370 (lv_at hl 0 rfl) ?_
                  have J380 : ∀ (t380_0 : Int32), km_curve_j380 tn ax ay bx bz cx cz t255_0 t255_1 t255_2 t274_0 t380_0 = RES → ∀ (ls : Array Slot) (H : Heap) (locs : List Loc), lv_has ls 23 [(21, .int t274_0), (0, .ref h0), (1, .long ax), (3, .long ay), (5, .long bx), (7, .long bz), (9, .long cx), (11, .long cz)] → va_P (dC, dI) cls9 [(h0, .inr (2, [.int wd, .ref apx, .ref apy, .ref aon, .ref aen, .int cn, .int pn, .int t255_2, .int tn, .ref afi, .ref ase])), (apx, .inl (cJ, 256, .inr (.inl px))), (apy, .inl (cJ, 256, .inr (.inl py))), (aon, .inl (cZ, 256, .inl on)), (aen, .inl (cI, 256, .inl en)), (afi, .inl (cJ, 6, .inr (.inl t255_0))), (ase, .inl (cJ, 6, .inr (.inl t255_1)))] H → va_D A [(h0, .inr (2, [.int wd, .ref apx, .ref apy, .ref aon, .ref aen, .int cn, .int pn, .int t255_2, .int tn, .ref afi, .ref ase])), (apx, .inl (cJ, 256, .inr (.inl px))), (apy, .inl (cJ, 256, .inr (.inl py))), (aon, .inl (cZ, 256, .inl on)), (aen, .inl (cI, 256, .inl en)), (afi, .inl (cJ, 6, .inr (.inl t255_0))), (ase, .inl (cJ, 6, .inr (.inl t255_1)))] → va_S A s.heap H locs → W p l e R s m args below meth c H locs 0 0 Q (F0 m 380 ls [.int t380_0, .int t274_0, .ref h0]) := by
                    intro t380_0 hres ls H locs hl hP hD hS
                    unfold km_curve_j380 at hres
                    refine lv_aload_n hx hb d_M_curve_380 rfl (lv_at hl 1 rfl) ?_
                    refine lv_lload_n hx hb d_M_curve_381 rfl (lv_at hl 2 rfl) ?_
                    refine lv_lload_n hx hb d_M_curve_382 rfl (lv_at hl 3 rfl) ?_
                    refine lv_lload hx hb d_M_curve_383 (lv_at hl 4 rfl) ?_
                    refine lv_lload hx hb d_M_curve_385 (lv_at hl 5 rfl) ?_
                    refine lv_lload hx hb d_M_curve_387 (lv_at hl 6 rfl) ?_
                    refine lv_lload hx hb d_M_curve_389 (lv_at hl 7 rfl) ?_
                    refine lv_iload hx hb d_M_curve_391 (lv_at hl 0 rfl) ?_
                    have J401 : ∀ (t401_0 : Int32), km_curve_j401 tn ax ay bx bz cx cz t255_0 t255_1 t255_2 t274_0 t380_0 t401_0 = RES → ∀ (ls : Array Slot) (H : Heap) (locs : List Loc), lv_has ls 23 [(21, .int t274_0), (0, .ref h0), (1, .long ax), (3, .long ay), (5, .long bx), (7, .long bz), (9, .long cx), (11, .long cz)] → va_P (dC, dI) cls9 [(h0, .inr (2, [.int wd, .ref apx, .ref apy, .ref aon, .ref aen, .int cn, .int pn, .int t255_2, .int tn, .ref afi, .ref ase])), (apx, .inl (cJ, 256, .inr (.inl px))), (apy, .inl (cJ, 256, .inr (.inl py))), (aon, .inl (cZ, 256, .inl on)), (aen, .inl (cI, 256, .inl en)), (afi, .inl (cJ, 6, .inr (.inl t255_0))), (ase, .inl (cJ, 6, .inr (.inl t255_1)))] H → va_D A [(h0, .inr (2, [.int wd, .ref apx, .ref apy, .ref aon, .ref aen, .int cn, .int pn, .int t255_2, .int tn, .ref afi, .ref ase])), (apx, .inl (cJ, 256, .inr (.inl px))), (apy, .inl (cJ, 256, .inr (.inl py))), (aon, .inl (cZ, 256, .inl on)), (aen, .inl (cI, 256, .inl en)), (afi, .inl (cJ, 6, .inr (.inl t255_0))), (ase, .inl (cJ, 6, .inr (.inl t255_1)))] → va_S A s.heap H locs → W p l e R s m args below meth c H locs 0 0 Q (F0 m 401 ls [.int t401_0, .long cz, .long cx, .long bz, .long bx, .long ay, .long ax, .ref h0, .int t380_0, .int t274_0, .ref h0]) := by
                      intro t401_0 hres ls H locs hl hP hD hS
                      unfold km_curve_j401 at hres
                      refine cm_i (wc := [(h0, .inr (2, [.int wd, .ref apx, .ref apy, .ref aon, .ref aen, .int cn, .int pn, .int t255_2, .int tn, .ref afi, .ref ase])), (apx, .inl (cJ, 256, .inr (.inl px))), (apy, .inl (cJ, 256, .inr (.inl py))), (aon, .inl (cZ, 256, .inl on)), (aen, .inl (cI, 256, .inl en)), (afi, .inl (cJ, 6, .inr (.inl t255_0))), (ase, .inl (cJ, 6, .inr (.inl t255_1)))]) (wr := []) (W1 := [(h0, .inr (2, [.int wd, .ref apx, .ref apy, .ref aon, .ref aen, .int cn, .int pn, .int t255_2, .int tn, .ref afi, .ref ase])), (apx, .inl (cJ, 256, .inr (.inl px))), (apy, .inl (cJ, 256, .inr (.inl py))), (aon, .inl (cZ, 256, .inl on)), (aen, .inl (cI, 256, .inl en)), (afi, .inl (cJ, 6, .inr (.inl ((km_side t255_0 t255_1 ax ay bx bz cx cz t401_0).2.1)))), (ase, .inl (cJ, 6, .inr (.inl ((km_side t255_0 t255_1 ax ay bx bz cx cz t401_0).2.2))))]) (w2 := [(h0, .inr (2, [.int wd, .ref apx, .ref apy, .ref aon, .ref aen, .int cn, .int pn, .int t255_2, .int tn, .ref afi, .ref ase])), (apx, .inl (cJ, 256, .inr (.inl px))), (apy, .inl (cJ, 256, .inr (.inl py))), (aon, .inl (cZ, 256, .inl on)), (aen, .inl (cI, 256, .inl en)), (afi, .inl (cJ, 6, .inr (.inl ((km_side t255_0 t255_1 ax ay bx bz cx cz t401_0).2.1)))), (ase, .inl (cJ, 6, .inr (.inl ((km_side t255_0 t255_1 ax ay bx bz cx cz t401_0).2.2))))]) (va_runV (g := F0 m 401 ls [.int t401_0, .long cz, .long cx, .long bz, .long bx, .long ay, .long ax, .ref h0, .int t380_0, .int t274_0, .ref h0]) (As := [.long ax, .long ay, .long bx, .long bz, .long cx, .long cz, .int t401_0]) (rest := [.int t380_0, .int t274_0, .ref h0]) ⟨hx, hb, hml, hown, hts⟩ (c_km_side l dC dI h0 apx apy aon aen afi ase cJ cZ cI wd cn pn t255_2 tn px py on en t255_0 t255_1 ax ay bx bz cx cz t401_0  _) (cwV 7 hts (gi_V tw_376 tw_378 ts_16 tw_6 tw_379) rfl rfl rfl (by decide +kernel) ⟨(by rw [← hR]; exact Nat.le_of_ble_eq_true rfl), (by rw [← hR]; exact Nat.le_of_ble_eq_true rfl)⟩) ⟨mc_blind, va_recv (ci := 2) (q := (R_M, F_M, 11)) hK hP rfl (q0 := 0) rfl, mc_pre (hP.sub [0, 1, 2, 3, 4, 5, 6] rfl) (hK.sub [0, 1, 2] rfl) (hD.sub [0, 1, 2, 3, 4, 5, 6] (by decide) rfl)⟩ rfl rfl hl.1 rfl (lv_room (Nat.le_of_ble_eq_true rfl)) d_M_curve_401 ⟨Nat.zero_le _, Nat.zero_le _⟩) hP hD hS hA [0, 1, 2, 3, 4, 5, 6] [] [0, 1, 2, 3, 4, 5, 6] rfl rfl (by decide) (by decide) rfl rfl (by decide) (fun H locs hP hD hS => ?_)
                      have K404 : ∀ (x401 : Int32 × (Nat → Int64) × (Nat → Int64)), km_curve_k404 tn ax ay bx bz cx cz t255_2 t274_0 t380_0 x401 = RES → ∀ (ls : Array Slot) (H : Heap) (locs : List Loc), lv_has ls 23 [(21, .int t274_0), (0, .ref h0), (1, .long ax), (3, .long ay), (5, .long bx), (7, .long bz), (9, .long cx), (11, .long cz)] → va_P (dC, dI) cls9 [(h0, .inr (2, [.int wd, .ref apx, .ref apy, .ref aon, .ref aen, .int cn, .int pn, .int t255_2, .int tn, .ref afi, .ref ase])), (apx, .inl (cJ, 256, .inr (.inl px))), (apy, .inl (cJ, 256, .inr (.inl py))), (aon, .inl (cZ, 256, .inl on)), (aen, .inl (cI, 256, .inl en)), (afi, .inl (cJ, 6, .inr (.inl x401.2.1))), (ase, .inl (cJ, 6, .inr (.inl x401.2.2)))] H → va_D A [(h0, .inr (2, [.int wd, .ref apx, .ref apy, .ref aon, .ref aen, .int cn, .int pn, .int t255_2, .int tn, .ref afi, .ref ase])), (apx, .inl (cJ, 256, .inr (.inl px))), (apy, .inl (cJ, 256, .inr (.inl py))), (aon, .inl (cZ, 256, .inl on)), (aen, .inl (cI, 256, .inl en)), (afi, .inl (cJ, 6, .inr (.inl x401.2.1))), (ase, .inl (cJ, 6, .inr (.inl x401.2.2)))] → va_S A s.heap H locs → W p l e R s m args below meth c H locs 0 0 Q (F0 m 404 ls [.int x401.1, .int t380_0, .int t274_0, .ref h0]) := by
                        intro x401 hres ls H locs hl hP hD hS
                        unfold km_curve_k404 at hres
                        refine cm_v (wc := [(h0, .inr (2, [.int wd, .ref apx, .ref apy, .ref aon, .ref aen, .int cn, .int pn, .int t255_2, .int tn, .ref afi, .ref ase])), (apx, .inl (cJ, 256, .inr (.inl px))), (apy, .inl (cJ, 256, .inr (.inl py))), (aon, .inl (cZ, 256, .inl on)), (aen, .inl (cI, 256, .inl en)), (afi, .inl (cJ, 6, .inr (.inl x401.2.1))), (ase, .inl (cJ, 6, .inr (.inl x401.2.2)))]) (wr := []) (W1 := [(h0, .inr (2, [.int wd, .ref apx, .ref apy, .ref aon, .ref aen, .int cn, .int pn, .int ((km_cross t255_2 tn t274_0 t380_0 x401.1).1), .int ((km_cross t255_2 tn t274_0 t380_0 x401.1).2), .ref afi, .ref ase])), (apx, .inl (cJ, 256, .inr (.inl px))), (apy, .inl (cJ, 256, .inr (.inl py))), (aon, .inl (cZ, 256, .inl on)), (aen, .inl (cI, 256, .inl en)), (afi, .inl (cJ, 6, .inr (.inl x401.2.1))), (ase, .inl (cJ, 6, .inr (.inl x401.2.2)))]) (w2 := [(h0, .inr (2, [.int wd, .ref apx, .ref apy, .ref aon, .ref aen, .int cn, .int pn, .int ((km_cross t255_2 tn t274_0 t380_0 x401.1).1), .int ((km_cross t255_2 tn t274_0 t380_0 x401.1).2), .ref afi, .ref ase])), (apx, .inl (cJ, 256, .inr (.inl px))), (apy, .inl (cJ, 256, .inr (.inl py))), (aon, .inl (cZ, 256, .inl on)), (aen, .inl (cI, 256, .inl en)), (afi, .inl (cJ, 6, .inr (.inl x401.2.1))), (ase, .inl (cJ, 6, .inr (.inl x401.2.2)))]) (va_runV (g := F0 m 404 ls [.int x401.1, .int t380_0, .int t274_0, .ref h0]) (As := [.int t274_0, .int t380_0, .int x401.1]) (rest := []) ⟨hx, hb, hml, hown, hts⟩ (c_km_cross l dC dI h0 apx apy aon aen afi ase cJ cZ cI wd cn pn px py on en x401.2.1 x401.2.2 t255_2 tn t274_0 t380_0 x401.1  _) (cwV 3 hts (gi_V tw_353 tw_355 ts_13 tw_6 tw_356) rfl rfl rfl (by decide +kernel) ⟨(by rw [← hR]; exact Nat.le_of_ble_eq_true rfl), (by rw [← hR]; exact Nat.le_of_ble_eq_true rfl)⟩) ⟨mc_blind, va_recv (ci := 2) (q := (R_M, F_M, 11)) hK hP rfl (q0 := 0) rfl, mc_pre (hP.sub [0, 1, 2, 3, 4, 5, 6] rfl) (hK.sub [0, 1, 2] rfl) (hD.sub [0, 1, 2, 3, 4, 5, 6] (by decide) rfl)⟩ rfl rfl hl.1 rfl (lv_room (Nat.le_of_ble_eq_true rfl)) d_M_curve_404 ⟨Nat.zero_le _, Nat.zero_le _⟩) hP hD hS hA [0, 1, 2, 3, 4, 5, 6] [] [0, 1, 2, 3, 4, 5, 6] rfl rfl (by decide) (by decide) rfl rfl (by decide) (fun H locs hP hD hS => ?_)
                        have K407 : ∀ (x404 : Int32 × Int32), km_curve_k407 ax ay bx bz cx cz t274_0 x401 x404 = RES → ∀ (ls : Array Slot) (H : Heap) (locs : List Loc), lv_has ls 23 [(21, .int t274_0), (0, .ref h0), (1, .long ax), (3, .long ay), (5, .long bx), (7, .long bz), (9, .long cx), (11, .long cz)] → va_P (dC, dI) cls9 [(h0, .inr (2, [.int wd, .ref apx, .ref apy, .ref aon, .ref aen, .int cn, .int pn, .int x404.1, .int x404.2, .ref afi, .ref ase])), (apx, .inl (cJ, 256, .inr (.inl px))), (apy, .inl (cJ, 256, .inr (.inl py))), (aon, .inl (cZ, 256, .inl on)), (aen, .inl (cI, 256, .inl en)), (afi, .inl (cJ, 6, .inr (.inl x401.2.1))), (ase, .inl (cJ, 6, .inr (.inl x401.2.2)))] H → va_D A [(h0, .inr (2, [.int wd, .ref apx, .ref apy, .ref aon, .ref aen, .int cn, .int pn, .int x404.1, .int x404.2, .ref afi, .ref ase])), (apx, .inl (cJ, 256, .inr (.inl px))), (apy, .inl (cJ, 256, .inr (.inl py))), (aon, .inl (cZ, 256, .inl on)), (aen, .inl (cI, 256, .inl en)), (afi, .inl (cJ, 6, .inr (.inl x401.2.1))), (ase, .inl (cJ, 6, .inr (.inl x401.2.2)))] → va_S A s.heap H locs → W p l e R s m args below meth c H locs 0 0 Q (F0 m 407 ls []) := by
                          intro x404 hres ls H locs hl hP hD hS
                          unfold km_curve_k407 at hres
                          refine lv_aload_n hx hb d_M_curve_407 rfl (lv_at hl 1 rfl) ?_
                          refine lv_iload hx hb d_M_curve_408 (lv_at hl 0 rfl) ?_
                          have J418 : ∀ (t418_0 : Int32), km_curve_j418 ax ay bx bz cx cz t274_0 x401 x404 t418_0 = RES → ∀ (ls : Array Slot) (H : Heap) (locs : List Loc), lv_has ls 23 [(21, .int t274_0), (0, .ref h0), (1, .long ax), (3, .long ay), (5, .long bx), (7, .long bz), (9, .long cx), (11, .long cz)] → va_P (dC, dI) cls9 [(h0, .inr (2, [.int wd, .ref apx, .ref apy, .ref aon, .ref aen, .int cn, .int pn, .int x404.1, .int x404.2, .ref afi, .ref ase])), (apx, .inl (cJ, 256, .inr (.inl px))), (apy, .inl (cJ, 256, .inr (.inl py))), (aon, .inl (cZ, 256, .inl on)), (aen, .inl (cI, 256, .inl en)), (afi, .inl (cJ, 6, .inr (.inl x401.2.1))), (ase, .inl (cJ, 6, .inr (.inl x401.2.2)))] H → va_D A [(h0, .inr (2, [.int wd, .ref apx, .ref apy, .ref aon, .ref aen, .int cn, .int pn, .int x404.1, .int x404.2, .ref afi, .ref ase])), (apx, .inl (cJ, 256, .inr (.inl px))), (apy, .inl (cJ, 256, .inr (.inl py))), (aon, .inl (cZ, 256, .inl on)), (aen, .inl (cI, 256, .inl en)), (afi, .inl (cJ, 6, .inr (.inl x401.2.1))), (ase, .inl (cJ, 6, .inr (.inl x401.2.2)))] → va_S A s.heap H locs → W p l e R s m args below meth c H locs 0 0 Q (F0 m 418 ls [.int t418_0, .ref h0]) := by
                            intro t418_0 hres ls H locs hl hP hD hS
                            unfold km_curve_j418 at hres
                            refine lv_iload hx hb d_M_curve_418 (lv_at hl 0 rfl) ?_
                            refine lv_aload_n hx hb d_M_curve_420 rfl (lv_at hl 1 rfl) ?_
                            refine lv_lload_n hx hb d_M_curve_421 rfl (lv_at hl 2 rfl) ?_
                            refine lv_lload_n hx hb d_M_curve_422 rfl (lv_at hl 3 rfl) ?_
                            refine lv_lload hx hb d_M_curve_423 (lv_at hl 4 rfl) ?_
                            refine lv_lload hx hb d_M_curve_425 (lv_at hl 5 rfl) ?_
                            refine lv_lload hx hb d_M_curve_427 (lv_at hl 6 rfl) ?_
                            refine lv_lload hx hb d_M_curve_429 (lv_at hl 7 rfl) ?_
                            refine lv_iload hx hb d_M_curve_431 (lv_at hl 0 rfl) ?_
                            have J441 : ∀ (t441_0 : Int32), km_curve_j441 ax ay bx bz cx cz t274_0 x401 x404 t418_0 t441_0 = RES → ∀ (ls : Array Slot) (H : Heap) (locs : List Loc), lv_has ls 23 [] → va_P (dC, dI) cls9 [(h0, .inr (2, [.int wd, .ref apx, .ref apy, .ref aon, .ref aen, .int cn, .int pn, .int x404.1, .int x404.2, .ref afi, .ref ase])), (apx, .inl (cJ, 256, .inr (.inl px))), (apy, .inl (cJ, 256, .inr (.inl py))), (aon, .inl (cZ, 256, .inl on)), (aen, .inl (cI, 256, .inl en)), (afi, .inl (cJ, 6, .inr (.inl x401.2.1))), (ase, .inl (cJ, 6, .inr (.inl x401.2.2)))] H → va_D A [(h0, .inr (2, [.int wd, .ref apx, .ref apy, .ref aon, .ref aen, .int cn, .int pn, .int x404.1, .int x404.2, .ref afi, .ref ase])), (apx, .inl (cJ, 256, .inr (.inl px))), (apy, .inl (cJ, 256, .inr (.inl py))), (aon, .inl (cZ, 256, .inl on)), (aen, .inl (cI, 256, .inl en)), (afi, .inl (cJ, 6, .inr (.inl x401.2.1))), (ase, .inl (cJ, 6, .inr (.inl x401.2.2)))] → va_S A s.heap H locs → W p l e R s m args below meth c H locs 0 0 Q (F0 m 441 ls [.int t441_0, .long cz, .long cx, .long bz, .long bx, .long ay, .long ax, .ref h0, .int t274_0, .int t418_0, .ref h0]) := by
                              intro t441_0 hres ls H locs hl hP hD hS
                              unfold km_curve_j441 at hres
                              refine cm_i (wc := [(h0, .inr (2, [.int wd, .ref apx, .ref apy, .ref aon, .ref aen, .int cn, .int pn, .int x404.1, .int x404.2, .ref afi, .ref ase])), (apx, .inl (cJ, 256, .inr (.inl px))), (apy, .inl (cJ, 256, .inr (.inl py))), (aon, .inl (cZ, 256, .inl on)), (aen, .inl (cI, 256, .inl en)), (afi, .inl (cJ, 6, .inr (.inl x401.2.1))), (ase, .inl (cJ, 6, .inr (.inl x401.2.2)))]) (wr := []) (W1 := [(h0, .inr (2, [.int wd, .ref apx, .ref apy, .ref aon, .ref aen, .int cn, .int pn, .int x404.1, .int x404.2, .ref afi, .ref ase])), (apx, .inl (cJ, 256, .inr (.inl px))), (apy, .inl (cJ, 256, .inr (.inl py))), (aon, .inl (cZ, 256, .inl on)), (aen, .inl (cI, 256, .inl en)), (afi, .inl (cJ, 6, .inr (.inl ((km_side x401.2.1 x401.2.2 ax ay bx bz cx cz t441_0).2.1)))), (ase, .inl (cJ, 6, .inr (.inl ((km_side x401.2.1 x401.2.2 ax ay bx bz cx cz t441_0).2.2))))]) (w2 := [(h0, .inr (2, [.int wd, .ref apx, .ref apy, .ref aon, .ref aen, .int cn, .int pn, .int x404.1, .int x404.2, .ref afi, .ref ase])), (apx, .inl (cJ, 256, .inr (.inl px))), (apy, .inl (cJ, 256, .inr (.inl py))), (aon, .inl (cZ, 256, .inl on)), (aen, .inl (cI, 256, .inl en)), (afi, .inl (cJ, 6, .inr (.inl ((km_side x401.2.1 x401.2.2 ax ay bx bz cx cz t441_0).2.1)))), (ase, .inl (cJ, 6, .inr (.inl ((km_side x401.2.1 x401.2.2 ax ay bx bz cx cz t441_0).2.2))))]) (va_runV (g := F0 m 441 ls [.int t441_0, .long cz, .long cx, .long bz, .long bx, .long ay, .long ax, .ref h0, .int t274_0, .int t418_0, .ref h0]) (As := [.long ax, .long ay, .long bx, .long bz, .long cx, .long cz, .int t441_0]) (rest := [.int t274_0, .int t418_0, .ref h0]) ⟨hx, hb, hml, hown, hts⟩ (c_km_side l dC dI h0 apx apy aon aen afi ase cJ cZ cI wd cn pn x404.1 x404.2 px py on en x401.2.1 x401.2.2 ax ay bx bz cx cz t441_0  _) (cwV 7 hts (gi_V tw_376 tw_378 ts_16 tw_6 tw_379) rfl rfl rfl (by decide +kernel) ⟨(by rw [← hR]; exact Nat.le_of_ble_eq_true rfl), (by rw [← hR]; exact Nat.le_of_ble_eq_true rfl)⟩) ⟨mc_blind, va_recv (ci := 2) (q := (R_M, F_M, 11)) hK hP rfl (q0 := 0) rfl, mc_pre (hP.sub [0, 1, 2, 3, 4, 5, 6] rfl) (hK.sub [0, 1, 2] rfl) (hD.sub [0, 1, 2, 3, 4, 5, 6] (by decide) rfl)⟩ rfl rfl hl.1 rfl (lv_room (Nat.le_of_ble_eq_true rfl)) d_M_curve_441 ⟨Nat.zero_le _, Nat.zero_le _⟩) hP hD hS hA [0, 1, 2, 3, 4, 5, 6] [] [0, 1, 2, 3, 4, 5, 6] rfl rfl (by decide) (by decide) rfl rfl (by decide) (fun H locs hP hD hS => ?_)
                              have K444 : ∀ (x441 : Int32 × (Nat → Int64) × (Nat → Int64)), km_curve_k444 t274_0 x404 t418_0 x441 = RES → ∀ (ls : Array Slot) (H : Heap) (locs : List Loc), lv_has ls 23 [] → va_P (dC, dI) cls9 [(h0, .inr (2, [.int wd, .ref apx, .ref apy, .ref aon, .ref aen, .int cn, .int pn, .int x404.1, .int x404.2, .ref afi, .ref ase])), (apx, .inl (cJ, 256, .inr (.inl px))), (apy, .inl (cJ, 256, .inr (.inl py))), (aon, .inl (cZ, 256, .inl on)), (aen, .inl (cI, 256, .inl en)), (afi, .inl (cJ, 6, .inr (.inl x441.2.1))), (ase, .inl (cJ, 6, .inr (.inl x441.2.2)))] H → va_D A [(h0, .inr (2, [.int wd, .ref apx, .ref apy, .ref aon, .ref aen, .int cn, .int pn, .int x404.1, .int x404.2, .ref afi, .ref ase])), (apx, .inl (cJ, 256, .inr (.inl px))), (apy, .inl (cJ, 256, .inr (.inl py))), (aon, .inl (cZ, 256, .inl on)), (aen, .inl (cI, 256, .inl en)), (afi, .inl (cJ, 6, .inr (.inl x441.2.1))), (ase, .inl (cJ, 6, .inr (.inl x441.2.2)))] → va_S A s.heap H locs → W p l e R s m args below meth c H locs 0 0 Q (F0 m 444 ls [.int x441.1, .int t274_0, .int t418_0, .ref h0]) := by
                                intro x441 hres ls H locs hl hP hD hS
                                unfold km_curve_k444 at hres
                                refine cm_v (wc := [(h0, .inr (2, [.int wd, .ref apx, .ref apy, .ref aon, .ref aen, .int cn, .int pn, .int x404.1, .int x404.2, .ref afi, .ref ase])), (apx, .inl (cJ, 256, .inr (.inl px))), (apy, .inl (cJ, 256, .inr (.inl py))), (aon, .inl (cZ, 256, .inl on)), (aen, .inl (cI, 256, .inl en)), (afi, .inl (cJ, 6, .inr (.inl x441.2.1))), (ase, .inl (cJ, 6, .inr (.inl x441.2.2)))]) (wr := []) (W1 := [(h0, .inr (2, [.int wd, .ref apx, .ref apy, .ref aon, .ref aen, .int cn, .int pn, .int ((km_cross x404.1 x404.2 t418_0 t274_0 x441.1).1), .int ((km_cross x404.1 x404.2 t418_0 t274_0 x441.1).2), .ref afi, .ref ase])), (apx, .inl (cJ, 256, .inr (.inl px))), (apy, .inl (cJ, 256, .inr (.inl py))), (aon, .inl (cZ, 256, .inl on)), (aen, .inl (cI, 256, .inl en)), (afi, .inl (cJ, 6, .inr (.inl x441.2.1))), (ase, .inl (cJ, 6, .inr (.inl x441.2.2)))]) (w2 := [(h0, .inr (2, [.int wd, .ref apx, .ref apy, .ref aon, .ref aen, .int cn, .int pn, .int ((km_cross x404.1 x404.2 t418_0 t274_0 x441.1).1), .int ((km_cross x404.1 x404.2 t418_0 t274_0 x441.1).2), .ref afi, .ref ase])), (apx, .inl (cJ, 256, .inr (.inl px))), (apy, .inl (cJ, 256, .inr (.inl py))), (aon, .inl (cZ, 256, .inl on)), (aen, .inl (cI, 256, .inl en)), (afi, .inl (cJ, 6, .inr (.inl x441.2.1))), (ase, .inl (cJ, 6, .inr (.inl x441.2.2)))]) (va_runV (g := F0 m 444 ls [.int x441.1, .int t274_0, .int t418_0, .ref h0]) (As := [.int t418_0, .int t274_0, .int x441.1]) (rest := []) ⟨hx, hb, hml, hown, hts⟩ (c_km_cross l dC dI h0 apx apy aon aen afi ase cJ cZ cI wd cn pn px py on en x441.2.1 x441.2.2 x404.1 x404.2 t418_0 t274_0 x441.1  _) (cwV 3 hts (gi_V tw_353 tw_355 ts_13 tw_6 tw_356) rfl rfl rfl (by decide +kernel) ⟨(by rw [← hR]; exact Nat.le_of_ble_eq_true rfl), (by rw [← hR]; exact Nat.le_of_ble_eq_true rfl)⟩) ⟨mc_blind, va_recv (ci := 2) (q := (R_M, F_M, 11)) hK hP rfl (q0 := 0) rfl, mc_pre (hP.sub [0, 1, 2, 3, 4, 5, 6] rfl) (hK.sub [0, 1, 2] rfl) (hD.sub [0, 1, 2, 3, 4, 5, 6] (by decide) rfl)⟩ rfl rfl hl.1 rfl (lv_room (Nat.le_of_ble_eq_true rfl)) d_M_curve_444 ⟨Nat.zero_le _, Nat.zero_le _⟩) hP hD hS hA [0, 1, 2, 3, 4, 5, 6] [] [0, 1, 2, 3, 4, 5, 6] rfl rfl (by decide) (by decide) rfl rfl (by decide) (fun H locs hP hD hS => ?_)
                                have K447 : ∀ (x444 : Int32 × Int32), km_curve_k447 x441 x444 = RES → ∀ (ls : Array Slot) (H : Heap) (locs : List Loc), lv_has ls 23 [] → va_P (dC, dI) cls9 [(h0, .inr (2, [.int wd, .ref apx, .ref apy, .ref aon, .ref aen, .int cn, .int pn, .int x444.1, .int x444.2, .ref afi, .ref ase])), (apx, .inl (cJ, 256, .inr (.inl px))), (apy, .inl (cJ, 256, .inr (.inl py))), (aon, .inl (cZ, 256, .inl on)), (aen, .inl (cI, 256, .inl en)), (afi, .inl (cJ, 6, .inr (.inl x441.2.1))), (ase, .inl (cJ, 6, .inr (.inl x441.2.2)))] H → va_D A [(h0, .inr (2, [.int wd, .ref apx, .ref apy, .ref aon, .ref aen, .int cn, .int pn, .int x444.1, .int x444.2, .ref afi, .ref ase])), (apx, .inl (cJ, 256, .inr (.inl px))), (apy, .inl (cJ, 256, .inr (.inl py))), (aon, .inl (cZ, 256, .inl on)), (aen, .inl (cI, 256, .inl en)), (afi, .inl (cJ, 6, .inr (.inl x441.2.1))), (ase, .inl (cJ, 6, .inr (.inl x441.2.2)))] → va_S A s.heap H locs → W p l e R s m args below meth c H locs 0 0 Q (F0 m 447 ls []) := by
                                  intro x444 hres ls H locs hl hP hD hS
                                  unfold km_curve_k447 at hres
                                  exact J447 x441.2.1 x441.2.2 x444.1 x444.2 hres ls _ _ (lv_sub hl [] rfl) hP hD hS
                                exact K447 (km_cross x404.1 x404.2 t418_0 t274_0 x441.1) hres ls _ _ (lv_sub hl [] rfl) hP hD hS
                              exact K444 (km_side x401.2.1 x401.2.2 ax ay bx bz cx cz t441_0) hres ls _ _ (lv_sub hl [] rfl) hP hD hS
                            refine lv_if_eq (tgt := 440) hx hb d_M_curve_433 rfl (fun h433 => ?_) (fun h433 => ?_)
                            · rw [if_pos h433] at hres
                              refine lv_iconst (v := (-1)) hx hb d_M_curve_440 (by decide) ?_
                              exact J441 (-1) hres ls _ _ (lv_sub hl [] rfl) hP hD hS
                            · rw [if_neg h433] at hres
                              refine lv_iconst (v := 1) hx hb d_M_curve_436 (by decide) ?_
                              refine lv_goto (tgt := 441) hx hb d_M_curve_437 rfl ?_
                              exact J441 1 hres ls _ _ (lv_sub hl [] rfl) hP hD hS
                          refine lv_if_ne (tgt := 417) hx hb d_M_curve_410 rfl (fun h410 => ?_) (fun h410 => ?_)
                          · rw [if_neg h410] at hres
                            refine lv_iconst (v := 0) hx hb d_M_curve_417 (by decide) ?_
                            exact J418 0 hres ls _ _ (lv_sub hl [0, 1, 2, 3, 4, 5, 6, 7] rfl) hP hD hS
                          · rw [if_pos h410] at hres
                            refine lv_iconst (v := 1) hx hb d_M_curve_413 (by decide) ?_
                            refine lv_goto (tgt := 418) hx hb d_M_curve_414 rfl ?_
                            exact J418 1 hres ls _ _ (lv_sub hl [0, 1, 2, 3, 4, 5, 6, 7] rfl) hP hD hS
                        exact K407 (km_cross t255_2 tn t274_0 t380_0 x401.1) hres ls _ _ (lv_sub hl [0, 1, 2, 3, 4, 5, 6, 7] rfl) hP hD hS
                      exact K404 (km_side t255_0 t255_1 ax ay bx bz cx cz t401_0) hres ls _ _ (lv_sub hl [0, 1, 2, 3, 4, 5, 6, 7] rfl) hP hD hS
                    refine lv_if_eq (tgt := 400) hx hb d_M_curve_393 rfl (fun h393 => ?_) (fun h393 => ?_)
                    · rw [if_pos h393] at hres
                      refine lv_iconst (v := 1) hx hb d_M_curve_400 (by decide) ?_
                      exact J401 1 hres ls _ _ (lv_sub hl [0, 1, 2, 3, 4, 5, 6, 7] rfl) hP hD hS
                    · rw [if_neg h393] at hres
                      refine lv_iconst (v := (-1)) hx hb d_M_curve_396 (by decide) ?_
                      refine lv_goto (tgt := 401) hx hb d_M_curve_397 rfl ?_
                      exact J401 (-1) hres ls _ _ (lv_sub hl [0, 1, 2, 3, 4, 5, 6, 7] rfl) hP hD hS
                  refine lv_if_ne (tgt := 379) hx hb d_M_curve_372 rfl (fun h372 => ?_) (fun h372 => ?_)
                  · rw [if_neg h372] at hres
                    refine lv_iconst (v := 0) hx hb d_M_curve_379 (by decide) ?_
                    exact J380 0 hres ls _ _ (lv_sub hl [0, 1, 2, 3, 4, 5, 6, 7] rfl) hP hD hS
                  · rw [if_pos h372] at hres
                    refine lv_iconst (v := 1) hx hb d_M_curve_375 (by decide) ?_
                    refine lv_goto (tgt := 380) hx hb d_M_curve_376 rfl ?_
                    exact J380 1 hres ls _ _ (lv_sub hl [0, 1, 2, 3, 4, 5, 6, 7] rfl) hP hD hS
              refine lv_if_eq (tgt := 347) hx hb d_M_curve_334 rfl (fun h334 => ?_) (fun h334 => ?_)
              · rw [if_pos h334] at hres
                refine lv_lload hx hb d_M_curve_347 (lv_at hl 6 rfl) ?_
                refine lv_lconst (v := 0) hx hb d_M_curve_349 (by decide) ?_
                refine W.lcmp hx hb d_M_curve_350 ?_
                refine lv_if_le (tgt := 447) hx hb d_M_curve_351 rfl (fun h351 => ?_) (fun h351 => ?_)
                · rw [if_pos h351] at hres
                  exact J447 t255_0 t255_1 t255_2 tn hres ls _ _ (lv_sub hl [] rfl) hP hD hS
                · rw [if_neg h351] at hres
                  exact J354  hres ls _ _ (lv_sub hl [1, 2, 3, 4, 5, 6, 7, 8] rfl) hP hD hS
              · rw [if_neg h334] at hres
                refine lv_lload hx hb d_M_curve_337 (lv_at hl 6 rfl) ?_
                refine lv_lconst (v := 0) hx hb d_M_curve_339 (by decide) ?_
                refine W.lcmp hx hb d_M_curve_340 ?_
                refine lv_if_ge (tgt := 447) hx hb d_M_curve_341 rfl (fun h341 => ?_) (fun h341 => ?_)
                · rw [if_pos h341] at hres
                  exact J447 t255_0 t255_1 t255_2 tn hres ls _ _ (lv_sub hl [] rfl) hP hD hS
                · rw [if_neg h341] at hres
                  refine lv_goto (tgt := 354) hx hb d_M_curve_344 rfl ?_
                  exact J354  hres ls _ _ (lv_sub hl [1, 2, 3, 4, 5, 6, 7, 8] rfl) hP hD hS
            · rw [if_neg h294] at hres
              refine lv_aload_n hx hb d_M_curve_297 rfl (lv_at hl 2 rfl) ?_
              refine lv_iload hx hb d_M_curve_298 (lv_at hl 1 rfl) ?_
              refine lv_iload hx hb d_M_curve_300 (lv_at hl 0 rfl) ?_
              refine lv_aload_n hx hb d_M_curve_302 rfl (lv_at hl 2 rfl) ?_
              refine lv_lload_n hx hb d_M_curve_303 rfl (lv_at hl 3 rfl) ?_
              refine lv_lload_n hx hb d_M_curve_304 rfl (lv_at hl 4 rfl) ?_
              refine lv_lload hx hb d_M_curve_305 (lv_at hl 5 rfl) ?_
              refine lv_lload hx hb d_M_curve_307 (lv_at hl 6 rfl) ?_
              refine lv_lload hx hb d_M_curve_309 (lv_at hl 7 rfl) ?_
              refine lv_lload hx hb d_M_curve_311 (lv_at hl 8 rfl) ?_
              refine lv_iload hx hb d_M_curve_313 (lv_at hl 0 rfl) ?_
              have J323 : ∀ (t323_0 : Int32), km_curve_j323 tn ax ay bx bz cx cz t255_0 t255_1 t255_2 t274_0 t288_0 t323_0 = RES → ∀ (ls : Array Slot) (H : Heap) (locs : List Loc), lv_has ls 23 [] → va_P (dC, dI) cls9 [(h0, .inr (2, [.int wd, .ref apx, .ref apy, .ref aon, .ref aen, .int cn, .int pn, .int t255_2, .int tn, .ref afi, .ref ase])), (apx, .inl (cJ, 256, .inr (.inl px))), (apy, .inl (cJ, 256, .inr (.inl py))), (aon, .inl (cZ, 256, .inl on)), (aen, .inl (cI, 256, .inl en)), (afi, .inl (cJ, 6, .inr (.inl t255_0))), (ase, .inl (cJ, 6, .inr (.inl t255_1)))] H → va_D A [(h0, .inr (2, [.int wd, .ref apx, .ref apy, .ref aon, .ref aen, .int cn, .int pn, .int t255_2, .int tn, .ref afi, .ref ase])), (apx, .inl (cJ, 256, .inr (.inl px))), (apy, .inl (cJ, 256, .inr (.inl py))), (aon, .inl (cZ, 256, .inl on)), (aen, .inl (cI, 256, .inl en)), (afi, .inl (cJ, 6, .inr (.inl t255_0))), (ase, .inl (cJ, 6, .inr (.inl t255_1)))] → va_S A s.heap H locs → W p l e R s m args below meth c H locs 0 0 Q (F0 m 323 ls [.int t323_0, .long cz, .long cx, .long bz, .long bx, .long ay, .long ax, .ref h0, .int t288_0, .int t274_0, .ref h0]) := by
                intro t323_0 hres ls H locs hl hP hD hS
                unfold km_curve_j323 at hres
                refine cm_i (wc := [(h0, .inr (2, [.int wd, .ref apx, .ref apy, .ref aon, .ref aen, .int cn, .int pn, .int t255_2, .int tn, .ref afi, .ref ase])), (apx, .inl (cJ, 256, .inr (.inl px))), (apy, .inl (cJ, 256, .inr (.inl py))), (aon, .inl (cZ, 256, .inl on)), (aen, .inl (cI, 256, .inl en)), (afi, .inl (cJ, 6, .inr (.inl t255_0))), (ase, .inl (cJ, 6, .inr (.inl t255_1)))]) (wr := []) (W1 := [(h0, .inr (2, [.int wd, .ref apx, .ref apy, .ref aon, .ref aen, .int cn, .int pn, .int t255_2, .int tn, .ref afi, .ref ase])), (apx, .inl (cJ, 256, .inr (.inl px))), (apy, .inl (cJ, 256, .inr (.inl py))), (aon, .inl (cZ, 256, .inl on)), (aen, .inl (cI, 256, .inl en)), (afi, .inl (cJ, 6, .inr (.inl ((km_side t255_0 t255_1 ax ay bx bz cx cz t323_0).2.1)))), (ase, .inl (cJ, 6, .inr (.inl ((km_side t255_0 t255_1 ax ay bx bz cx cz t323_0).2.2))))]) (w2 := [(h0, .inr (2, [.int wd, .ref apx, .ref apy, .ref aon, .ref aen, .int cn, .int pn, .int t255_2, .int tn, .ref afi, .ref ase])), (apx, .inl (cJ, 256, .inr (.inl px))), (apy, .inl (cJ, 256, .inr (.inl py))), (aon, .inl (cZ, 256, .inl on)), (aen, .inl (cI, 256, .inl en)), (afi, .inl (cJ, 6, .inr (.inl ((km_side t255_0 t255_1 ax ay bx bz cx cz t323_0).2.1)))), (ase, .inl (cJ, 6, .inr (.inl ((km_side t255_0 t255_1 ax ay bx bz cx cz t323_0).2.2))))]) (va_runV (g := F0 m 323 ls [.int t323_0, .long cz, .long cx, .long bz, .long bx, .long ay, .long ax, .ref h0, .int t288_0, .int t274_0, .ref h0]) (As := [.long ax, .long ay, .long bx, .long bz, .long cx, .long cz, .int t323_0]) (rest := [.int t288_0, .int t274_0, .ref h0]) ⟨hx, hb, hml, hown, hts⟩ (c_km_side l dC dI h0 apx apy aon aen afi ase cJ cZ cI wd cn pn t255_2 tn px py on en t255_0 t255_1 ax ay bx bz cx cz t323_0  _) (cwV 7 hts (gi_V tw_376 tw_378 ts_16 tw_6 tw_379) rfl rfl rfl (by decide +kernel) ⟨(by rw [← hR]; exact Nat.le_of_ble_eq_true rfl), (by rw [← hR]; exact Nat.le_of_ble_eq_true rfl)⟩) ⟨mc_blind, va_recv (ci := 2) (q := (R_M, F_M, 11)) hK hP rfl (q0 := 0) rfl, mc_pre (hP.sub [0, 1, 2, 3, 4, 5, 6] rfl) (hK.sub [0, 1, 2] rfl) (hD.sub [0, 1, 2, 3, 4, 5, 6] (by decide) rfl)⟩ rfl rfl hl.1 rfl (lv_room (Nat.le_of_ble_eq_true rfl)) d_M_curve_323 ⟨Nat.zero_le _, Nat.zero_le _⟩) hP hD hS hA [0, 1, 2, 3, 4, 5, 6] [] [0, 1, 2, 3, 4, 5, 6] rfl rfl (by decide) (by decide) rfl rfl (by decide) (fun H locs hP hD hS => ?_)
                have K326 : ∀ (x323 : Int32 × (Nat → Int64) × (Nat → Int64)), km_curve_k326 tn t255_2 t274_0 t288_0 x323 = RES → ∀ (ls : Array Slot) (H : Heap) (locs : List Loc), lv_has ls 23 [] → va_P (dC, dI) cls9 [(h0, .inr (2, [.int wd, .ref apx, .ref apy, .ref aon, .ref aen, .int cn, .int pn, .int t255_2, .int tn, .ref afi, .ref ase])), (apx, .inl (cJ, 256, .inr (.inl px))), (apy, .inl (cJ, 256, .inr (.inl py))), (aon, .inl (cZ, 256, .inl on)), (aen, .inl (cI, 256, .inl en)), (afi, .inl (cJ, 6, .inr (.inl x323.2.1))), (ase, .inl (cJ, 6, .inr (.inl x323.2.2)))] H → va_D A [(h0, .inr (2, [.int wd, .ref apx, .ref apy, .ref aon, .ref aen, .int cn, .int pn, .int t255_2, .int tn, .ref afi, .ref ase])), (apx, .inl (cJ, 256, .inr (.inl px))), (apy, .inl (cJ, 256, .inr (.inl py))), (aon, .inl (cZ, 256, .inl on)), (aen, .inl (cI, 256, .inl en)), (afi, .inl (cJ, 6, .inr (.inl x323.2.1))), (ase, .inl (cJ, 6, .inr (.inl x323.2.2)))] → va_S A s.heap H locs → W p l e R s m args below meth c H locs 0 0 Q (F0 m 326 ls [.int x323.1, .int t288_0, .int t274_0, .ref h0]) := by
                  intro x323 hres ls H locs hl hP hD hS
                  unfold km_curve_k326 at hres
                  refine cm_v (wc := [(h0, .inr (2, [.int wd, .ref apx, .ref apy, .ref aon, .ref aen, .int cn, .int pn, .int t255_2, .int tn, .ref afi, .ref ase])), (apx, .inl (cJ, 256, .inr (.inl px))), (apy, .inl (cJ, 256, .inr (.inl py))), (aon, .inl (cZ, 256, .inl on)), (aen, .inl (cI, 256, .inl en)), (afi, .inl (cJ, 6, .inr (.inl x323.2.1))), (ase, .inl (cJ, 6, .inr (.inl x323.2.2)))]) (wr := []) (W1 := [(h0, .inr (2, [.int wd, .ref apx, .ref apy, .ref aon, .ref aen, .int cn, .int pn, .int ((km_cross t255_2 tn t274_0 t288_0 x323.1).1), .int ((km_cross t255_2 tn t274_0 t288_0 x323.1).2), .ref afi, .ref ase])), (apx, .inl (cJ, 256, .inr (.inl px))), (apy, .inl (cJ, 256, .inr (.inl py))), (aon, .inl (cZ, 256, .inl on)), (aen, .inl (cI, 256, .inl en)), (afi, .inl (cJ, 6, .inr (.inl x323.2.1))), (ase, .inl (cJ, 6, .inr (.inl x323.2.2)))]) (w2 := [(h0, .inr (2, [.int wd, .ref apx, .ref apy, .ref aon, .ref aen, .int cn, .int pn, .int ((km_cross t255_2 tn t274_0 t288_0 x323.1).1), .int ((km_cross t255_2 tn t274_0 t288_0 x323.1).2), .ref afi, .ref ase])), (apx, .inl (cJ, 256, .inr (.inl px))), (apy, .inl (cJ, 256, .inr (.inl py))), (aon, .inl (cZ, 256, .inl on)), (aen, .inl (cI, 256, .inl en)), (afi, .inl (cJ, 6, .inr (.inl x323.2.1))), (ase, .inl (cJ, 6, .inr (.inl x323.2.2)))]) (va_runV (g := F0 m 326 ls [.int x323.1, .int t288_0, .int t274_0, .ref h0]) (As := [.int t274_0, .int t288_0, .int x323.1]) (rest := []) ⟨hx, hb, hml, hown, hts⟩ (c_km_cross l dC dI h0 apx apy aon aen afi ase cJ cZ cI wd cn pn px py on en x323.2.1 x323.2.2 t255_2 tn t274_0 t288_0 x323.1  _) (cwV 3 hts (gi_V tw_353 tw_355 ts_13 tw_6 tw_356) rfl rfl rfl (by decide +kernel) ⟨(by rw [← hR]; exact Nat.le_of_ble_eq_true rfl), (by rw [← hR]; exact Nat.le_of_ble_eq_true rfl)⟩) ⟨mc_blind, va_recv (ci := 2) (q := (R_M, F_M, 11)) hK hP rfl (q0 := 0) rfl, mc_pre (hP.sub [0, 1, 2, 3, 4, 5, 6] rfl) (hK.sub [0, 1, 2] rfl) (hD.sub [0, 1, 2, 3, 4, 5, 6] (by decide) rfl)⟩ rfl rfl hl.1 rfl (lv_room (Nat.le_of_ble_eq_true rfl)) d_M_curve_326 ⟨Nat.zero_le _, Nat.zero_le _⟩) hP hD hS hA [0, 1, 2, 3, 4, 5, 6] [] [0, 1, 2, 3, 4, 5, 6] rfl rfl (by decide) (by decide) rfl rfl (by decide) (fun H locs hP hD hS => ?_)
                  have K329 : ∀ (x326 : Int32 × Int32), km_curve_k329 x323 x326 = RES → ∀ (ls : Array Slot) (H : Heap) (locs : List Loc), lv_has ls 23 [] → va_P (dC, dI) cls9 [(h0, .inr (2, [.int wd, .ref apx, .ref apy, .ref aon, .ref aen, .int cn, .int pn, .int x326.1, .int x326.2, .ref afi, .ref ase])), (apx, .inl (cJ, 256, .inr (.inl px))), (apy, .inl (cJ, 256, .inr (.inl py))), (aon, .inl (cZ, 256, .inl on)), (aen, .inl (cI, 256, .inl en)), (afi, .inl (cJ, 6, .inr (.inl x323.2.1))), (ase, .inl (cJ, 6, .inr (.inl x323.2.2)))] H → va_D A [(h0, .inr (2, [.int wd, .ref apx, .ref apy, .ref aon, .ref aen, .int cn, .int pn, .int x326.1, .int x326.2, .ref afi, .ref ase])), (apx, .inl (cJ, 256, .inr (.inl px))), (apy, .inl (cJ, 256, .inr (.inl py))), (aon, .inl (cZ, 256, .inl on)), (aen, .inl (cI, 256, .inl en)), (afi, .inl (cJ, 6, .inr (.inl x323.2.1))), (ase, .inl (cJ, 6, .inr (.inl x323.2.2)))] → va_S A s.heap H locs → W p l e R s m args below meth c H locs 0 0 Q (F0 m 329 ls []) := by
                    intro x326 hres ls H locs hl hP hD hS
                    unfold km_curve_k329 at hres
                    refine lv_goto (tgt := 447) hx hb d_M_curve_329 rfl ?_
                    exact J447 x323.2.1 x323.2.2 x326.1 x326.2 hres ls _ _ (lv_sub hl [] rfl) hP hD hS
                  exact K329 (km_cross t255_2 tn t274_0 t288_0 x323.1) hres ls _ _ (lv_sub hl [] rfl) hP hD hS
                exact K326 (km_side t255_0 t255_1 ax ay bx bz cx cz t323_0) hres ls _ _ (lv_sub hl [] rfl) hP hD hS
              refine lv_if_eq (tgt := 322) hx hb d_M_curve_315 rfl (fun h315 => ?_) (fun h315 => ?_)
              · rw [if_pos h315] at hres
                refine lv_iconst (v := (-1)) hx hb d_M_curve_322 (by decide) ?_
                exact J323 (-1) hres ls _ _ (lv_sub hl [] rfl) hP hD hS
              · rw [if_neg h315] at hres
                refine lv_iconst (v := 1) hx hb d_M_curve_318 (by decide) ?_
                refine lv_goto (tgt := 323) hx hb d_M_curve_319 rfl ?_
                exact J323 1 hres ls _ _ (lv_sub hl [] rfl) hP hD hS
          refine lv_if_lt (tgt := 287) hx hb d_M_curve_280 rfl (fun h280 => ?_) (fun h280 => ?_)
          · rw [if_pos h280] at hres
            refine lv_iconst (v := 0) hx hb d_M_curve_287 (by decide) ?_
            exact J288 0 hres ls _ _ (lv_sub hl [0, 1, 2, 3, 4, 5, 6, 7] rfl) hP hD hS
          · rw [if_neg h280] at hres
            refine lv_iconst (v := 1) hx hb d_M_curve_283 (by decide) ?_
            refine lv_goto (tgt := 288) hx hb d_M_curve_284 rfl ?_
            exact J288 1 hres ls _ _ (lv_sub hl [0, 1, 2, 3, 4, 5, 6, 7] rfl) hP hD hS
        refine lv_if_lt (tgt := 273) hx hb d_M_curve_266 rfl (fun h266 => ?_) (fun h266 => ?_)
        · rw [if_pos h266] at hres
          refine lv_iconst (v := 0) hx hb d_M_curve_273 (by decide) ?_
          exact J274 0 hres ls _ _ (lv_sub hl [0, 1, 2, 3, 4, 5, 6] rfl) hP hD hS
        · rw [if_neg h266] at hres
          refine lv_iconst (v := 1) hx hb d_M_curve_269 (by decide) ?_
          refine lv_goto (tgt := 274) hx hb d_M_curve_270 rfl ?_
          exact J274 1 hres ls _ _ (lv_sub hl [0, 1, 2, 3, 4, 5, 6] rfl) hP hD hS
      · rw [if_neg h259] at hres
        rw [hQ]
        subst hres
        exact W.vret hx hb hr (fun t ht hW => ⟨⟨(), rfl, trivial, ⟨by rw [ht]; exact hP, va_K.moved hW.alike hK, hD⟩⟩, hS.F ht⟩) hS.2.2 d_M_curve_262
    refine lv_if_ne (tgt := 185) hx hb d_M_curve_49 rfl (fun h49 => ?_) (fun h49 => ?_)
    · rw [if_neg h49] at hres
      refine lv_lload hx hb d_M_curve_185 (lv_at hl 0 rfl) ?_
      refine cq_Si (As := [.long v45_l19]) (rest := []) ⟨hx, hb, hml, hown, hts⟩ (c_km_sign l dC dI v45_l19) (va_cwS 1 hts (gi_S tw_350 tw_351 tw_6 tw_352) rfl rfl rfl (by decide +kernel) ⟨(by rw [← hR]; exact Nat.le_of_ble_eq_true rfl), (by rw [← hR]; exact Nat.le_of_ble_eq_true rfl)⟩) rfl rfl hl.1 (Nat.le_of_ble_eq_true rfl) d_M_curve_187 ⟨Nat.zero_le _, Nat.zero_le _⟩ hP hS hA (fun H locs hP hS => ?_)
      refine lv_istore (lv' := [(21, .int (km_sign v45_l19)), (19, .long v45_l19), (17, .long v45_l17), (15, .long v45_l15), (13, .long v45_l13), (0, .ref h0), (1, .long ax), (3, .long ay), (5, .long bx), (7, .long bz), (9, .long cx), (11, .long cz)]) hx hb d_M_curve_190 hl (by decide) rfl (fun ls hl => ?_)
      refine lv_iload hx hb d_M_curve_192 (lv_at hl 0 rfl) ?_
      refine lv_i2l (v := Int32.toInt64 (km_sign v45_l19)) hx hb d_M_curve_194 rfl ?_
      refine lv_lload hx hb d_M_curve_195 (lv_at hl 4 rfl) ?_
      refine lv_lmul hx hb d_M_curve_197 ?_
      refine lv_lconst (v := 0) hx hb d_M_curve_198 (by decide) ?_
      refine W.lcmp hx hb d_M_curve_199 ?_
      refine lv_if_lt (tgt := 255) hx hb d_M_curve_200 rfl (fun h200 => ?_) (fun h200 => ?_)
      · rw [if_pos h200] at hres
        exact J255 fi se tc hres ls _ _ (lv_sub hl [5, 6, 7, 8, 9, 10, 11] rfl) hP hD hS
      · rw [if_neg h200] at hres
        refine lv_iload hx hb d_M_curve_203 (lv_at hl 0 rfl) ?_
        refine lv_i2l (v := Int32.toInt64 (km_sign v45_l19)) hx hb d_M_curve_205 rfl ?_
        refine lv_lload hx hb d_M_curve_206 (lv_at hl 3 rfl) ?_
        refine lv_lmul hx hb d_M_curve_208 ?_
        refine lv_lconst (v := 0) hx hb d_M_curve_209 (by decide) ?_
        refine W.lcmp hx hb d_M_curve_210 ?_
        refine lv_if_lt (tgt := 255) hx hb d_M_curve_211 rfl (fun h211 => ?_) (fun h211 => ?_)
        · rw [if_pos h211] at hres
          exact J255 fi se tc hres ls _ _ (lv_sub hl [5, 6, 7, 8, 9, 10, 11] rfl) hP hD hS
        · rw [if_neg h211] at hres
          refine lv_iload hx hb d_M_curve_214 (lv_at hl 0 rfl) ?_
          refine lv_i2l (v := Int32.toInt64 (km_sign v45_l19)) hx hb d_M_curve_216 rfl ?_
          refine lv_lload hx hb d_M_curve_217 (lv_at hl 2 rfl) ?_
          refine lv_lmul hx hb d_M_curve_219 ?_
          refine lv_lconst (v := 0) hx hb d_M_curve_220 (by decide) ?_
          refine W.lcmp hx hb d_M_curve_221 ?_
          refine lv_if_lt (tgt := 255) hx hb d_M_curve_222 rfl (fun h222 => ?_) (fun h222 => ?_)
          · rw [if_pos h222] at hres
            exact J255 fi se tc hres ls _ _ (lv_sub hl [5, 6, 7, 8, 9, 10, 11] rfl) hP hD hS
          · rw [if_neg h222] at hres
            refine lv_aload_n hx hb d_M_curve_225 rfl (lv_at hl 5 rfl) ?_
            refine lv_iload hx hb d_M_curve_226 (lv_at hl 0 rfl) ?_
            refine lv_i2l (v := Int32.toInt64 (km_sign v45_l19)) hx hb d_M_curve_228 rfl ?_
            refine lv_lload hx hb d_M_curve_229 (lv_at hl 4 rfl) ?_
            refine lv_lmul hx hb d_M_curve_231 ?_
            refine lv_iload hx hb d_M_curve_232 (lv_at hl 0 rfl) ?_
            refine lv_i2l (v := Int32.toInt64 (km_sign v45_l19)) hx hb d_M_curve_234 rfl ?_
            refine lv_lload hx hb d_M_curve_235 (lv_at hl 3 rfl) ?_
            refine lv_lmul hx hb d_M_curve_237 ?_
            refine lv_iload hx hb d_M_curve_238 (lv_at hl 0 rfl) ?_
            refine lv_i2l (v := Int32.toInt64 (km_sign v45_l19)) hx hb d_M_curve_240 rfl ?_
            refine lv_lload hx hb d_M_curve_241 (lv_at hl 2 rfl) ?_
            refine lv_lmul hx hb d_M_curve_243 ?_
            refine cm_i (wc := [(h0, .inr (2, [.int wd, .ref apx, .ref apy, .ref aon, .ref aen, .int cn, .int pn, .int tc, .int tn, .ref afi, .ref ase])), (apx, .inl (cJ, 256, .inr (.inl px))), (apy, .inl (cJ, 256, .inr (.inl py))), (aon, .inl (cZ, 256, .inl on)), (aen, .inl (cI, 256, .inl en)), (afi, .inl (cJ, 6, .inr (.inl fi))), (ase, .inl (cJ, 6, .inr (.inl se)))]) (wr := []) (W1 := [(h0, .inr (2, [.int wd, .ref apx, .ref apy, .ref aon, .ref aen, .int cn, .int pn, .int tc, .int tn, .ref afi, .ref ase])), (apx, .inl (cJ, 256, .inr (.inl px))), (apy, .inl (cJ, 256, .inr (.inl py))), (aon, .inl (cZ, 256, .inl on)), (aen, .inl (cI, 256, .inl en)), (afi, .inl (cJ, 6, .inr (.inl ((km_thr fi se ((Int32.toInt64 (km_sign v45_l19)) * v45_l13) ((Int32.toInt64 (km_sign v45_l19)) * v45_l15) ((Int32.toInt64 (km_sign v45_l19)) * v45_l17)).2.1)))), (ase, .inl (cJ, 6, .inr (.inl ((km_thr fi se ((Int32.toInt64 (km_sign v45_l19)) * v45_l13) ((Int32.toInt64 (km_sign v45_l19)) * v45_l15) ((Int32.toInt64 (km_sign v45_l19)) * v45_l17)).2.2))))]) (w2 := [(h0, .inr (2, [.int wd, .ref apx, .ref apy, .ref aon, .ref aen, .int cn, .int pn, .int tc, .int tn, .ref afi, .ref ase])), (apx, .inl (cJ, 256, .inr (.inl px))), (apy, .inl (cJ, 256, .inr (.inl py))), (aon, .inl (cZ, 256, .inl on)), (aen, .inl (cI, 256, .inl en)), (afi, .inl (cJ, 6, .inr (.inl ((km_thr fi se ((Int32.toInt64 (km_sign v45_l19)) * v45_l13) ((Int32.toInt64 (km_sign v45_l19)) * v45_l15) ((Int32.toInt64 (km_sign v45_l19)) * v45_l17)).2.1)))), (ase, .inl (cJ, 6, .inr (.inl ((km_thr fi se ((Int32.toInt64 (km_sign v45_l19)) * v45_l13) ((Int32.toInt64 (km_sign v45_l19)) * v45_l15) ((Int32.toInt64 (km_sign v45_l19)) * v45_l17)).2.2))))]) (va_runV (g := F0 m 244 ls [.long ((Int32.toInt64 (km_sign v45_l19)) * v45_l17), .long ((Int32.toInt64 (km_sign v45_l19)) * v45_l15), .long ((Int32.toInt64 (km_sign v45_l19)) * v45_l13), .ref h0]) (As := [.long ((Int32.toInt64 (km_sign v45_l19)) * v45_l13), .long ((Int32.toInt64 (km_sign v45_l19)) * v45_l15), .long ((Int32.toInt64 (km_sign v45_l19)) * v45_l17)]) (rest := []) ⟨hx, hb, hml, hown, hts⟩ (c_km_thr l dC dI h0 apx apy aon aen afi ase cJ cZ cI wd cn pn tc tn px py on en fi se ((Int32.toInt64 (km_sign v45_l19)) * v45_l13) ((Int32.toInt64 (km_sign v45_l19)) * v45_l15) ((Int32.toInt64 (km_sign v45_l19)) * v45_l17)  _) (cwV 3 hts (gi_V tw_364 tw_366 ts_15 tw_6 tw_367) rfl rfl rfl (by decide +kernel) ⟨(by rw [← hR]; exact Nat.le_of_ble_eq_true rfl), (by rw [← hR]; exact Nat.le_of_ble_eq_true rfl)⟩) ⟨mc_blind, va_recv (ci := 2) (q := (R_M, F_M, 11)) hK hP rfl (q0 := 0) rfl, mc_pre (hP.sub [0, 1, 2, 3, 4, 5, 6] rfl) (hK.sub [0, 1, 2] rfl) (hD.sub [0, 1, 2, 3, 4, 5, 6] (by decide) rfl)⟩ rfl rfl hl.1 rfl (lv_room (Nat.le_of_ble_eq_true rfl)) d_M_curve_244 ⟨Nat.zero_le _, Nat.zero_le _⟩) hP hD hS hA [0, 1, 2, 3, 4, 5, 6] [] [0, 1, 2, 3, 4, 5, 6] rfl rfl (by decide) (by decide) rfl rfl (by decide) (fun H locs hP hD hS => ?_)
            have K247 : ∀ (x244 : Int32 × (Nat → Int64) × (Nat → Int64)), km_curve_k247 tc tn ax ay bx bz cx cz x244 = RES → ∀ (ls : Array Slot) (H : Heap) (locs : List Loc), lv_has ls 23 [(21, .int (km_sign v45_l19)), (19, .long v45_l19), (17, .long v45_l17), (15, .long v45_l15), (13, .long v45_l13), (0, .ref h0), (1, .long ax), (3, .long ay), (5, .long bx), (7, .long bz), (9, .long cx), (11, .long cz)] → va_P (dC, dI) cls9 [(h0, .inr (2, [.int wd, .ref apx, .ref apy, .ref aon, .ref aen, .int cn, .int pn, .int tc, .int tn, .ref afi, .ref ase])), (apx, .inl (cJ, 256, .inr (.inl px))), (apy, .inl (cJ, 256, .inr (.inl py))), (aon, .inl (cZ, 256, .inl on)), (aen, .inl (cI, 256, .inl en)), (afi, .inl (cJ, 6, .inr (.inl x244.2.1))), (ase, .inl (cJ, 6, .inr (.inl x244.2.2)))] H → va_D A [(h0, .inr (2, [.int wd, .ref apx, .ref apy, .ref aon, .ref aen, .int cn, .int pn, .int tc, .int tn, .ref afi, .ref ase])), (apx, .inl (cJ, 256, .inr (.inl px))), (apy, .inl (cJ, 256, .inr (.inl py))), (aon, .inl (cZ, 256, .inl on)), (aen, .inl (cI, 256, .inl en)), (afi, .inl (cJ, 6, .inr (.inl x244.2.1))), (ase, .inl (cJ, 6, .inr (.inl x244.2.2)))] → va_S A s.heap H locs → W p l e R s m args below meth c H locs 0 0 Q (F0 m 247 ls [.int x244.1]) := by
              intro x244 hres ls H locs hl hP hD hS
              unfold km_curve_k247 at hres
              refine lv_if_eq (tgt := 255) hx hb d_M_curve_247 rfl (fun h247 => ?_) (fun h247 => ?_)
              · rw [if_pos h247] at hres
                exact J255 x244.2.1 x244.2.2 tc hres ls _ _ (lv_sub hl [5, 6, 7, 8, 9, 10, 11] rfl) hP hD hS
              · rw [if_neg h247] at hres
                refine lv_aload_n hx hb d_M_curve_250 rfl (lv_at hl 5 rfl) ?_
                refine lv_iconst (v := 1) hx hb d_M_curve_251 (by decide) ?_
                refine va_put (D := (dC, dI)) (ci := 2) (v := .int 1) (ty := .boolean) (C := R_M) (T := F_M) (N := 11) hx hb hts in_M tf_M tok_M n_M hown hK hP hD hS 0 rfl rfl 7 (by decide) (hts _ tw_286) (fun _ h9 => h9) rfl (by decide +kernel) (by rfl) (by rfl) (Nat.le_of_ble_eq_true rfl) d_M_curve_252 (fun H locs hP hD hS => ?_)
                have hP : va_P (dC, dI) cls9 [(h0, .inr (2, [.int wd, .ref apx, .ref apy, .ref aon, .ref aen, .int cn, .int pn, .int 1, .int tn, .ref afi, .ref ase])), (apx, .inl (cJ, 256, .inr (.inl px))), (apy, .inl (cJ, 256, .inr (.inl py))), (aon, .inl (cZ, 256, .inl on)), (aen, .inl (cI, 256, .inl en)), (afi, .inl (cJ, 6, .inr (.inl x244.2.1))), (ase, .inl (cJ, 6, .inr (.inl x244.2.2)))] H := hP
                have hD : va_D A [(h0, .inr (2, [.int wd, .ref apx, .ref apy, .ref aon, .ref aen, .int cn, .int pn, .int 1, .int tn, .ref afi, .ref ase])), (apx, .inl (cJ, 256, .inr (.inl px))), (apy, .inl (cJ, 256, .inr (.inl py))), (aon, .inl (cZ, 256, .inl on)), (aen, .inl (cI, 256, .inl en)), (afi, .inl (cJ, 6, .inr (.inl x244.2.1))), (ase, .inl (cJ, 6, .inr (.inl x244.2.2)))] := hD
                exact J255 x244.2.1 x244.2.2 1 hres ls _ _ (lv_sub hl [5, 6, 7, 8, 9, 10, 11] rfl) hP hD hS
            exact K247 (km_thr fi se ((Int32.toInt64 (km_sign v45_l19)) * v45_l13) ((Int32.toInt64 (km_sign v45_l19)) * v45_l15) ((Int32.toInt64 (km_sign v45_l19)) * v45_l17)) hres ls _ _ (lv_sub hl [0, 1, 2, 3, 4, 5, 6, 7, 8, 9, 10, 11] rfl) hP hD hS
    · rw [if_pos h49] at hres
      refine lv_lload_n hx hb d_M_curve_52 rfl (lv_at hl 5 rfl) ?_
      refine lv_lload hx hb d_M_curve_53 (lv_at hl 7 rfl) ?_
      refine W.lcmp hx hb d_M_curve_55 ?_
      have J72 : ∀ (t72_0 : Int32), km_curve_j72 tc tn fi se ax ay bx bz cx cz v45_l13 v45_l15 v45_l17 t72_0 = RES → ∀ (ls : Array Slot) (H : Heap) (locs : List Loc), lv_has ls 23 [(17, .long v45_l17), (15, .long v45_l15), (13, .long v45_l13), (0, .ref h0), (1, .long ax), (3, .long ay), (5, .long bx), (7, .long bz), (9, .long cx), (11, .long cz)] → va_P (dC, dI) cls9 [(h0, .inr (2, [.int wd, .ref apx, .ref apy, .ref aon, .ref aen, .int cn, .int pn, .int tc, .int tn, .ref afi, .ref ase])), (apx, .inl (cJ, 256, .inr (.inl px))), (apy, .inl (cJ, 256, .inr (.inl py))), (aon, .inl (cZ, 256, .inl on)), (aen, .inl (cI, 256, .inl en)), (afi, .inl (cJ, 6, .inr (.inl fi))), (ase, .inl (cJ, 6, .inr (.inl se)))] H → va_D A [(h0, .inr (2, [.int wd, .ref apx, .ref apy, .ref aon, .ref aen, .int cn, .int pn, .int tc, .int tn, .ref afi, .ref ase])), (apx, .inl (cJ, 256, .inr (.inl px))), (apy, .inl (cJ, 256, .inr (.inl py))), (aon, .inl (cZ, 256, .inl on)), (aen, .inl (cI, 256, .inl en)), (afi, .inl (cJ, 6, .inr (.inl fi))), (ase, .inl (cJ, 6, .inr (.inl se)))] → va_S A s.heap H locs → W p l e R s m args below meth c H locs 0 0 Q (F0 m 72 ls [.int t72_0]) := by
        intro t72_0 hres ls H locs hl hP hD hS
        unfold km_curve_j72 at hres
        refine lv_istore (lv' := [(21, .int t72_0), (17, .long v45_l17), (15, .long v45_l15), (13, .long v45_l13), (0, .ref h0), (1, .long ax), (3, .long ay), (5, .long bx), (7, .long bz), (9, .long cx), (11, .long cz)]) hx hb d_M_curve_72 hl (by decide) rfl (fun ls hl => ?_)
        refine lv_lload hx hb d_M_curve_74 (lv_at hl 3 rfl) ?_
        refine lv_lconst (v := 0) hx hb d_M_curve_76 (by decide) ?_
        refine W.lcmp hx hb d_M_curve_77 ?_
        have J100 : ∀ (t100_0 : Int32), km_curve_j100 tc tn fi se ax ay bx bz cx cz t72_0 t100_0 = RES → ∀ (ls : Array Slot) (H : Heap) (locs : List Loc), lv_has ls 23 [(21, .int t72_0), (0, .ref h0), (1, .long ax), (3, .long ay), (5, .long bx), (7, .long bz), (9, .long cx), (11, .long cz)] → va_P (dC, dI) cls9 [(h0, .inr (2, [.int wd, .ref apx, .ref apy, .ref aon, .ref aen, .int cn, .int pn, .int tc, .int tn, .ref afi, .ref ase])), (apx, .inl (cJ, 256, .inr (.inl px))), (apy, .inl (cJ, 256, .inr (.inl py))), (aon, .inl (cZ, 256, .inl on)), (aen, .inl (cI, 256, .inl en)), (afi, .inl (cJ, 6, .inr (.inl fi))), (ase, .inl (cJ, 6, .inr (.inl se)))] H → va_D A [(h0, .inr (2, [.int wd, .ref apx, .ref apy, .ref aon, .ref aen, .int cn, .int pn, .int tc, .int tn, .ref afi, .ref ase])), (apx, .inl (cJ, 256, .inr (.inl px))), (apy, .inl (cJ, 256, .inr (.inl py))), (aon, .inl (cZ, 256, .inl on)), (aen, .inl (cI, 256, .inl en)), (afi, .inl (cJ, 6, .inr (.inl fi))), (ase, .inl (cJ, 6, .inr (.inl se)))] → va_S A s.heap H locs → W p l e R s m args below meth c H locs 0 0 Q (F0 m 100 ls [.int t100_0]) := by
          intro t100_0 hres ls H locs hl hP hD hS
          unfold km_curve_j100 at hres
          refine lv_istore (lv' := [(22, .int t100_0), (21, .int t72_0), (0, .ref h0), (1, .long ax), (3, .long ay), (5, .long bx), (7, .long bz), (9, .long cx), (11, .long cz)]) hx hb d_M_curve_100 hl (by decide) rfl (fun ls hl => ?_)
          refine lv_iload hx hb d_M_curve_102 (lv_at hl 1 rfl) ?_
          have J182 : ∀ (t182_0 : Int32), km_curve_j182 tn fi se ax ay bx bz cx cz t182_0 = RES → ∀ (ls : Array Slot) (H : Heap) (locs : List Loc), lv_has ls 23 [(0, .ref h0), (1, .long ax), (3, .long ay), (5, .long bx), (7, .long bz), (9, .long cx), (11, .long cz)] → va_P (dC, dI) cls9 [(h0, .inr (2, [.int wd, .ref apx, .ref apy, .ref aon, .ref aen, .int cn, .int pn, .int t182_0, .int tn, .ref afi, .ref ase])), (apx, .inl (cJ, 256, .inr (.inl px))), (apy, .inl (cJ, 256, .inr (.inl py))), (aon, .inl (cZ, 256, .inl on)), (aen, .inl (cI, 256, .inl en)), (afi, .inl (cJ, 6, .inr (.inl fi))), (ase, .inl (cJ, 6, .inr (.inl se)))] H → va_D A [(h0, .inr (2, [.int wd, .ref apx, .ref apy, .ref aon, .ref aen, .int cn, .int pn, .int t182_0, .int tn, .ref afi, .ref ase])), (apx, .inl (cJ, 256, .inr (.inl px))), (apy, .inl (cJ, 256, .inr (.inl py))), (aon, .inl (cZ, 256, .inl on)), (aen, .inl (cI, 256, .inl en)), (afi, .inl (cJ, 6, .inr (.inl fi))), (ase, .inl (cJ, 6, .inr (.inl se)))] → va_S A s.heap H locs → W p l e R s m args below meth c H locs 0 0 Q (F0 m 182 ls []) := by
            intro t182_0 hres ls H locs hl hP hD hS
            unfold km_curve_j182 at hres
            refine lv_goto (tgt := 255) hx hb d_M_curve_182 rfl ?_
            exact J255 fi se t182_0 hres ls _ _ (lv_sub hl [0, 1, 2, 3, 4, 5, 6] rfl) hP hD hS
          refine lv_if_ne (tgt := 142) hx hb d_M_curve_104 rfl (fun h104 => ?_) (fun h104 => ?_)
          · rw [if_neg h104] at hres
            refine lv_iload hx hb d_M_curve_142 (lv_at hl 0 rfl) ?_
            refine lv_if_eq (tgt := 182) hx hb d_M_curve_144 rfl (fun h144 => ?_) (fun h144 => ?_)
            · rw [if_pos h144] at hres
              exact J182 tc hres ls _ _ (lv_sub hl [2, 3, 4, 5, 6, 7, 8] rfl) hP hD hS
            · rw [if_neg h144] at hres
              refine lv_iload hx hb d_M_curve_147 (lv_at hl 1 rfl) ?_
              refine lv_if_eq (tgt := 166) hx hb d_M_curve_149 rfl (fun h149 => ?_) (fun h149 => ?_)
              · rw [if_pos h149] at hres
                refine lv_lload_n hx hb d_M_curve_166 rfl (lv_at hl 4 rfl) ?_
                refine lv_lload hx hb d_M_curve_167 (lv_at hl 6 rfl) ?_
                refine lv_lload hx hb d_M_curve_169 (lv_at hl 8 rfl) ?_
                refine cq_Si (As := [.long ay, .long bz, .long cz]) (rest := []) ⟨hx, hb, hml, hown, hts⟩ (c_km_zero l dC dI ay bz cz) (va_cwS 3 hts (gi_S tw_361 tw_362 tw_6 tw_363) rfl rfl rfl (by decide +kernel) ⟨(by rw [← hR]; exact Nat.le_of_ble_eq_true rfl), (by rw [← hR]; exact Nat.le_of_ble_eq_true rfl)⟩) rfl rfl hl.1 (Nat.le_of_ble_eq_true rfl) d_M_curve_171 ⟨Nat.zero_le _, Nat.zero_le _⟩ hP hS hA (fun H locs hP hS => ?_)
                refine lv_if_eq (tgt := 182) hx hb d_M_curve_174 rfl (fun h174 => ?_) (fun h174 => ?_)
                · rw [if_pos h174] at hres
                  exact J182 tc hres ls _ _ (lv_sub hl [2, 3, 4, 5, 6, 7, 8] rfl) hP hD hS
                · rw [if_neg h174] at hres
                  refine lv_aload_n hx hb d_M_curve_177 rfl (lv_at hl 2 rfl) ?_
                  refine lv_iconst (v := 1) hx hb d_M_curve_178 (by decide) ?_
                  refine va_put (D := (dC, dI)) (ci := 2) (v := .int 1) (ty := .boolean) (C := R_M) (T := F_M) (N := 11) hx hb hts in_M tf_M tok_M n_M hown hK hP hD hS 0 rfl rfl 7 (by decide) (hts _ tw_286) (fun _ h9 => h9) rfl (by decide +kernel) (by rfl) (by rfl) (Nat.le_of_ble_eq_true rfl) d_M_curve_179 (fun H locs hP hD hS => ?_)
                  have hP : va_P (dC, dI) cls9 [(h0, .inr (2, [.int wd, .ref apx, .ref apy, .ref aon, .ref aen, .int cn, .int pn, .int 1, .int tn, .ref afi, .ref ase])), (apx, .inl (cJ, 256, .inr (.inl px))), (apy, .inl (cJ, 256, .inr (.inl py))), (aon, .inl (cZ, 256, .inl on)), (aen, .inl (cI, 256, .inl en)), (afi, .inl (cJ, 6, .inr (.inl fi))), (ase, .inl (cJ, 6, .inr (.inl se)))] H := hP
                  have hD : va_D A [(h0, .inr (2, [.int wd, .ref apx, .ref apy, .ref aon, .ref aen, .int cn, .int pn, .int 1, .int tn, .ref afi, .ref ase])), (apx, .inl (cJ, 256, .inr (.inl px))), (apy, .inl (cJ, 256, .inr (.inl py))), (aon, .inl (cZ, 256, .inl on)), (aen, .inl (cI, 256, .inl en)), (afi, .inl (cJ, 6, .inr (.inl fi))), (ase, .inl (cJ, 6, .inr (.inl se)))] := hD
                  exact J182 1 hres ls _ _ (lv_sub hl [2, 3, 4, 5, 6, 7, 8] rfl) hP hD hS
              · rw [if_neg h149] at hres
                refine lv_lload_n hx hb d_M_curve_152 rfl (lv_at hl 3 rfl) ?_
                refine lv_lload hx hb d_M_curve_153 (lv_at hl 5 rfl) ?_
                refine lv_lload hx hb d_M_curve_155 (lv_at hl 7 rfl) ?_
                refine cq_Si (As := [.long ax, .long bx, .long cx]) (rest := []) ⟨hx, hb, hml, hown, hts⟩ (c_km_zero l dC dI ax bx cx) (va_cwS 3 hts (gi_S tw_361 tw_362 tw_6 tw_363) rfl rfl rfl (by decide +kernel) ⟨(by rw [← hR]; exact Nat.le_of_ble_eq_true rfl), (by rw [← hR]; exact Nat.le_of_ble_eq_true rfl)⟩) rfl rfl hl.1 (Nat.le_of_ble_eq_true rfl) d_M_curve_157 ⟨Nat.zero_le _, Nat.zero_le _⟩ hP hS hA (fun H locs hP hS => ?_)
                refine lv_if_eq (tgt := 182) hx hb d_M_curve_160 rfl (fun h160 => ?_) (fun h160 => ?_)
                · rw [if_pos h160] at hres
                  exact J182 tc hres ls _ _ (lv_sub hl [2, 3, 4, 5, 6, 7, 8] rfl) hP hD hS
                · rw [if_neg h160] at hres
                  refine lv_goto (tgt := 177) hx hb d_M_curve_163 rfl ?_
                  refine lv_aload_n hx hb d_M_curve_177 rfl (lv_at hl 2 rfl) ?_
                  refine lv_iconst (v := 1) hx hb d_M_curve_178 (by decide) ?_
                  refine va_put (D := (dC, dI)) (ci := 2) (v := .int 1) (ty := .boolean) (C := R_M) (T := F_M) (N := 11) hx hb hts in_M tf_M tok_M n_M hown hK hP hD hS 0 rfl rfl 7 (by decide) (hts _ tw_286) (fun _ h9 => h9) rfl (by decide +kernel) (by rfl) (by rfl) (Nat.le_of_ble_eq_true rfl) d_M_curve_179 (fun H locs hP hD hS => ?_)
                  have hP : va_P (dC, dI) cls9 [(h0, .inr (2, [.int wd, .ref apx, .ref apy, .ref aon, .ref aen, .int cn, .int pn, .int 1, .int tn, .ref afi, .ref ase])), (apx, .inl (cJ, 256, .inr (.inl px))), (apy, .inl (cJ, 256, .inr (.inl py))), (aon, .inl (cZ, 256, .inl on)), (aen, .inl (cI, 256, .inl en)), (afi, .inl (cJ, 6, .inr (.inl fi))), (ase, .inl (cJ, 6, .inr (.inl se)))] H := hP
                  have hD : va_D A [(h0, .inr (2, [.int wd, .ref apx, .ref apy, .ref aon, .ref aen, .int cn, .int pn, .int 1, .int tn, .ref afi, .ref ase])), (apx, .inl (cJ, 256, .inr (.inl px))), (apy, .inl (cJ, 256, .inr (.inl py))), (aon, .inl (cZ, 256, .inl on)), (aen, .inl (cI, 256, .inl en)), (afi, .inl (cJ, 6, .inr (.inl fi))), (ase, .inl (cJ, 6, .inr (.inl se)))] := hD
                  exact J182 1 hres ls _ _ (lv_sub hl [2, 3, 4, 5, 6, 7, 8] rfl) hP hD hS
          · rw [if_pos h104] at hres
            refine lv_lload_n hx hb d_M_curve_107 rfl (lv_at hl 4 rfl) ?_
            refine lv_lload hx hb d_M_curve_108 (lv_at hl 6 rfl) ?_
            refine W.lcmp hx hb d_M_curve_110 ?_
            refine lv_if_ne (tgt := 142) hx hb d_M_curve_111 rfl (fun h111 => ?_) (fun h111 => ?_)
            · rw [if_neg h111] at hres
              refine lv_iload hx hb d_M_curve_142 (lv_at hl 0 rfl) ?_
              refine lv_if_eq (tgt := 182) hx hb d_M_curve_144 rfl (fun h144 => ?_) (fun h144 => ?_)
              · rw [if_pos h144] at hres
                exact J182 tc hres ls _ _ (lv_sub hl [2, 3, 4, 5, 6, 7, 8] rfl) hP hD hS
              · rw [if_neg h144] at hres
                refine lv_iload hx hb d_M_curve_147 (lv_at hl 1 rfl) ?_
                refine lv_if_eq (tgt := 166) hx hb d_M_curve_149 rfl (fun h149 => ?_) (fun h149 => ?_)
                · rw [if_pos h149] at hres
                  refine lv_lload_n hx hb d_M_curve_166 rfl (lv_at hl 4 rfl) ?_
                  refine lv_lload hx hb d_M_curve_167 (lv_at hl 6 rfl) ?_
                  refine lv_lload hx hb d_M_curve_169 (lv_at hl 8 rfl) ?_
                  refine cq_Si (As := [.long ay, .long bz, .long cz]) (rest := []) ⟨hx, hb, hml, hown, hts⟩ (c_km_zero l dC dI ay bz cz) (va_cwS 3 hts (gi_S tw_361 tw_362 tw_6 tw_363) rfl rfl rfl (by decide +kernel) ⟨(by rw [← hR]; exact Nat.le_of_ble_eq_true rfl), (by rw [← hR]; exact Nat.le_of_ble_eq_true rfl)⟩) rfl rfl hl.1 (Nat.le_of_ble_eq_true rfl) d_M_curve_171 ⟨Nat.zero_le _, Nat.zero_le _⟩ hP hS hA (fun H locs hP hS => ?_)
                  refine lv_if_eq (tgt := 182) hx hb d_M_curve_174 rfl (fun h174 => ?_) (fun h174 => ?_)
                  · rw [if_pos h174] at hres
                    exact J182 tc hres ls _ _ (lv_sub hl [2, 3, 4, 5, 6, 7, 8] rfl) hP hD hS
                  · rw [if_neg h174] at hres
                    refine lv_aload_n hx hb d_M_curve_177 rfl (lv_at hl 2 rfl) ?_
                    refine lv_iconst (v := 1) hx hb d_M_curve_178 (by decide) ?_
                    refine va_put (D := (dC, dI)) (ci := 2) (v := .int 1) (ty := .boolean) (C := R_M) (T := F_M) (N := 11) hx hb hts in_M tf_M tok_M n_M hown hK hP hD hS 0 rfl rfl 7 (by decide) (hts _ tw_286) (fun _ h9 => h9) rfl (by decide +kernel) (by rfl) (by rfl) (Nat.le_of_ble_eq_true rfl) d_M_curve_179 (fun H locs hP hD hS => ?_)
                    have hP : va_P (dC, dI) cls9 [(h0, .inr (2, [.int wd, .ref apx, .ref apy, .ref aon, .ref aen, .int cn, .int pn, .int 1, .int tn, .ref afi, .ref ase])), (apx, .inl (cJ, 256, .inr (.inl px))), (apy, .inl (cJ, 256, .inr (.inl py))), (aon, .inl (cZ, 256, .inl on)), (aen, .inl (cI, 256, .inl en)), (afi, .inl (cJ, 6, .inr (.inl fi))), (ase, .inl (cJ, 6, .inr (.inl se)))] H := hP
                    have hD : va_D A [(h0, .inr (2, [.int wd, .ref apx, .ref apy, .ref aon, .ref aen, .int cn, .int pn, .int 1, .int tn, .ref afi, .ref ase])), (apx, .inl (cJ, 256, .inr (.inl px))), (apy, .inl (cJ, 256, .inr (.inl py))), (aon, .inl (cZ, 256, .inl on)), (aen, .inl (cI, 256, .inl en)), (afi, .inl (cJ, 6, .inr (.inl fi))), (ase, .inl (cJ, 6, .inr (.inl se)))] := hD
                    exact J182 1 hres ls _ _ (lv_sub hl [2, 3, 4, 5, 6, 7, 8] rfl) hP hD hS
                · rw [if_neg h149] at hres
                  refine lv_lload_n hx hb d_M_curve_152 rfl (lv_at hl 3 rfl) ?_
                  refine lv_lload hx hb d_M_curve_153 (lv_at hl 5 rfl) ?_
                  refine lv_lload hx hb d_M_curve_155 (lv_at hl 7 rfl) ?_
                  refine cq_Si (As := [.long ax, .long bx, .long cx]) (rest := []) ⟨hx, hb, hml, hown, hts⟩ (c_km_zero l dC dI ax bx cx) (va_cwS 3 hts (gi_S tw_361 tw_362 tw_6 tw_363) rfl rfl rfl (by decide +kernel) ⟨(by rw [← hR]; exact Nat.le_of_ble_eq_true rfl), (by rw [← hR]; exact Nat.le_of_ble_eq_true rfl)⟩) rfl rfl hl.1 (Nat.le_of_ble_eq_true rfl) d_M_curve_157 ⟨Nat.zero_le _, Nat.zero_le _⟩ hP hS hA (fun H locs hP hS => ?_)
                  refine lv_if_eq (tgt := 182) hx hb d_M_curve_160 rfl (fun h160 => ?_) (fun h160 => ?_)
                  · rw [if_pos h160] at hres
                    exact J182 tc hres ls _ _ (lv_sub hl [2, 3, 4, 5, 6, 7, 8] rfl) hP hD hS
                  · rw [if_neg h160] at hres
                    refine lv_goto (tgt := 177) hx hb d_M_curve_163 rfl ?_
                    refine lv_aload_n hx hb d_M_curve_177 rfl (lv_at hl 2 rfl) ?_
                    refine lv_iconst (v := 1) hx hb d_M_curve_178 (by decide) ?_
                    refine va_put (D := (dC, dI)) (ci := 2) (v := .int 1) (ty := .boolean) (C := R_M) (T := F_M) (N := 11) hx hb hts in_M tf_M tok_M n_M hown hK hP hD hS 0 rfl rfl 7 (by decide) (hts _ tw_286) (fun _ h9 => h9) rfl (by decide +kernel) (by rfl) (by rfl) (Nat.le_of_ble_eq_true rfl) d_M_curve_179 (fun H locs hP hD hS => ?_)
                    have hP : va_P (dC, dI) cls9 [(h0, .inr (2, [.int wd, .ref apx, .ref apy, .ref aon, .ref aen, .int cn, .int pn, .int 1, .int tn, .ref afi, .ref ase])), (apx, .inl (cJ, 256, .inr (.inl px))), (apy, .inl (cJ, 256, .inr (.inl py))), (aon, .inl (cZ, 256, .inl on)), (aen, .inl (cI, 256, .inl en)), (afi, .inl (cJ, 6, .inr (.inl fi))), (ase, .inl (cJ, 6, .inr (.inl se)))] H := hP
                    have hD : va_D A [(h0, .inr (2, [.int wd, .ref apx, .ref apy, .ref aon, .ref aen, .int cn, .int pn, .int 1, .int tn, .ref afi, .ref ase])), (apx, .inl (cJ, 256, .inr (.inl px))), (apy, .inl (cJ, 256, .inr (.inl py))), (aon, .inl (cZ, 256, .inl on)), (aen, .inl (cI, 256, .inl en)), (afi, .inl (cJ, 6, .inr (.inl fi))), (ase, .inl (cJ, 6, .inr (.inl se)))] := hD
                    exact J182 1 hres ls _ _ (lv_sub hl [2, 3, 4, 5, 6, 7, 8] rfl) hP hD hS
            · rw [if_pos h111] at hres
              refine lv_lload hx hb d_M_curve_114 (lv_at hl 6 rfl) ?_
              refine lv_lload hx hb d_M_curve_116 (lv_at hl 8 rfl) ?_
              refine W.lcmp hx hb d_M_curve_118 ?_
              refine lv_if_ne (tgt := 142) hx hb d_M_curve_119 rfl (fun h119 => ?_) (fun h119 => ?_)
              · rw [if_neg h119] at hres
                refine lv_iload hx hb d_M_curve_142 (lv_at hl 0 rfl) ?_
                refine lv_if_eq (tgt := 182) hx hb d_M_curve_144 rfl (fun h144 => ?_) (fun h144 => ?_)
                · rw [if_pos h144] at hres
                  exact J182 tc hres ls _ _ (lv_sub hl [2, 3, 4, 5, 6, 7, 8] rfl) hP hD hS
                · rw [if_neg h144] at hres
                  refine lv_iload hx hb d_M_curve_147 (lv_at hl 1 rfl) ?_
                  refine lv_if_eq (tgt := 166) hx hb d_M_curve_149 rfl (fun h149 => ?_) (fun h149 => ?_)
                  · rw [if_pos h149] at hres
                    refine lv_lload_n hx hb d_M_curve_166 rfl (lv_at hl 4 rfl) ?_
                    refine lv_lload hx hb d_M_curve_167 (lv_at hl 6 rfl) ?_
                    refine lv_lload hx hb d_M_curve_169 (lv_at hl 8 rfl) ?_
                    refine cq_Si (As := [.long ay, .long bz, .long cz]) (rest := []) ⟨hx, hb, hml, hown, hts⟩ (c_km_zero l dC dI ay bz cz) (va_cwS 3 hts (gi_S tw_361 tw_362 tw_6 tw_363) rfl rfl rfl (by decide +kernel) ⟨(by rw [← hR]; exact Nat.le_of_ble_eq_true rfl), (by rw [← hR]; exact Nat.le_of_ble_eq_true rfl)⟩) rfl rfl hl.1 (Nat.le_of_ble_eq_true rfl) d_M_curve_171 ⟨Nat.zero_le _, Nat.zero_le _⟩ hP hS hA (fun H locs hP hS => ?_)
                    refine lv_if_eq (tgt := 182) hx hb d_M_curve_174 rfl (fun h174 => ?_) (fun h174 => ?_)
                    · rw [if_pos h174] at hres
                      exact J182 tc hres ls _ _ (lv_sub hl [2, 3, 4, 5, 6, 7, 8] rfl) hP hD hS
                    · rw [if_neg h174] at hres
                      refine lv_aload_n hx hb d_M_curve_177 rfl (lv_at hl 2 rfl) ?_
                      refine lv_iconst (v := 1) hx hb d_M_curve_178 (by decide) ?_
                      refine va_put (D := (dC, dI)) (ci := 2) (v := .int 1) (ty := .boolean) (C := R_M) (T := F_M) (N := 11) hx hb hts in_M tf_M tok_M n_M hown hK hP hD hS 0 rfl rfl 7 (by decide) (hts _ tw_286) (fun _ h9 => h9) rfl (by decide +kernel) (by rfl) (by rfl) (Nat.le_of_ble_eq_true rfl) d_M_curve_179 (fun H locs hP hD hS => ?_)
                      have hP : va_P (dC, dI) cls9 [(h0, .inr (2, [.int wd, .ref apx, .ref apy, .ref aon, .ref aen, .int cn, .int pn, .int 1, .int tn, .ref afi, .ref ase])), (apx, .inl (cJ, 256, .inr (.inl px))), (apy, .inl (cJ, 256, .inr (.inl py))), (aon, .inl (cZ, 256, .inl on)), (aen, .inl (cI, 256, .inl en)), (afi, .inl (cJ, 6, .inr (.inl fi))), (ase, .inl (cJ, 6, .inr (.inl se)))] H := hP
                      have hD : va_D A [(h0, .inr (2, [.int wd, .ref apx, .ref apy, .ref aon, .ref aen, .int cn, .int pn, .int 1, .int tn, .ref afi, .ref ase])), (apx, .inl (cJ, 256, .inr (.inl px))), (apy, .inl (cJ, 256, .inr (.inl py))), (aon, .inl (cZ, 256, .inl on)), (aen, .inl (cI, 256, .inl en)), (afi, .inl (cJ, 6, .inr (.inl fi))), (ase, .inl (cJ, 6, .inr (.inl se)))] := hD
                      exact J182 1 hres ls _ _ (lv_sub hl [2, 3, 4, 5, 6, 7, 8] rfl) hP hD hS
                  · rw [if_neg h149] at hres
                    refine lv_lload_n hx hb d_M_curve_152 rfl (lv_at hl 3 rfl) ?_
                    refine lv_lload hx hb d_M_curve_153 (lv_at hl 5 rfl) ?_
                    refine lv_lload hx hb d_M_curve_155 (lv_at hl 7 rfl) ?_
                    refine cq_Si (As := [.long ax, .long bx, .long cx]) (rest := []) ⟨hx, hb, hml, hown, hts⟩ (c_km_zero l dC dI ax bx cx) (va_cwS 3 hts (gi_S tw_361 tw_362 tw_6 tw_363) rfl rfl rfl (by decide +kernel) ⟨(by rw [← hR]; exact Nat.le_of_ble_eq_true rfl), (by rw [← hR]; exact Nat.le_of_ble_eq_true rfl)⟩) rfl rfl hl.1 (Nat.le_of_ble_eq_true rfl) d_M_curve_157 ⟨Nat.zero_le _, Nat.zero_le _⟩ hP hS hA (fun H locs hP hS => ?_)
                    refine lv_if_eq (tgt := 182) hx hb d_M_curve_160 rfl (fun h160 => ?_) (fun h160 => ?_)
                    · rw [if_pos h160] at hres
                      exact J182 tc hres ls _ _ (lv_sub hl [2, 3, 4, 5, 6, 7, 8] rfl) hP hD hS
                    · rw [if_neg h160] at hres
                      refine lv_goto (tgt := 177) hx hb d_M_curve_163 rfl ?_
                      refine lv_aload_n hx hb d_M_curve_177 rfl (lv_at hl 2 rfl) ?_
                      refine lv_iconst (v := 1) hx hb d_M_curve_178 (by decide) ?_
                      refine va_put (D := (dC, dI)) (ci := 2) (v := .int 1) (ty := .boolean) (C := R_M) (T := F_M) (N := 11) hx hb hts in_M tf_M tok_M n_M hown hK hP hD hS 0 rfl rfl 7 (by decide) (hts _ tw_286) (fun _ h9 => h9) rfl (by decide +kernel) (by rfl) (by rfl) (Nat.le_of_ble_eq_true rfl) d_M_curve_179 (fun H locs hP hD hS => ?_)
                      have hP : va_P (dC, dI) cls9 [(h0, .inr (2, [.int wd, .ref apx, .ref apy, .ref aon, .ref aen, .int cn, .int pn, .int 1, .int tn, .ref afi, .ref ase])), (apx, .inl (cJ, 256, .inr (.inl px))), (apy, .inl (cJ, 256, .inr (.inl py))), (aon, .inl (cZ, 256, .inl on)), (aen, .inl (cI, 256, .inl en)), (afi, .inl (cJ, 6, .inr (.inl fi))), (ase, .inl (cJ, 6, .inr (.inl se)))] H := hP
                      have hD : va_D A [(h0, .inr (2, [.int wd, .ref apx, .ref apy, .ref aon, .ref aen, .int cn, .int pn, .int 1, .int tn, .ref afi, .ref ase])), (apx, .inl (cJ, 256, .inr (.inl px))), (apy, .inl (cJ, 256, .inr (.inl py))), (aon, .inl (cZ, 256, .inl on)), (aen, .inl (cI, 256, .inl en)), (afi, .inl (cJ, 6, .inr (.inl fi))), (ase, .inl (cJ, 6, .inr (.inl se)))] := hD
                      exact J182 1 hres ls _ _ (lv_sub hl [2, 3, 4, 5, 6, 7, 8] rfl) hP hD hS
              · rw [if_pos h119] at hres
                refine lv_lload_n hx hb d_M_curve_122 rfl (lv_at hl 3 rfl) ?_
                refine lv_lconst (v := 0) hx hb d_M_curve_123 (by decide) ?_
                refine W.lcmp hx hb d_M_curve_124 ?_
                refine lv_if_ne (tgt := 182) hx hb d_M_curve_125 rfl (fun h125 => ?_) (fun h125 => ?_)
                · rw [if_neg h125] at hres
                  exact J182 tc hres ls _ _ (lv_sub hl [2, 3, 4, 5, 6, 7, 8] rfl) hP hD hS
                · rw [if_pos h125] at hres
                  refine lv_lload_n hx hb d_M_curve_128 rfl (lv_at hl 4 rfl) ?_
                  refine lv_lconst (v := 0) hx hb d_M_curve_129 (by decide) ?_
                  refine W.lcmp hx hb d_M_curve_130 ?_
                  refine lv_if_ne (tgt := 182) hx hb d_M_curve_131 rfl (fun h131 => ?_) (fun h131 => ?_)
                  · rw [if_neg h131] at hres
                    exact J182 tc hres ls _ _ (lv_sub hl [2, 3, 4, 5, 6, 7, 8] rfl) hP hD hS
                  · rw [if_pos h131] at hres
                    refine lv_aload_n hx hb d_M_curve_134 rfl (lv_at hl 2 rfl) ?_
                    refine lv_iconst (v := 1) hx hb d_M_curve_135 (by decide) ?_
                    refine va_put (D := (dC, dI)) (ci := 2) (v := .int 1) (ty := .boolean) (C := R_M) (T := F_M) (N := 11) hx hb hts in_M tf_M tok_M n_M hown hK hP hD hS 0 rfl rfl 7 (by decide) (hts _ tw_286) (fun _ h9 => h9) rfl (by decide +kernel) (by rfl) (by rfl) (Nat.le_of_ble_eq_true rfl) d_M_curve_136 (fun H locs hP hD hS => ?_)
                    have hP : va_P (dC, dI) cls9 [(h0, .inr (2, [.int wd, .ref apx, .ref apy, .ref aon, .ref aen, .int cn, .int pn, .int 1, .int tn, .ref afi, .ref ase])), (apx, .inl (cJ, 256, .inr (.inl px))), (apy, .inl (cJ, 256, .inr (.inl py))), (aon, .inl (cZ, 256, .inl on)), (aen, .inl (cI, 256, .inl en)), (afi, .inl (cJ, 6, .inr (.inl fi))), (ase, .inl (cJ, 6, .inr (.inl se)))] H := hP
                    have hD : va_D A [(h0, .inr (2, [.int wd, .ref apx, .ref apy, .ref aon, .ref aen, .int cn, .int pn, .int 1, .int tn, .ref afi, .ref ase])), (apx, .inl (cJ, 256, .inr (.inl px))), (apy, .inl (cJ, 256, .inr (.inl py))), (aon, .inl (cZ, 256, .inl on)), (aen, .inl (cI, 256, .inl en)), (afi, .inl (cJ, 6, .inr (.inl fi))), (ase, .inl (cJ, 6, .inr (.inl se)))] := hD
                    refine lv_goto (tgt := 182) hx hb d_M_curve_139 rfl ?_
                    exact J182 1 hres ls _ _ (lv_sub hl [2, 3, 4, 5, 6, 7, 8] rfl) hP hD hS
        refine lv_if_ne (tgt := 99) hx hb d_M_curve_78 rfl (fun h78 => ?_) (fun h78 => ?_)
        · rw [if_neg h78] at hres
          refine lv_iconst (v := 0) hx hb d_M_curve_99 (by decide) ?_
          exact J100 0 hres ls _ _ (lv_sub hl [0, 4, 5, 6, 7, 8, 9, 10] rfl) hP hD hS
        · rw [if_pos h78] at hres
          refine lv_lload hx hb d_M_curve_81 (lv_at hl 2 rfl) ?_
          refine lv_lconst (v := 0) hx hb d_M_curve_83 (by decide) ?_
          refine W.lcmp hx hb d_M_curve_84 ?_
          refine lv_if_ne (tgt := 99) hx hb d_M_curve_85 rfl (fun h85 => ?_) (fun h85 => ?_)
          · rw [if_neg h85] at hres
            refine lv_iconst (v := 0) hx hb d_M_curve_99 (by decide) ?_
            exact J100 0 hres ls _ _ (lv_sub hl [0, 4, 5, 6, 7, 8, 9, 10] rfl) hP hD hS
          · rw [if_pos h85] at hres
            refine lv_lload hx hb d_M_curve_88 (lv_at hl 1 rfl) ?_
            refine lv_lconst (v := 0) hx hb d_M_curve_90 (by decide) ?_
            refine W.lcmp hx hb d_M_curve_91 ?_
            refine lv_if_ne (tgt := 99) hx hb d_M_curve_92 rfl (fun h92 => ?_) (fun h92 => ?_)
            · rw [if_neg h92] at hres
              refine lv_iconst (v := 0) hx hb d_M_curve_99 (by decide) ?_
              exact J100 0 hres ls _ _ (lv_sub hl [0, 4, 5, 6, 7, 8, 9, 10] rfl) hP hD hS
            · rw [if_pos h92] at hres
              refine lv_iconst (v := 1) hx hb d_M_curve_95 (by decide) ?_
              refine lv_goto (tgt := 100) hx hb d_M_curve_96 rfl ?_
              exact J100 1 hres ls _ _ (lv_sub hl [0, 4, 5, 6, 7, 8, 9, 10] rfl) hP hD hS
      refine lv_if_ne (tgt := 67) hx hb d_M_curve_56 rfl (fun h56 => ?_) (fun h56 => ?_)
      · rw [if_neg h56] at hres
        refine lv_iconst (v := 1) hx hb d_M_curve_67 (by decide) ?_
        refine lv_goto (tgt := 72) hx hb d_M_curve_68 rfl ?_
        exact J72 1 hres ls _ _ (lv_sub hl [1, 2, 3, 4, 5, 6, 7, 8, 9, 10] rfl) hP hD hS
      · rw [if_pos h56] at hres
        refine lv_lload hx hb d_M_curve_59 (lv_at hl 7 rfl) ?_
        refine lv_lload hx hb d_M_curve_61 (lv_at hl 9 rfl) ?_
        refine W.lcmp hx hb d_M_curve_63 ?_
        refine lv_if_eq (tgt := 71) hx hb d_M_curve_64 rfl (fun h64 => ?_) (fun h64 => ?_)
        · rw [if_pos h64] at hres
          refine lv_iconst (v := 0) hx hb d_M_curve_71 (by decide) ?_
          exact J72 0 hres ls _ _ (lv_sub hl [1, 2, 3, 4, 5, 6, 7, 8, 9, 10] rfl) hP hD hS
        · rw [if_neg h64] at hres
          refine lv_iconst (v := 1) hx hb d_M_curve_67 (by decide) ?_
          refine lv_goto (tgt := 72) hx hb d_M_curve_68 rfl ?_
          exact J72 1 hres ls _ _ (lv_sub hl [1, 2, 3, 4, 5, 6, 7, 8, 9, 10] rfl) hP hD hS
  exact K45 ((bx * cz) - (cx * bz)) ((cx * ay) - (ax * cz)) ((ax * bz) - (bx * ay)) ((((bx * cz) - (cx * bz)) + ((cx * ay) - (ax * cz))) + ((ax * bz) - (bx * ay))) hres ls _ _ (lv_sub hl [0, 1, 2, 3, 4, 5, 6, 7, 8, 9, 10] rfl) hP hD hS
end
section
-- the geometry of one arc, over Int: x-coordinates i j k, y-coordinates p q r, seen from the place
theorem mt_sq (x : Int) : 0 ≤ x * x := by
  rcases Int.le_total 0 x with h | h
  · exact Int.mul_nonneg h h
  · exact Int.mul_nonneg_of_nonpos_of_nonpos h h
theorem mt_sqp {x : Int} (h : x ≠ 0) : 0 < x * x := by
  rcases Int.lt_or_gt_of_ne h with h | h
  · exact Int.mul_pos_of_neg_of_neg h h
  · exact Int.mul_pos h h
def mt_sg (v : Int) : Int := if v < 0 then -1 else if 0 < v then 1 else 0
theorem mt_sg_p {v : Int} (h : 0 < v) : mt_sg v = 1 := by unfold mt_sg; rw [if_neg (by omega), if_pos h]
theorem mt_sg_n {v : Int} (h : v < 0) : mt_sg v = -1 := by unfold mt_sg; rw [if_pos h]
theorem mt_sg_0 : mt_sg 0 = 0 := by decide
theorem mt_sg_c (v : Int) : (v < 0 ∧ mt_sg v = -1) ∨ (v = 0 ∧ mt_sg v = 0) ∨ (0 < v ∧ mt_sg v = 1) := by
  rcases Int.lt_trichotomy v 0 with h | h | h
  · exact Or.inl ⟨h, mt_sg_n h⟩
  · subst h; exact Or.inr (Or.inl ⟨rfl, mt_sg_0⟩)
  · exact Or.inr (Or.inr ⟨h, mt_sg_p h⟩)
theorem mt_sg_neg (v : Int) : mt_sg (-v) = -mt_sg v := by
  rcases mt_sg_c v with ⟨h, e⟩ | ⟨h, e⟩ | ⟨h, e⟩
  · rw [e, mt_sg_p (by omega)]; rfl
  · subst h; rfl
  · rw [e, mt_sg_n (by omega)]
theorem mt_sg_2 (v : Int) : mt_sg (2 * v) = mt_sg v := by
  rcases mt_sg_c v with ⟨h, e⟩ | ⟨h, e⟩ | ⟨h, e⟩
  · rw [e, mt_sg_n (by omega)]
  · subst h; rfl
  · rw [e, mt_sg_p (by omega)]
/-- two numbers whose product is positive have one sign -/
theorem mt_sg_mul {x y : Int} (h : 0 < x * y) : mt_sg x = mt_sg y ∧ x ≠ 0 ∧ y ≠ 0 := by
  rcases Int.lt_trichotomy x 0 with hx | hx | hx
  · rcases Int.lt_or_le y 0 with hy | hy
    · exact ⟨by rw [mt_sg_n hx, mt_sg_n hy], by omega, by omega⟩
    · have := Int.mul_nonpos_of_nonpos_of_nonneg (Int.le_of_lt hx) hy; omega
  · subst hx; simp at h
  · rcases Int.lt_or_le 0 y with hy | hy
    · exact ⟨by rw [mt_sg_p hx, mt_sg_p hy], by omega, by omega⟩
    · have := Int.mul_nonpos_of_nonneg_of_nonpos (Int.le_of_lt hx) hy; omega
/-- the sign of g + e * sqrt d, as the reference decides it -/
def mt_so (g e d : Int) : Int :=
  if mt_sg g = (if d = 0 then 0 else mt_sg e) ∨ (if d = 0 then 0 else mt_sg e) = 0 then mt_sg g
  else if mt_sg g = 0 then (if d = 0 then 0 else mt_sg e)
  else if g * g = e * e * d then 0 else if e * e * d < g * g then mt_sg g else (if d = 0 then 0 else mt_sg e)
theorem mt_so_pos {g e d : Int} (hd : 0 ≤ d) (h : e * e * d < g * g) : mt_so g e d = mt_sg g ∧ g ≠ 0 := by
  have h1 : 0 ≤ e * e * d := Int.mul_nonneg (mt_sq e) hd
  have hg : g ≠ 0 := by
    intro hg
    subst hg
    omega
  refine ⟨?_, hg⟩
  have h3 : ¬ mt_sg g = 0 := by
    rcases mt_sg_c g with ⟨h, e⟩ | ⟨h, e⟩ | ⟨h, e⟩ <;> omega
  unfold mt_so
  generalize (if d = 0 then 0 else mt_sg e) = y
  by_cases c : mt_sg g = y ∨ y = 0
  · rw [if_pos c]
  · rw [if_neg c, if_neg h3, if_neg (by omega), if_pos h]
theorem mt_so_neg {g e d : Int} (h : g * g < e * e * d) : mt_so g e d = mt_sg e ∧ e ≠ 0 ∧ d ≠ 0 := by
  have h1 := mt_sq g
  have he : e ≠ 0 := by
    intro he
    subst he
    simp at h
    omega
  have hd : d ≠ 0 := by
    intro hd
    subst hd
    simp at h
    omega
  refine ⟨?_, he, hd⟩
  have h3 : ¬ mt_sg e = 0 := by
    rcases mt_sg_c e with ⟨h, e⟩ | ⟨h, e⟩ | ⟨h, e⟩ <;> omega
  unfold mt_so
  rw [if_neg hd]
  split
  · next h5 => rcases h5 with h5 | h5
               · exact h5
               · exact absurd h5 h3
  · split
    · rfl
    · rw [if_neg (by omega), if_neg (by omega)]
theorem mt_so_zero {g e d : Int} (h : mt_sg g = mt_sg e ∨ d = 0 ∨ e = 0) : mt_so g e d = mt_sg g := by
  unfold mt_so
  rw [if_pos]
  rcases h with h | h | h
  · by_cases hd : d = 0
    · rw [if_pos hd]; exact Or.inr rfl
    · rw [if_neg hd]; exact Or.inl h
  · rw [if_pos h]; exact Or.inr rfl
  · subst h; right; split
    · rfl
    · exact mt_sg_0
theorem mt_so_odd (g e d : Int) : mt_so (-g) (-e) d = -mt_so g e d := by
  unfold mt_so
  rw [mt_sg_neg, mt_sg_neg, Int.neg_mul_neg, Int.neg_mul_neg]
  rcases mt_sg_c g with ⟨_, e1⟩ | ⟨_, e1⟩ | ⟨_, e1⟩ <;> rcases mt_sg_c e with ⟨_, e2⟩ | ⟨_, e2⟩ | ⟨_, e2⟩ <;> rw [e1, e2] <;> by_cases hd : d = 0 <;> simp [hd] <;> (repeat' split) <;> simp_all
-- the numbers u v w, tied to p q r by u p + v q + w r = 0
theorem mt_id {u v w p q r : Int} (h0 : u * p + v * q + w * r = 0) :
    (2 * u * (p - q) + v * (p - r) + 2 * w * (q - r)) * (2 * u * (p - q) + v * (p - r) + 2 * w * (q - r)) - 4 * ((u + v + w) * (u + v + w) * (q * q - p * r)) = (p - 2 * q + r) * (p - 2 * q + r) * (v * v - 4 * (u * w)) := by
  have e : (2 * u * (p - q) + v * (p - r) + 2 * w * (q - r)) * (2 * u * (p - q) + v * (p - r) + 2 * w * (q - r)) - 4 * ((u + v + w) * (u + v + w) * (q * q - p * r)) = (p - 2 * q + r) * (p - 2 * q + r) * (v * v - 4 * (u * w)) + 4 * (p - 2 * q + r) * (u + v + w) * (u * p + v * q + w * r) := by grind
  rw [h0, Int.mul_zero, Int.add_zero] at e
  exact e
theorem mt_vG {u v w p q r : Int} (h0 : u * p + v * q + w * r = 0) :
    2 * (v * (2 * u * (p - q) + v * (p - r) + 2 * w * (q - r))) = p * ((v + 2 * u) * (v + 2 * u) + (v * v - 4 * (u * w))) + (-r) * ((v + 2 * w) * (v + 2 * w) + (v * v - 4 * (u * w))) := by
  have e : 2 * (v * (2 * u * (p - q) + v * (p - r) + 2 * w * (q - r))) = p * ((v + 2 * u) * (v + 2 * u) + (v * v - 4 * (u * w))) + (-r) * ((v + 2 * w) * (v + 2 * w) + (v * v - 4 * (u * w))) + 4 * (w - u) * (u * p + v * q + w * r) := by grind
  rw [h0, Int.mul_zero, Int.add_zero] at e
  exact e
theorem mt_A0 {u v w p q r : Int} (h0 : u * p + v * q + w * r = 0) (hp : 0 ≤ p) (hr : r ≤ 0) (hpr : r < p) (ha : 0 < (v + 2 * u) * (v + 2 * u) + (v * v - 4 * (u * w))) (hb : 0 < (v + 2 * w) * (v + 2 * w) + (v * v - 4 * (u * w))) :
    0 < v * (2 * u * (p - q) + v * (p - r) + 2 * w * (q - r)) := by
  have e := mt_vG h0
  have h1 := Int.mul_nonneg hp (Int.le_of_lt ha)
  have h2 := Int.mul_nonneg (show 0 ≤ -r by omega) (Int.le_of_lt hb)
  rcases Int.lt_or_le 0 p with h | h
  · have h3 := Int.mul_pos h ha
    omega
  · have h3 := Int.mul_pos (show 0 < -r by omega) hb
    omega
theorem mt_A1 {u v w p q r : Int} (h0 : u * p + v * q + w * r = 0) (hp : 0 ≤ p) (hr : r ≤ 0) (hpr : r < p) (hR : 4 * (u * w) < v * v) :
    0 < v * (2 * u * (p - q) + v * (p - r) + 2 * w * (q - r)) := by
  have h1 := mt_sq (v + 2 * u)
  have h2 := mt_sq (v + 2 * w)
  exact mt_A0 h0 hp hr hpr (by omega) (by omega)
theorem mt_A2 {u v w p q r : Int} (h0 : u * p + v * q + w * r = 0) (hp : 0 ≤ p) (hr : r ≤ 0) (hpr : r < p) (hR : v * v = 4 * (u * w)) (hs : u + v + w ≠ 0) (hv : v ≠ 0) :
    0 < v * (2 * u * (p - q) + v * (p - r) + 2 * w * (q - r)) := by
  have k1 : v + 2 * u ≠ 0 := by
    intro h
    have hv' : v = -(2 * u) := by omega
    have e : u * (u - w) = 0 := by rw [hv'] at hR; grind
    rcases Int.mul_eq_zero.mp e with h | h <;> omega
  have k2 : v + 2 * w ≠ 0 := by
    intro h
    have hv' : v = -(2 * w) := by omega
    have e : w * (w - u) = 0 := by rw [hv'] at hR; grind
    rcases Int.mul_eq_zero.mp e with h | h <;> omega
  have h1 := mt_sqp k1
  have h2 := mt_sqp k2
  exact mt_A0 h0 hp hr hpr (by omega) (by omega)
theorem mt_vs {u v w : Int} (hR : v * v = 4 * (u * w)) (hn : ¬ ((0 ≤ u ∧ 0 ≤ v ∧ 0 ≤ w) ∨ (u ≤ 0 ∧ v ≤ 0 ∧ w ≤ 0))) : (v < 0 ∧ 0 < u ∧ 0 < w) ∨ (0 < v ∧ u < 0 ∧ w < 0) := by
  have hv : v ≠ 0 := by
    intro h
    subst h
    have h5 : u * w = 0 := by omega
    rcases Int.mul_eq_zero.mp h5 with h | h <;> subst h <;> exact hn (by omega)
  have huw : 0 < u * w := by have := mt_sqp hv; omega
  rcases Int.lt_trichotomy u 0 with hu | hu | hu
  · have hw : w < 0 := by
      rcases Int.lt_or_le w 0 with h | h
      · exact h
      · have := Int.mul_nonpos_of_nonpos_of_nonneg (Int.le_of_lt hu) h; omega
    exact Or.inr ⟨by omega, hu, hw⟩
  · subst hu; simp at huw
  · have hw : 0 < w := by
      rcases Int.lt_or_le 0 w with h | h
      · exact h
      · have := Int.mul_nonpos_of_nonneg_of_nonpos (Int.le_of_lt hu) h; omega
    exact Or.inl ⟨by omega, hu, hw⟩
theorem mt_neg {u v w : Int} (hR : v * v < 4 * (u * w)) : (0 < u ∧ 0 < w ∧ 0 < u + v + w) ∨ (u < 0 ∧ w < 0 ∧ u + v + w < 0) := by
  have huw : 0 < u * w := by have := mt_sq v; omega
  have hq : (u + w) * (u + w) = (u - w) * (u - w) + 4 * (u * w) := by grind
  have hq2 := mt_sq (u - w)
  rcases Int.lt_trichotomy u 0 with hu | hu | hu
  · have hw : w < 0 := by
      rcases Int.lt_or_le w 0 with h | h
      · exact h
      · have := Int.mul_nonpos_of_nonpos_of_nonneg (Int.le_of_lt hu) h; omega
    refine Or.inr ⟨hu, hw, ?_⟩
    rcases Int.lt_or_le (u + v + w) 0 with h | h
    · exact h
    · have h7 := Int.mul_self_le_mul_self (show 0 ≤ -(u + w) by omega) (show -(u + w) ≤ v by omega)
      rw [Int.neg_mul_neg] at h7
      omega
  · subst hu; simp at huw
  · have hw : 0 < w := by
      rcases Int.lt_or_le 0 w with h | h
      · exact h
      · have := Int.mul_nonpos_of_nonneg_of_nonpos (Int.le_of_lt hu) h; omega
    refine Or.inl ⟨hu, hw, ?_⟩
    rcases Int.lt_or_le 0 (u + v + w) with h | h
    · exact h
    · have h7 := Int.mul_self_le_mul_self (show 0 ≤ u + w by omega) (show u + w ≤ -v by omega)
      rw [Int.neg_mul_neg] at h7
      omega
theorem mt_H {u v w p q r : Int} (h0 : u * p + v * q + w * r = 0) (ha : p - 2 * q + r = 0) :
    2 * ((p * v + 2 * r * w) * (u + v + w)) = (p - r) * (v * v - 4 * (u * w)) ∧ v * (p * v + 2 * r * w) * (p - r) = (p * v + 2 * r * w) * (p * v + 2 * r * w) - p * r * (v * v - 4 * (u * w)) := by
  have hp : p = 2 * q - r := by omega
  subst hp
  constructor
  · have e : 2 * (((2 * q - r) * v + 2 * r * w) * (u + v + w)) = ((2 * q - r) - r) * (v * v - 4 * (u * w)) + 2 * (v + 2 * w) * (u * (2 * q - r) + v * q + w * r) := by grind
    rw [h0, Int.mul_zero, Int.add_zero] at e
    exact e
  · have e : v * ((2 * q - r) * v + 2 * r * w) * ((2 * q - r) - r) = ((2 * q - r) * v + 2 * r * w) * ((2 * q - r) * v + 2 * r * w) - (2 * q - r) * r * (v * v - 4 * (u * w)) + (-4 * r * w) * (u * (2 * q - r) + v * q + w * r) := by grind
    rw [h0, Int.mul_zero, Int.add_zero] at e
    exact e
/-- the sign of the x at a crossing, in u v w p q r; dn is 1 or -1 -/
def mt_S (u v w p q r dn : Int) : Int := if p - 2 * q + r = 0 then mt_sg (p * v + 2 * r * w) else mt_so (2 * (2 * u * (p - q) + v * (p - r) + 2 * w * (q - r))) (dn * (2 * (u + v + w))) (4 * (q * q - p * r))
theorem mt_S_odd (u v w p q r dn : Int) : mt_S u v w (-p) (-q) (-r) (-dn) = -mt_S u v w p q r dn := by
  unfold mt_S
  by_cases h : p - 2 * q + r = 0
  · rw [if_pos h, if_pos (by omega), ← mt_sg_neg]
    congr 1
    grind
  · rw [if_neg h, if_neg (by omega), ← mt_so_odd]
    congr 1 <;> grind
/-- both ends on different sides: the one crossing -/
theorem mt_T1 {u v w p q r : Int} (h0 : u * p + v * q + w * r = 0) (hp : 0 ≤ p) (hr : r ≤ 0) (hpr : r < p) (hz : ¬ (u = 0 ∧ v = 0 ∧ w = 0)) (hn : u + v + w ≠ 0 → v * v = 4 * (u * w) → ¬ ((0 ≤ u ∧ 0 ≤ v ∧ 0 ≤ w) ∨ (u ≤ 0 ∧ v ≤ 0 ∧ w ≤ 0))) :
    (v * v < 4 * (u * w) → mt_S u v w p q r (-1) = -mt_sg (u + v + w)) ∧ (4 * (u * w) ≤ v * v → v ≠ 0 ∧ mt_S u v w p q r (-1) = mt_sg v) := by
  have hd : 0 ≤ q * q - p * r := by
    have h1 := mt_sq q
    have h2 := Int.mul_nonpos_of_nonneg_of_nonpos hp hr
    omega
  unfold mt_S
  by_cases ha : p - 2 * q + r = 0
  · rw [if_pos ha]
    obtain ⟨e1, e2⟩ := mt_H h0 ha
    have h3 := Int.mul_nonpos_of_nonneg_of_nonpos hp hr
    constructor
    · intro hR
      have h4 : (p - r) * (v * v - 4 * (u * w)) < 0 := Int.mul_neg_of_pos_of_neg (by omega) (by omega)
      have h5 : 0 < (p * v + 2 * r * w) * (-(u + v + w)) := by rw [Int.mul_neg]; omega
      rw [(mt_sg_mul h5).1, mt_sg_neg]
    · intro hR
      by_cases hR2 : v * v = 4 * (u * w)
      · -- R = 0
        have hR3 : v * v - 4 * (u * w) = 0 := by omega
        rw [hR3, Int.mul_zero] at e1
        rw [hR3, Int.mul_zero, Int.sub_zero] at e2
        by_cases hs : u + v + w = 0
        · have k1 : (u - w) * (u - w) = 0 := by
            have : v = -u - w := by omega
            subst this
            grind
          have k2 : u = w := by rcases Int.mul_eq_zero.mp k1 with h | h <;> omega
          have hv : v ≠ 0 := by omega
          refine ⟨hv, ?_⟩
          have k3 : 0 < (p * v + 2 * r * w) * v := by
            have e5 : 2 * ((p * v + 2 * r * w) * v) = 2 * ((p - r) * (v * v)) := by
              have : w = -v - u := by omega
              have : 2 * w = -v := by omega
              have e6 : 2 * r * w = -(r * v) := by grind
              rw [e6]
              grind
            have := Int.mul_pos (show 0 < p - r by omega) (mt_sqp hv)
            omega
          exact (mt_sg_mul k3).1
        · have hnt := hn hs hR2
          rcases mt_vs hR2 hnt with ⟨a1, a2, a3⟩ | ⟨a1, a2, a3⟩
          all_goals
            exfalso
            have k0 : p * v + 2 * r * w = 0 := by
              rcases Int.mul_eq_zero.mp (show (p * v + 2 * r * w) * (u + v + w) = 0 by omega) with h | h
              · exact h
              · exact absurd h hs
          · have b1 := Int.mul_nonpos_of_nonneg_of_nonpos hp (Int.le_of_lt a1)
            have b2 := Int.mul_nonpos_of_nonpos_of_nonneg hr (Int.le_of_lt a3)
            rw [Int.mul_assoc] at k0
            rcases Int.lt_or_le 0 p with h | h
            · have := Int.mul_neg_of_pos_of_neg h a1; omega
            · have := Int.mul_neg_of_neg_of_pos (show r < 0 by omega) a3; omega
          · have b1 := Int.mul_nonneg hp (Int.le_of_lt a1)
            have b2 := Int.mul_nonneg_of_nonpos_of_nonpos hr (Int.le_of_lt a3)
            rw [Int.mul_assoc] at k0
            rcases Int.lt_or_le 0 p with h | h
            · have := Int.mul_pos h a1; omega
            · have := Int.mul_pos_of_neg_of_neg (show r < 0 by omega) a3; omega
      · have h4 : 0 < (p - r) * (v * v - 4 * (u * w)) := Int.mul_pos (by omega) (by omega)
        have h5 : p * v + 2 * r * w ≠ 0 := by
          intro h
          rw [h, Int.zero_mul] at e1
          omega
        have h6 := mt_sqp h5
        have h7 : 0 ≤ -(p * r * (v * v - 4 * (u * w))) := by
          have := Int.mul_nonpos_of_nonpos_of_nonneg h3 (show 0 ≤ v * v - 4 * (u * w) by omega)
          omega
        have h8 : 0 < v * (p * v + 2 * r * w) * (p - r) := by omega
        have h9 := Int.pos_of_mul_pos_left h8 (show 0 < p - r by omega)
        have h10 := mt_sg_mul h9
        exact ⟨h10.2.1, h10.1.symm⟩
  · rw [if_neg ha]
    have hid := mt_id h0
    have ha2 := mt_sqp ha
    have hg : (2 * (2 * u * (p - q) + v * (p - r) + 2 * w * (q - r))) * (2 * (2 * u * (p - q) + v * (p - r) + 2 * w * (q - r))) - (-1 * (2 * (u + v + w))) * (-1 * (2 * (u + v + w))) * (4 * (q * q - p * r)) = 4 * ((p - 2 * q + r) * (p - 2 * q + r) * (v * v - 4 * (u * w))) := by
      rw [← hid]
      grind
    constructor
    · intro hR
      have h4 := Int.mul_neg_of_pos_of_neg ha2 (show v * v - 4 * (u * w) < 0 by omega)
      rw [(mt_so_neg (by omega)).1, ← mt_sg_neg, ← mt_sg_2 (-(u + v + w))]
      congr 1
      omega
    · intro hR
      by_cases hR2 : v * v = 4 * (u * w)
      · have hs : u + v + w ≠ 0 := by
          intro hs
          have k1 : (u - w) * (u - w) = 0 := by
            have : v = -u - w := by omega
            subst this
            grind
          have k2 : u = w := by rcases Int.mul_eq_zero.mp k1 with h | h <;> omega
          have hv : v = -(2 * u) := by omega
          subst k2
          rw [hv] at h0
          have k3 : u * (p - 2 * q + r) = 0 := by grind
          rcases Int.mul_eq_zero.mp k3 with h | h
          · exact hz (by omega)
          · exact ha h
        have hnt := hn hs hR2
        have hvs := mt_vs hR2 hnt
        have hv : v ≠ 0 := by omega
        have h5 := mt_sg_mul (mt_A2 h0 hp hr hpr hR2 hs hv)
        refine ⟨hv, ?_⟩
        rw [mt_so_zero, mt_sg_2, h5.1]
        left
        rw [mt_sg_2, ← h5.1]
        have hq : (u + w) * (u + w) = (u - w) * (u - w) + 4 * (u * w) := by grind
        have hq2 := mt_sq (u - w)
        rcases hvs with ⟨a1, a2, a3⟩ | ⟨a1, a2, a3⟩
        · rw [mt_sg_n a1, mt_sg_n]
          have : 0 < u + v + w := by
            rcases Int.lt_or_le 0 (u + v + w) with h | h
            · exact h
            · have h7 := Int.mul_self_lt_mul_self (show 0 ≤ u + w by omega) (show u + w < -v by omega)
              rw [Int.neg_mul_neg] at h7
              omega
          omega
        · rw [mt_sg_p a1, mt_sg_p]
          have : u + v + w < 0 := by
            rcases Int.lt_or_le (u + v + w) 0 with h | h
            · exact h
            · have h7 := Int.mul_self_lt_mul_self (show 0 ≤ -(u + w) by omega) (show -(u + w) < v by omega)
              rw [Int.neg_mul_neg] at h7
              omega
          omega
      · have h4 := Int.mul_pos ha2 (show 0 < v * v - 4 * (u * w) by omega)
        have h5 := mt_sg_mul (mt_A1 h0 hp hr hpr (by omega))
        refine ⟨h5.2.1, ?_⟩
        rw [(mt_so_pos (by omega) (by omega)).1, mt_sg_2, h5.1]
/-- both ends on one side, the bend so far on the other that the curve crosses twice -/
theorem mt_T2 {u v w p q r dn : Int} (h0 : u * p + v * q + w * r = 0) (hp : 0 ≤ p) (hr : 0 ≤ r) (hq : q < 0) (hqq : p * r < q * q) (hdn : dn = 1 ∨ dn = -1) (hz : ¬ (u = 0 ∧ v = 0 ∧ w = 0)) (hn : u + v + w ≠ 0 → v * v = 4 * (u * w) → ¬ ((0 ≤ u ∧ 0 ≤ v ∧ 0 ≤ w) ∨ (u ≤ 0 ∧ v ≤ 0 ∧ w ≤ 0))) :
    v * v ≠ 4 * (u * w) ∧ (v * v < 4 * (u * w) → mt_S u v w p q r dn = dn * mt_sg (u + v + w)) ∧ (4 * (u * w) < v * v → 2 * u * (p - q) + v * (p - r) + 2 * w * (q - r) ≠ 0 ∧ mt_S u v w p q r dn = mt_sg (2 * u * (p - q) + v * (p - r) + 2 * w * (q - r))) := by
  have ha : p - 2 * q + r ≠ 0 := by omega
  have hid := mt_id h0
  have ha2 := mt_sqp ha
  have hd2 : dn * dn = 1 := by rcases hdn with h | h <;> subst h <;> rfl
  have hg : (2 * (2 * u * (p - q) + v * (p - r) + 2 * w * (q - r))) * (2 * (2 * u * (p - q) + v * (p - r) + 2 * w * (q - r))) - (dn * (2 * (u + v + w))) * (dn * (2 * (u + v + w))) * (4 * (q * q - p * r)) = 4 * ((p - 2 * q + r) * (p - 2 * q + r) * (v * v - 4 * (u * w))) := by
    rw [← hid]
    have e : (dn * (2 * (u + v + w))) * (dn * (2 * (u + v + w))) * (4 * (q * q - p * r)) = (dn * dn) * ((2 * (u + v + w)) * (2 * (u + v + w)) * (4 * (q * q - p * r))) := by grind
    rw [e, hd2]
    grind
  unfold mt_S
  rw [if_neg ha]
  refine ⟨?_, ?_, ?_⟩
  · intro hR2
    by_cases hs : u + v + w = 0
    · have k1 : (u - w) * (u - w) = 0 := by
        have : v = -u - w := by omega
        subst this
        grind
      have k2 : u = w := by rcases Int.mul_eq_zero.mp k1 with h | h <;> omega
      have hv : v = -(2 * u) := by omega
      subst k2
      rw [hv] at h0
      have k3 : u * (p - 2 * q + r) = 0 := by grind
      rcases Int.mul_eq_zero.mp k3 with h | h
      · exact hz (by omega)
      · exact ha h
    · rcases mt_vs hR2 (hn hs hR2) with ⟨a1, a2, a3⟩ | ⟨a1, a2, a3⟩
      · have b1 := Int.mul_nonneg (Int.le_of_lt a2) hp
        have b2 := Int.mul_nonneg (Int.le_of_lt a3) hr
        have b3 := Int.mul_pos_of_neg_of_neg a1 hq
        omega
      · have b1 := Int.mul_nonpos_of_nonpos_of_nonneg (Int.le_of_lt a2) hp
        have b2 := Int.mul_nonpos_of_nonpos_of_nonneg (Int.le_of_lt a3) hr
        have b3 := Int.mul_neg_of_pos_of_neg a1 hq
        omega
  · intro hR
    have h4 := Int.mul_neg_of_pos_of_neg ha2 (show v * v - 4 * (u * w) < 0 by omega)
    rw [(mt_so_neg (by omega)).1]
    rcases hdn with h | h <;> subst h
    · rw [Int.one_mul, Int.one_mul, mt_sg_2]
    · rw [show (-1 : Int) * mt_sg (u + v + w) = -mt_sg (u + v + w) by omega, ← mt_sg_neg, ← mt_sg_2 (-(u + v + w))]
      congr 1
      omega
  · intro hR
    have h4 := Int.mul_pos ha2 (show 0 < v * v - 4 * (u * w) by omega)
    have h5 := mt_so_pos (g := 2 * (2 * u * (p - q) + v * (p - r) + 2 * w * (q - r))) (e := dn * (2 * (u + v + w))) (d := 4 * (q * q - p * r)) (by omega) (by omega)
    exact ⟨by omega, by rw [h5.1, mt_sg_2]⟩
end
section
-- one arc: the class's answer and the reference's, over Int
def mt_rz (p q r : Int) : Prop := p = 0 ∨ mt_sg r ≠ mt_sg p ∨ (mt_sg q = -mt_sg p ∧ p * r ≤ q * q)
def mt_zr (p q r : Int) : Prop := (p = 0 ∨ r = 0 ∨ ¬ (0 < p ↔ 0 < r)) ∨ ((if 0 < p then q < 0 else 0 < q) ∧ p * r ≤ q * q)
theorem mt_rz_zr (p q r : Int) : mt_rz p q r ↔ mt_zr p q r := by
  unfold mt_rz mt_zr
  rcases mt_sg_c p with ⟨h1, e1⟩ | ⟨h1, e1⟩ | ⟨h1, e1⟩ <;> rcases mt_sg_c q with ⟨h2, e2⟩ | ⟨h2, e2⟩ | ⟨h2, e2⟩ <;> rcases mt_sg_c r with ⟨h3, e3⟩ | ⟨h3, e3⟩ | ⟨h3, e3⟩ <;> rw [e1, e2, e3] <;> split <;> omega
def mt_tri (u v w : Int) : Prop := (0 ≤ u ∧ 0 ≤ v ∧ 0 ≤ w) ∨ (u ≤ 0 ∧ v ≤ 0 ∧ w ≤ 0)
def mt_tch (u v w i p j q k r : Int) : Prop := (u + v + w = 0 ∧ (u = 0 ∧ v = 0 ∧ w = 0) ∧ mt_rz i j k ∧ mt_rz p q r) ∨ (u + v + w ≠ 0 ∧ mt_tri u v w ∧ v * v = 4 * (u * w))
def mt_touch (i p j q k r : Int) : Prop := mt_tch (j * r - k * q) (k * p - i * r) (i * q - j * p) i p j q k r
def mt_rtch (u v w i p j q k r : Int) : Prop := (u + v + w = 0 ∧ (if i = j ∧ j = k ∧ p = q ∧ q = r then i = 0 ∧ p = 0 else (u = 0 ∧ v = 0 ∧ w = 0) ∧ (if i = j ∧ j = k then mt_zr p q r else mt_zr i j k))) ∨ (u + v + w ≠ 0 ∧ mt_tri u v w ∧ v * v = 4 * (u * w))
def mt_rtouch (i p j q k r : Int) : Prop := mt_rtch (j * r - k * q) (k * p - i * r) (i * q - j * p) i p j q k r
/-- on one line with the place, and not all of one x: what holds of the x holds of the y -/
theorem mt_par {i p j q k r : Int} (h1 : k * p = i * r) (h2 : i * q = j * p) (hw : ¬ (i = j ∧ j = k)) (h : mt_rz i j k) : mt_rz p q r := by
  unfold mt_rz at h ⊢
  by_cases hp : p = 0
  · exact Or.inl hp
  by_cases hr : mt_sg r = mt_sg p
  · right; right
    have hi : i ≠ 0 := by
      intro hi
      subst hi
      rw [Int.zero_mul] at h1 h2
      have a1 : k = 0 := by rcases Int.mul_eq_zero.mp h1 with h | h
                            · exact h
                            · exact absurd h hp
      have a2 : j = 0 := by rcases Int.mul_eq_zero.mp h2.symm with h | h
                            · exact h
                            · exact absurd h hp
      exact hw ⟨a2.symm, by rw [a1, a2]⟩
    have hii := mt_sqp hi
    have hpp := mt_sqp hp
    have hsk : mt_sg k = mt_sg i := by
      rcases Int.lt_or_gt_of_ne hp with hp' | hp'
      · have hr' : r < 0 := by rw [mt_sg_n hp'] at hr; rcases mt_sg_c r with ⟨a, b⟩ | ⟨a, b⟩ | ⟨a, b⟩ <;> omega
        rcases Int.lt_or_gt_of_ne hi with hi' | hi'
        · have := Int.mul_pos_of_neg_of_neg hi' hr'
          have : k < 0 := by
            rcases Int.lt_or_le k 0 with h | h
            · exact h
            · have := Int.mul_nonpos_of_nonneg_of_nonpos h (Int.le_of_lt hp'); omega
          rw [mt_sg_n this, mt_sg_n hi']
        · have := Int.mul_neg_of_pos_of_neg hi' hr'
          have : 0 < k := by
            rcases Int.lt_or_le 0 k with h | h
            · exact h
            · have := Int.mul_nonneg_of_nonpos_of_nonpos h (Int.le_of_lt hp'); omega
          rw [mt_sg_p this, mt_sg_p hi']
      · have hr' : 0 < r := by rw [mt_sg_p hp'] at hr; rcases mt_sg_c r with ⟨a, b⟩ | ⟨a, b⟩ | ⟨a, b⟩ <;> omega
        rcases Int.lt_or_gt_of_ne hi with hi' | hi'
        · have := Int.mul_neg_of_neg_of_pos hi' hr'
          have : k < 0 := by
            rcases Int.lt_or_le k 0 with h | h
            · exact h
            · have := Int.mul_nonneg h (Int.le_of_lt hp'); omega
          rw [mt_sg_n this, mt_sg_n hi']
        · have := Int.mul_pos hi' hr'
          have : 0 < k := by
            rcases Int.lt_or_le 0 k with h | h
            · exact h
            · have := Int.mul_nonpos_of_nonpos_of_nonneg h (Int.le_of_lt hp'); omega
          rw [mt_sg_p this, mt_sg_p hi']
    rcases h with h | h | ⟨h, h'⟩
    · exact absurd h hi
    · exact absurd hsk h
    · constructor
      · rcases Int.lt_or_gt_of_ne hp with hp' | hp' <;> rcases Int.lt_or_gt_of_ne hi with hi' | hi'
        · rw [mt_sg_n hi'] at h
          have hj : 0 < j := by rcases mt_sg_c j with ⟨a, b⟩ | ⟨a, b⟩ | ⟨a, b⟩ <;> omega
          have := Int.mul_neg_of_pos_of_neg hj hp'
          have : 0 < q := by
            rcases Int.lt_or_le 0 q with h | h
            · exact h
            · have := Int.mul_nonneg_of_nonpos_of_nonpos (Int.le_of_lt hi') h; omega
          rw [mt_sg_p this, mt_sg_n hp']; rfl
        · rw [mt_sg_p hi'] at h
          have hj : j < 0 := by rcases mt_sg_c j with ⟨a, b⟩ | ⟨a, b⟩ | ⟨a, b⟩ <;> omega
          have := Int.mul_pos_of_neg_of_neg hj hp'
          have : 0 < q := by
            rcases Int.lt_or_le 0 q with h | h
            · exact h
            · have := Int.mul_nonpos_of_nonneg_of_nonpos (Int.le_of_lt hi') h; omega
          rw [mt_sg_p this, mt_sg_n hp']; rfl
        · rw [mt_sg_n hi'] at h
          have hj : 0 < j := by rcases mt_sg_c j with ⟨a, b⟩ | ⟨a, b⟩ | ⟨a, b⟩ <;> omega
          have := Int.mul_pos hj hp'
          have : q < 0 := by
            rcases Int.lt_or_le q 0 with h | h
            · exact h
            · have := Int.mul_nonpos_of_nonpos_of_nonneg (Int.le_of_lt hi') h; omega
          rw [mt_sg_n this, mt_sg_p hp']
        · rw [mt_sg_p hi'] at h
          have hj : j < 0 := by rcases mt_sg_c j with ⟨a, b⟩ | ⟨a, b⟩ | ⟨a, b⟩ <;> omega
          have := Int.mul_neg_of_neg_of_pos hj hp'
          have : q < 0 := by
            rcases Int.lt_or_le q 0 with h | h
            · exact h
            · have := Int.mul_nonneg (Int.le_of_lt hi') h; omega
          rw [mt_sg_n this, mt_sg_p hp']
      · -- i i (q q - p r) = p p (j j - i k)
        have e : (i * i) * (q * q - p * r) = (p * p) * (j * j - i * k) := by
          have a1 : (i * q) * (i * q) = (j * p) * (j * p) := by rw [h2]
          have a2 : (i * r) * (p * i) = (k * p) * (p * i) := by rw [h1]
          grind
        have h5 : 0 ≤ (p * p) * (j * j - i * k) := Int.mul_nonneg (Int.le_of_lt hpp) (by omega)
        have h6 := Int.nonneg_of_mul_nonneg_right (a := i * i) (b := q * q - p * r) (by omega) hii
        omega
  · exact Or.inr (Or.inl hr)
theorem mt_touch_iff (i p j q k r : Int) : mt_rtouch i p j q k r ↔ mt_touch i p j q k r := by
  unfold mt_rtouch mt_touch mt_rtch mt_tch
  by_cases hz : j * r - k * q = 0 ∧ k * p - i * r = 0 ∧ i * q - j * p = 0
  · have hs : j * r - k * q + (k * p - i * r) + (i * q - j * p) = 0 := by omega
    have key : (if i = j ∧ j = k ∧ p = q ∧ q = r then i = 0 ∧ p = 0 else (if i = j ∧ j = k then mt_zr p q r else mt_zr i j k)) ↔ (mt_rz i j k ∧ mt_rz p q r) := by
      by_cases hw : i = j ∧ j = k
      · obtain ⟨rfl, rfl⟩ := hw
        by_cases hp : p = q ∧ q = r
        · obtain ⟨rfl, rfl⟩ := hp
          rw [if_pos ⟨rfl, rfl, rfl, rfl⟩]
          unfold mt_rz
          rcases mt_sg_c i with ⟨h1, e1⟩ | ⟨h1, e1⟩ | ⟨h1, e1⟩ <;> rcases mt_sg_c p with ⟨h2, e2⟩ | ⟨h2, e2⟩ | ⟨h2, e2⟩ <;> rw [e1, e2] <;> omega
        · rw [if_neg (fun h => hp ⟨h.2.2.1, h.2.2.2⟩), if_pos ⟨rfl, rfl⟩, ← mt_rz_zr]
          have hi : i = 0 := by
            rcases Int.lt_trichotomy i 0 with h | h | h
            · exfalso
              have a1 : i * (r - q) = 0 := by grind
              have a2 : i * (q - p) = 0 := by grind
              rcases Int.mul_eq_zero.mp a1 with b | b <;> rcases Int.mul_eq_zero.mp a2 with d | d <;> omega
            · exact h
            · exfalso
              have a1 : i * (r - q) = 0 := by grind
              have a2 : i * (q - p) = 0 := by grind
              rcases Int.mul_eq_zero.mp a1 with b | b <;> rcases Int.mul_eq_zero.mp a2 with d | d <;> omega
          exact ⟨fun h => ⟨Or.inl hi, h⟩, fun h => h.2⟩
      · rw [if_neg (fun h => hw ⟨h.1, h.2.1⟩), if_neg hw, ← mt_rz_zr]
        exact ⟨fun h => ⟨h, mt_par (by omega) (by omega) hw h⟩, fun h => h.1⟩
    constructor
    · rintro (⟨_, h⟩ | ⟨h, _⟩)
      · refine Or.inl ⟨hs, hz, ?_⟩
        apply key.mp
        by_cases c : i = j ∧ j = k ∧ p = q ∧ q = r
        · rw [if_pos c] at h ⊢; exact h
        · rw [if_neg c] at h ⊢; exact h.2
      · exact absurd hs h
    · rintro (⟨_, _, h⟩ | ⟨h, _⟩)
      · refine Or.inl ⟨hs, ?_⟩
        have h := key.mpr h
        by_cases c : i = j ∧ j = k ∧ p = q ∧ q = r
        · rw [if_pos c] at h ⊢; exact h
        · rw [if_neg c] at h ⊢; exact ⟨hz, h⟩
      · exact absurd hs h
  · constructor
    · rintro (⟨hs, h⟩ | h)
      · split at h
        · rename_i c
          obtain ⟨rfl, rfl, rfl, rfl⟩ := c
          exact absurd ⟨by omega, by omega, by omega⟩ hz
        · exact absurd h.1 hz
      · exact Or.inr h
    · rintro (⟨_, h, _⟩ | h)
      · exact absurd h hz
      · exact Or.inr h
/-- all on one line with the place, ends on different sides: the place is on it -/
theorem mt_Z1 {i p k r : Int} (j q : Int) (hp : 0 ≤ p) (hr : r ≤ 0) (hpr : r < p) (h1 : k * p - i * r = 0) : mt_rz i j k ∧ mt_rz p q r := by
  constructor
  · unfold mt_rz
    by_cases hi : i = 0
    · exact Or.inl hi
    · refine Or.inr (Or.inl ?_)
      intro h
      rcases Int.lt_or_gt_of_ne hi with hi' | hi'
      · rw [mt_sg_n hi'] at h
        have hk : k < 0 := by rcases mt_sg_c k with ⟨a, b⟩ | ⟨a, b⟩ | ⟨a, b⟩ <;> omega
        have a1 := Int.mul_nonpos_of_nonpos_of_nonneg (Int.le_of_lt hk) hp
        have a2 := Int.mul_nonneg_of_nonpos_of_nonpos (Int.le_of_lt hi') hr
        rcases Int.lt_or_le 0 p with h | h
        · have := Int.mul_neg_of_neg_of_pos hk h; omega
        · have := Int.mul_pos_of_neg_of_neg hi' (show r < 0 by omega); omega
      · rw [mt_sg_p hi'] at h
        have hk : 0 < k := by rcases mt_sg_c k with ⟨a, b⟩ | ⟨a, b⟩ | ⟨a, b⟩ <;> omega
        have a1 := Int.mul_nonneg (Int.le_of_lt hk) hp
        have a2 := Int.mul_nonpos_of_nonneg_of_nonpos (Int.le_of_lt hi') hr
        rcases Int.lt_or_le 0 p with h | h
        · have := Int.mul_pos hk h; omega
        · have := Int.mul_neg_of_pos_of_neg hi' (show r < 0 by omega); omega
  · unfold mt_rz
    by_cases h : p = 0
    · exact Or.inl h
    · refine Or.inr (Or.inl ?_)
      rw [mt_sg_p (show 0 < p by omega)]
      rcases mt_sg_c r with ⟨a, b⟩ | ⟨a, b⟩ | ⟨a, b⟩ <;> omega
theorem mt_Z2 {i p j q k r : Int} (hp : 0 ≤ p) (hr : 0 ≤ r) (hq : q < 0) (hqq : p * r < q * q) (h1 : j * r - k * q = 0) (h3 : i * q - j * p = 0) : mt_rz i j k ∧ mt_rz p q r := by
  constructor
  · unfold mt_rz
    by_cases hi : i = 0
    · exact Or.inl hi
    by_cases hk : mt_sg k = mt_sg i
    · refine Or.inr (Or.inr ⟨?_, ?_⟩)
      · rcases Int.lt_or_gt_of_ne hi with hi' | hi'
        · have := Int.mul_pos_of_neg_of_neg hi' hq
          have hj : 0 < j := by
            rcases Int.lt_or_le 0 j with h | h
            · exact h
            · have := Int.mul_nonpos_of_nonpos_of_nonneg h hp; omega
          rw [mt_sg_p hj, mt_sg_n hi']; rfl
        · have := Int.mul_neg_of_pos_of_neg hi' hq
          have hj : j < 0 := by
            rcases Int.lt_or_le j 0 with h | h
            · exact h
            · have := Int.mul_nonneg h hp; omega
          rw [mt_sg_n hj, mt_sg_p hi']
      · have hqp := mt_sqp (show q ≠ 0 by omega)
        have e : (q * q) * (j * j - i * k) = (j * j) * (q * q - p * r) := by
          have a1 : i * q = j * p := by omega
          have a2 : k * q = j * r := by omega
          have a3 : (i * q) * (k * q) = (j * p) * (j * r) := by rw [a1, a2]
          grind
        have h5 : 0 ≤ (j * j) * (q * q - p * r) := Int.mul_nonneg (mt_sq j) (by omega)
        have h6 := Int.nonneg_of_mul_nonneg_right (a := q * q) (b := j * j - i * k) (by omega) hqp
        omega
    · exact Or.inr (Or.inl hk)
  · unfold mt_rz
    by_cases h : p = 0
    · exact Or.inl h
    by_cases h' : r = 0
    · refine Or.inr (Or.inl ?_)
      rw [mt_sg_p (show 0 < p by omega), h', mt_sg_0]; omega
    · refine Or.inr (Or.inr ⟨?_, by omega⟩)
      rw [mt_sg_n hq, mt_sg_p (show 0 < p by omega)]
theorem mt_rz_neg {p q r : Int} (h : mt_rz (-p) (-q) (-r)) : mt_rz p q r := by
  unfold mt_rz at h ⊢
  rw [mt_sg_neg, mt_sg_neg, mt_sg_neg, Int.neg_mul_neg, Int.neg_mul_neg] at h
  rcases h with h | h | ⟨h, h'⟩
  · exact Or.inl (by omega)
  · exact Or.inr (Or.inl (by omega))
  · exact Or.inr (Or.inr ⟨by omega, h'⟩)
def mt_cs (v i p k r : Int) : Int := if v ≠ 0 then mt_sg v else if r ≠ p then mt_sg (r - p) else mt_sg (k - i)
def mt_sh (cs p r : Int) : Int := if (0 ≤ p ↔ 0 ≤ r) then 0 else if 0 ≤ r then (if cs < 0 then 1 else 0) else (if 0 < cs then -1 else 0)
/-- does the loop of arc and chord go round the place -/
def mt_lp (u v w i p k r : Int) : Prop := u + v + w ≠ 0 ∧ mt_tri u v w ∧ v * v < 4 * (u * w) ∧ mt_cs v i p k r = mt_sg (u + v + w)
def mt_cond (p q r : Int) : Prop := (if 0 ≤ p then q < 0 else 0 < q) ∧ p * r < q * q
theorem mt_pr {u v w p q r : Int} (h0 : u * p + v * q + w * r = 0) (hR : v * v < 4 * (u * w)) (hv : v ≠ 0) (hq : q ≠ 0) : p * r < q * q := by
  rcases Int.lt_or_le (p * r) (q * q) with h | h
  · exact h
  · exfalso
    have hqq := mt_sqp hq
    have hvv := mt_sqp hv
    have e1 : (v * v) * (q * q) = (u * p + w * r) * (u * p + w * r) := by
      have : v * q = -(u * p + w * r) := by omega
      have : (v * q) * (v * q) = (u * p + w * r) * (u * p + w * r) := by rw [this, Int.neg_mul_neg]
      grind
    have e2 : (u * p + w * r) * (u * p + w * r) = (u * p - w * r) * (u * p - w * r) + (4 * (u * w)) * (p * r) := by grind
    have h2 := mt_sq (u * p - w * r)
    have h3 : (v * v) * (q * q) ≤ (v * v) * (p * r) := Int.mul_le_mul_of_nonneg_left h (Int.le_of_lt hvv)
    have h4 : (v * v) * (p * r) < (4 * (u * w)) * (p * r) := Int.mul_lt_mul_of_pos_right hR (by omega)
    omega
/-- the loop goes round the place, the ends on one side: the curve crosses twice; s > 0 -/
theorem mt_L1 {u v w i p j q k r : Int} (eu : u = j * r - k * q) (ew : w = i * q - j * p) (h0 : u * p + v * q + w * r = 0) (hpr : 0 ≤ p ↔ 0 ≤ r) (hR : v * v < 4 * (u * w)) (hu : 0 < u) (hw : 0 < w) (hv : 0 ≤ v) (hc : mt_cs v i p k r = 1) : mt_cond p q r := by
  unfold mt_cond
  by_cases hp : 0 ≤ p
  · have hr : 0 ≤ r := hpr.mp hp
    rw [if_pos hp]
    have b1 := Int.mul_nonneg (Int.le_of_lt hu) hp
    have b2 := Int.mul_nonneg (Int.le_of_lt hw) hr
    by_cases hv0 : v = 0
    · subst hv0
      rw [Int.zero_mul] at h0
      have p0 : p = 0 := by
        rcases Int.mul_eq_zero.mp (show u * p = 0 by omega) with h | h <;> omega
      have r0 : r = 0 := by
        rcases Int.mul_eq_zero.mp (show w * r = 0 by omega) with h | h <;> omega
      subst p0 r0
      unfold mt_cs at hc
      rw [if_neg (by omega), if_neg (by omega)] at hc
      have hki : 0 < k - i := by rcases mt_sg_c (k - i) with ⟨a, b⟩ | ⟨a, b⟩ | ⟨a, b⟩ <;> omega
      rw [Int.mul_zero] at eu ew
      have hq : q < 0 := by
        rcases Int.lt_or_le q 0 with h | h
        · exact h
        · exfalso
          have hk : k < 0 := by
            rcases Int.lt_or_le k 0 with h' | h'
            · exact h'
            · have := Int.mul_nonneg h' h; omega
          have hi : 0 < i := by
            rcases Int.lt_or_le 0 i with h' | h'
            · exact h'
            · have := Int.mul_nonpos_of_nonpos_of_nonneg h' h; omega
          omega
      exact ⟨hq, by have := mt_sqp (show q ≠ 0 by omega); omega⟩
    · have hv' : 0 < v := by omega
      have hq : q < 0 := by
        rcases Int.lt_trichotomy q 0 with h | h | h
        · exact h
        · exfalso
          subst h
          rw [Int.mul_zero] at h0
          have p0 : p = 0 := by
            rcases Int.mul_eq_zero.mp (show u * p = 0 by omega) with h | h <;> omega
          have r0 : r = 0 := by
            rcases Int.mul_eq_zero.mp (show w * r = 0 by omega) with h | h <;> omega
          subst p0 r0
          simp at eu
          omega
        · have := Int.mul_pos hv' h; omega
      exact ⟨hq, mt_pr h0 hR hv0 (by omega)⟩
  · have hr : ¬ 0 ≤ r := fun h => hp (hpr.mpr h)
    rw [if_neg hp]
    have b1 := Int.mul_neg_of_pos_of_neg hu (show p < 0 by omega)
    have b2 := Int.mul_neg_of_pos_of_neg hw (show r < 0 by omega)
    have hv0 : v ≠ 0 := by
      intro h
      subst h
      rw [Int.zero_mul] at h0
      omega
    have hq : 0 < q := by
      rcases Int.lt_or_le 0 q with h | h
      · exact h
      · have := Int.mul_nonpos_of_nonneg_of_nonpos hv h; omega
    exact ⟨hq, mt_pr h0 hR hv0 (by omega)⟩
/-- the other way round: the curve crosses twice and s > 0: the loop goes round the place -/
theorem mt_L2 {u v w i p j q k r : Int} (eu : u = j * r - k * q) (ew : w = i * q - j * p) (h0 : u * p + v * q + w * r = 0) (hpr : 0 ≤ p ↔ 0 ≤ r) (hu : 0 < u) (hw : 0 < w) (hc : mt_cond p q r) : 0 ≤ v ∧ mt_cs v i p k r = 1 := by
  unfold mt_cond at hc
  by_cases hp : 0 ≤ p
  · have hr : 0 ≤ r := hpr.mp hp
    rw [if_pos hp] at hc
    have b1 := Int.mul_nonneg (Int.le_of_lt hu) hp
    have b2 := Int.mul_nonneg (Int.le_of_lt hw) hr
    have hv : 0 ≤ v := by
      rcases Int.lt_or_le v 0 with h | h
      · have := Int.mul_pos_of_neg_of_neg h hc.1; omega
      · exact h
    refine ⟨hv, ?_⟩
    unfold mt_cs
    by_cases hv0 : v = 0
    · subst hv0
      rw [Int.zero_mul] at h0
      have p0 : p = 0 := by
        rcases Int.mul_eq_zero.mp (show u * p = 0 by omega) with h | h <;> omega
      have r0 : r = 0 := by
        rcases Int.mul_eq_zero.mp (show w * r = 0 by omega) with h | h <;> omega
      subst p0 r0
      rw [if_neg (by omega), if_neg (by omega)]
      rw [Int.mul_zero] at eu ew
      have hk : 0 < k := by
        rcases Int.lt_or_le 0 k with h' | h'
        · exact h'
        · have := Int.mul_nonneg_of_nonpos_of_nonpos h' (Int.le_of_lt hc.1); omega
      have hi : i < 0 := by
        rcases Int.lt_or_le i 0 with h' | h'
        · exact h'
        · have := Int.mul_nonpos_of_nonneg_of_nonpos h' (Int.le_of_lt hc.1); omega
      exact mt_sg_p (by omega)
    · rw [if_pos hv0, mt_sg_p (by omega)]
  · have hr : ¬ 0 ≤ r := fun h => hp (hpr.mpr h)
    rw [if_neg hp] at hc
    have b1 := Int.mul_neg_of_pos_of_neg hu (show p < 0 by omega)
    have b2 := Int.mul_neg_of_pos_of_neg hw (show r < 0 by omega)
    have hv : 0 < v := by
      rcases Int.lt_or_le 0 v with h | h
      · exact h
      · have := Int.mul_nonpos_of_nonpos_of_nonneg h (Int.le_of_lt hc.1); omega
    unfold mt_cs
    rw [if_pos (by omega), mt_sg_p hv]
    exact ⟨by omega, rfl⟩
theorem mt_cs_neg (v i p k r : Int) (h : v ≠ 0 ∨ r = p) : mt_cs (-v) (-i) p (-k) r = -mt_cs v i p k r := by
  unfold mt_cs
  by_cases hv : v = 0
  · have hr : r = p := by omega
    rw [if_neg (by omega), if_neg (by omega), if_neg (by omega), if_neg (by omega), ← mt_sg_neg]
    congr 1; omega
  · rw [if_pos (by omega), if_pos hv, mt_sg_neg]
end
section
def mt_kb (u v w i p k r : Int) : Int := if u + v + w ≠ 0 ∧ ((0 ≤ u ∧ 0 ≤ v ∧ 0 ≤ w) ∨ (u ≤ 0 ∧ v ≤ 0 ∧ w ≤ 0)) ∧ v * v < 4 * (u * w) ∧ mt_cs v i p k r = mt_sg (u + v + w) then mt_sh (mt_cs v i p k r) p r + mt_sg (u + v + w) else mt_sh (mt_cs v i p k r) p r
def mt_rturn (u v w p q r : Int) : Int :=
  if 0 ≤ p then (if 0 ≤ r then (if q < 0 ∧ p * r < q * q then (if 0 < mt_S u v w p q r (-1) then -1 else 0) + (if 0 < mt_S u v w p q r 1 then 1 else 0) else 0) else (if 0 < mt_S u v w p q r (-1) then -1 else 0))
  else (if 0 ≤ r then (if 0 < mt_S u v w p q r 1 then 1 else 0) else (if 0 < q ∧ p * r < q * q then (if 0 < mt_S u v w p q r 1 then 1 else 0) + (if 0 < mt_S u v w p q r (-1) then -1 else 0) else 0))
def mt_rok (u v w p q r : Int) : Prop := (0 ≤ p → r < 0 → mt_S u v w p q r (-1) ≠ 0) ∧ (p < 0 → 0 ≤ r → mt_S u v w p q r 1 ≠ 0) ∧ (0 ≤ p → 0 ≤ r → q < 0 → p * r < q * q → mt_S u v w p q r (-1) ≠ 0 ∧ mt_S u v w p q r 1 ≠ 0) ∧ (p < 0 → r < 0 → 0 < q → p * r < q * q → mt_S u v w p q r 1 ≠ 0 ∧ mt_S u v w p q r (-1) ≠ 0)
theorem mt_kb_pos {u v w i p k r : Int} (h : v * v < 4 * (u * w)) (hu : 0 < u) (hw : 0 < w) (hs : 0 < u + v + w) : mt_kb u v w i p k r = if 0 ≤ v ∧ mt_cs v i p k r = 1 then mt_sh (mt_cs v i p k r) p r + 1 else mt_sh (mt_cs v i p k r) p r := by
  unfold mt_kb
  rw [mt_sg_p hs]
  by_cases c : 0 ≤ v ∧ mt_cs v i p k r = 1
  · rw [if_pos c, if_pos ⟨by omega, Or.inl ⟨by omega, c.1, by omega⟩, h, c.2⟩]
  · rw [if_neg c, if_neg]
    rintro ⟨_, a, _, b⟩
    exact c ⟨by omega, b⟩
theorem mt_kb_neg {u v w i p k r : Int} (h : v * v < 4 * (u * w)) (hu : u < 0) (hw : w < 0) (hs : u + v + w < 0) : mt_kb u v w i p k r = if v ≤ 0 ∧ mt_cs v i p k r = -1 then mt_sh (mt_cs v i p k r) p r + -1 else mt_sh (mt_cs v i p k r) p r := by
  unfold mt_kb
  rw [mt_sg_n hs]
  by_cases c : v ≤ 0 ∧ mt_cs v i p k r = -1
  · rw [if_pos c, if_pos ⟨by omega, Or.inr ⟨by omega, c.1, by omega⟩, h, c.2⟩]
  · rw [if_neg c, if_neg]
    rintro ⟨_, a, _, b⟩
    exact c ⟨by omega, b⟩
theorem mt_kb_out {u v w i p k r : Int} (h : ¬ v * v < 4 * (u * w)) : mt_kb u v w i p k r = mt_sh (mt_cs v i p k r) p r := by
  unfold mt_kb
  rw [if_neg]
  rintro ⟨_, _, a, _⟩
  exact h a
theorem mt_main {u v w i p j q k r : Int} (eu : u = j * r - k * q) (ev : v = k * p - i * r) (ew : w = i * q - j * p) (ht : ¬ mt_tch u v w i p j q k r) : mt_rok u v w p q r ∧ mt_rturn u v w p q r = mt_kb u v w i p k r := by
  have h0 : u * p + v * q + w * r = 0 := by subst eu ev ew; grind
  have h0' : u * (-p) + v * (-q) + w * (-r) = 0 := by grind
  have hn : u + v + w ≠ 0 → v * v = 4 * (u * w) → ¬ ((0 ≤ u ∧ 0 ≤ v ∧ 0 ≤ w) ∨ (u ≤ 0 ∧ v ≤ 0 ∧ w ≤ 0)) := fun a b c => ht (Or.inr ⟨a, c, b⟩)
  have hz : (mt_rz i j k ∧ mt_rz p q r) → ¬ (u = 0 ∧ v = 0 ∧ w = 0) := fun a b => ht (Or.inl ⟨by omega, b, a⟩)
  by_cases hp : 0 ≤ p
  · by_cases hr : 0 ≤ r
    · have hpr : 0 ≤ p ↔ 0 ≤ r := ⟨fun _ => hr, fun _ => hp⟩
      have hsh : ∀ c, mt_sh c p r = 0 := fun c => by unfold mt_sh; rw [if_pos hpr]
      by_cases hc : q < 0 ∧ p * r < q * q
      · have hz' : ¬ (u = 0 ∧ v = 0 ∧ w = 0) := fun a => hz (mt_Z2 hp hr hc.1 hc.2 (by omega) (by omega)) a
        have hcc : mt_cond p q r := by unfold mt_cond; rw [if_pos hp]; exact hc
        obtain ⟨t1, t2, t3⟩ := mt_T2 (dn := 1) h0 hp hr hc.1 hc.2 (Or.inl rfl) hz' hn
        obtain ⟨_, t5, t6⟩ := mt_T2 (dn := -1) h0 hp hr hc.1 hc.2 (Or.inr rfl) hz' hn
        have hT : mt_rturn u v w p q r = (if 0 < mt_S u v w p q r (-1) then -1 else 0) + (if 0 < mt_S u v w p q r 1 then 1 else 0) := by
          unfold mt_rturn; rw [if_pos hp, if_pos hr, if_pos hc]
        have hO : mt_S u v w p q r (-1) ≠ 0 → mt_S u v w p q r 1 ≠ 0 → mt_rok u v w p q r := fun a b =>
          ⟨fun _ h => absurd hr (by omega), fun h _ => absurd hp (by omega), fun _ _ _ _ => ⟨a, b⟩, fun h _ _ _ => absurd hp (by omega)⟩
        rcases Int.lt_or_gt_of_ne t1 with hR | hR
        · have e1 := t2 hR
          have e2 := t5 hR
          rcases mt_neg hR with ⟨a1, a2, a3⟩ | ⟨a1, a2, a3⟩
          · rw [mt_sg_p a3] at e1 e2
            obtain ⟨b1, b2⟩ := mt_L2 eu ew h0 hpr a1 a2 hcc
            rw [hT, mt_kb_pos hR a1 a2 a3, if_pos (show 0 ≤ v ∧ mt_cs v i p k r = 1 from ⟨b1, b2⟩), hsh, e1, e2]
            exact ⟨hO (by omega) (by omega), by decide⟩
          · rw [mt_sg_n a3] at e1 e2
            obtain ⟨b1, b2⟩ := mt_L2 (u := -u) (v := -v) (w := -w) (i := -i) (j := -j) (k := -k) (p := p) (q := q) (r := r) (by grind) (by grind) (by grind) hpr (by omega) (by omega) hcc
            have b3 : mt_cs v i p k r = -1 := by
              have : v ≠ 0 ∨ r = p := by
                by_cases hv0 : v = 0
                · right
                  subst hv0
                  rw [Int.zero_mul] at h0
                  have c1 := Int.mul_nonpos_of_nonpos_of_nonneg (Int.le_of_lt a1) hp
                  have c2 := Int.mul_nonpos_of_nonpos_of_nonneg (Int.le_of_lt a2) hr
                  have p0 : p = 0 := by
                    rcases Int.mul_eq_zero.mp (show u * p = 0 by omega) with h | h <;> omega
                  have r0 : r = 0 := by
                    rcases Int.mul_eq_zero.mp (show w * r = 0 by omega) with h | h <;> omega
                  omega
                · exact Or.inl hv0
              rw [mt_cs_neg v i p k r this] at b2
              omega
            rw [hT, mt_kb_neg hR a1 a2 a3, if_pos (show v ≤ 0 ∧ mt_cs v i p k r = -1 from ⟨by omega, b3⟩), hsh, e1, e2]
            exact ⟨hO (by omega) (by omega), by decide⟩
        · obtain ⟨g0, e1⟩ := t3 hR
          obtain ⟨_, e2⟩ := t6 hR
          rw [hT, mt_kb_out (by omega), hsh, e1, e2]
          rcases mt_sg_c (2 * u * (p - q) + v * (p - r) + 2 * w * (q - r)) with ⟨a, b⟩ | ⟨a, b⟩ | ⟨a, b⟩
          · rw [b]; exact ⟨hO (by omega) (by omega), by decide⟩
          · exact absurd a g0
          · rw [b]; exact ⟨hO (by omega) (by omega), by decide⟩
      · have hcc : ¬ mt_cond p q r := by unfold mt_cond; rw [if_pos hp]; exact hc
        have hT : mt_rturn u v w p q r = 0 := by unfold mt_rturn; rw [if_pos hp, if_pos hr, if_neg hc]
        refine ⟨⟨fun _ h => absurd hr (by omega), fun h _ => absurd hp (by omega), fun _ _ a b => absurd ⟨a, b⟩ hc, fun h _ _ _ => absurd hp (by omega)⟩, ?_⟩
        rw [hT]
        by_cases hR : v * v < 4 * (u * w)
        · rcases mt_neg hR with ⟨a1, a2, a3⟩ | ⟨a1, a2, a3⟩
          · rw [mt_kb_pos hR a1 a2 a3, if_neg, hsh]
            rintro ⟨b1, b2⟩
            exact hcc (mt_L1 eu ew h0 hpr hR a1 a2 b1 b2)
          · rw [mt_kb_neg hR a1 a2 a3, if_neg, hsh]
            rintro ⟨b1, b2⟩
            have : v ≠ 0 ∨ r = p := by
              by_cases hv0 : v = 0
              · right
                subst hv0
                rw [Int.zero_mul] at h0
                have c1 := Int.mul_nonpos_of_nonpos_of_nonneg (Int.le_of_lt a1) hp
                have c2 := Int.mul_nonpos_of_nonpos_of_nonneg (Int.le_of_lt a2) hr
                have p0 : p = 0 := by
                  rcases Int.mul_eq_zero.mp (show u * p = 0 by omega) with h | h <;> omega
                have r0 : r = 0 := by
                  rcases Int.mul_eq_zero.mp (show w * r = 0 by omega) with h | h <;> omega
                omega
              · exact Or.inl hv0
            exact hcc (mt_L1 (u := -u) (v := -v) (w := -w) (i := -i) (j := -j) (k := -k) (by grind) (by grind) (by grind) hpr (by rw [Int.neg_mul_neg, Int.neg_mul_neg]; exact hR) (by omega) (by omega) (by omega) (by rw [mt_cs_neg v i p k r this]; omega))
        · rw [mt_kb_out hR, hsh]
    · -- p ≥ 0 > r
      have hz' : ¬ (u = 0 ∧ v = 0 ∧ w = 0) := fun a => hz (mt_Z1 j q hp (by omega) (by omega) (by omega)) a
      obtain ⟨t1, t2⟩ := mt_T1 h0 hp (by omega) (by omega) hz' hn
      have hT : mt_rturn u v w p q r = (if 0 < mt_S u v w p q r (-1) then -1 else 0) := by
        unfold mt_rturn; rw [if_pos hp, if_neg hr]
      have hO : mt_S u v w p q r (-1) ≠ 0 → mt_rok u v w p q r := fun a =>
        ⟨fun _ _ => a, fun h _ => absurd hp (by omega), fun _ h => absurd h hr, fun h _ _ _ => absurd hp (by omega)⟩
      have hsh : ∀ c, mt_sh c p r = if 0 < c then -1 else 0 := fun c => by
        unfold mt_sh; rw [if_neg (fun h => hr (h.mp hp)), if_neg hr]
      rw [hT]
      by_cases hR : v * v < 4 * (u * w)
      · have e := t1 hR
        rcases mt_neg hR with ⟨a1, a2, a3⟩ | ⟨a1, a2, a3⟩
        · rw [mt_sg_p a3] at e
          rw [mt_kb_pos hR a1 a2 a3, hsh, e]
          refine ⟨hO (by omega), ?_⟩
          rcases mt_sg_c v with ⟨b1, b2⟩ | ⟨b1, b2⟩ | ⟨b1, b2⟩
          · have hcs : mt_cs v i p k r = -1 := by unfold mt_cs; rw [if_pos (show v ≠ 0 by omega), b2]
            rw [hcs]; (repeat' split) <;> omega
          · have hcs : mt_cs v i p k r = -1 := by unfold mt_cs; rw [if_neg (show ¬ v ≠ 0 by omega), if_pos (show r ≠ p by omega), mt_sg_n (by omega)]
            rw [hcs]; (repeat' split) <;> omega
          · have hcs : mt_cs v i p k r = 1 := by unfold mt_cs; rw [if_pos (show v ≠ 0 by omega), b2]
            rw [hcs]; (repeat' split) <;> omega
        · rw [mt_sg_n a3] at e
          rw [mt_kb_neg hR a1 a2 a3, hsh, e]
          refine ⟨hO (by omega), ?_⟩
          rcases mt_sg_c v with ⟨b1, b2⟩ | ⟨b1, b2⟩ | ⟨b1, b2⟩
          · have hcs : mt_cs v i p k r = -1 := by unfold mt_cs; rw [if_pos (show v ≠ 0 by omega), b2]
            rw [hcs]; (repeat' split) <;> omega
          · have hcs : mt_cs v i p k r = -1 := by unfold mt_cs; rw [if_neg (show ¬ v ≠ 0 by omega), if_pos (show r ≠ p by omega), mt_sg_n (by omega)]
            rw [hcs]; (repeat' split) <;> omega
          · have hcs : mt_cs v i p k r = 1 := by unfold mt_cs; rw [if_pos (show v ≠ 0 by omega), b2]
            rw [hcs]; (repeat' split) <;> omega
      · obtain ⟨hv, e⟩ := t2 (by omega)
        rw [mt_kb_out hR, hsh, e]
        unfold mt_cs
        rw [if_pos hv]
        refine ⟨hO ?_, rfl⟩
        rw [e]
        rcases mt_sg_c v with ⟨b1, b2⟩ | ⟨b1, b2⟩ | ⟨b1, b2⟩ <;> omega
  · by_cases hr : 0 ≤ r
    · -- p < 0 ≤ r
      have hz' : ¬ (u = 0 ∧ v = 0 ∧ w = 0) := fun a => hz (by
        obtain ⟨c1, c2⟩ := mt_Z1 (i := -i) (k := -k) (p := -p) (r := -r) (-j) (-q) (by omega) (by omega) (by omega) (by rw [Int.neg_mul_neg, Int.neg_mul_neg]; omega)
        exact ⟨mt_rz_neg c1, mt_rz_neg c2⟩) a
      obtain ⟨t1, t2⟩ := mt_T1 h0' (by omega) (by omega) (by omega) hz' hn
      have ho : mt_S u v w (-p) (-q) (-r) (-1) = -mt_S u v w p q r 1 := mt_S_odd u v w p q r 1
      rw [ho] at t1 t2
      have hT : mt_rturn u v w p q r = (if 0 < mt_S u v w p q r 1 then 1 else 0) := by
        unfold mt_rturn; rw [if_neg hp, if_pos hr]
      have hO : mt_S u v w p q r 1 ≠ 0 → mt_rok u v w p q r := fun a =>
        ⟨fun h _ => absurd h hp, fun _ _ => a, fun h => absurd h hp, fun _ h _ _ => absurd hr (by omega)⟩
      have hsh : ∀ c, mt_sh c p r = if c < 0 then 1 else 0 := fun c => by
        unfold mt_sh; rw [if_neg (fun h => hp (h.mpr hr)), if_pos hr]
      rw [hT]
      by_cases hR : v * v < 4 * (u * w)
      · have e := t1 hR
        rcases mt_neg hR with ⟨a1, a2, a3⟩ | ⟨a1, a2, a3⟩
        · rw [mt_sg_p a3] at e
          have e : mt_S u v w p q r 1 = 1 := by omega
          rw [mt_kb_pos hR a1 a2 a3, hsh, e]
          refine ⟨hO (by omega), ?_⟩
          rcases mt_sg_c v with ⟨b1, b2⟩ | ⟨b1, b2⟩ | ⟨b1, b2⟩
          · have hcs : mt_cs v i p k r = -1 := by unfold mt_cs; rw [if_pos (show v ≠ 0 by omega), b2]
            rw [hcs]; (repeat' split) <;> omega
          · have hcs : mt_cs v i p k r = 1 := by unfold mt_cs; rw [if_neg (show ¬ v ≠ 0 by omega), if_pos (show r ≠ p by omega), mt_sg_p (by omega)]
            rw [hcs]; (repeat' split) <;> omega
          · have hcs : mt_cs v i p k r = 1 := by unfold mt_cs; rw [if_pos (show v ≠ 0 by omega), b2]
            rw [hcs]; (repeat' split) <;> omega
        · rw [mt_sg_n a3] at e
          have e : mt_S u v w p q r 1 = -1 := by omega
          rw [mt_kb_neg hR a1 a2 a3, hsh, e]
          refine ⟨hO (by omega), ?_⟩
          rcases mt_sg_c v with ⟨b1, b2⟩ | ⟨b1, b2⟩ | ⟨b1, b2⟩
          · have hcs : mt_cs v i p k r = -1 := by unfold mt_cs; rw [if_pos (show v ≠ 0 by omega), b2]
            rw [hcs]; (repeat' split) <;> omega
          · have hcs : mt_cs v i p k r = 1 := by unfold mt_cs; rw [if_neg (show ¬ v ≠ 0 by omega), if_pos (show r ≠ p by omega), mt_sg_p (by omega)]
            rw [hcs]; (repeat' split) <;> omega
          · have hcs : mt_cs v i p k r = 1 := by unfold mt_cs; rw [if_pos (show v ≠ 0 by omega), b2]
            rw [hcs]; (repeat' split) <;> omega
      · obtain ⟨hv, e⟩ := t2 (by omega)
        have e : mt_S u v w p q r 1 = -mt_sg v := by omega
        rw [mt_kb_out hR, hsh, e]
        unfold mt_cs
        rw [if_pos hv]
        rcases mt_sg_c v with ⟨b1, b2⟩ | ⟨b1, b2⟩ | ⟨b1, b2⟩
        · rw [b2]; exact ⟨hO (by omega), by decide⟩
        · exact absurd b1 hv
        · rw [b2]; exact ⟨hO (by omega), by decide⟩
    · -- both < 0
      have hpr : 0 ≤ p ↔ 0 ≤ r := ⟨fun h => absurd h hp, fun h => absurd h hr⟩
      have hsh : ∀ c, mt_sh c p r = 0 := fun c => by unfold mt_sh; rw [if_pos hpr]
      have hvn : (0 < u ∧ 0 < w) ∨ (u < 0 ∧ w < 0) → v ≠ 0 := by
        rintro (⟨a1, a2⟩ | ⟨a1, a2⟩) hv0
        · subst hv0
          rw [Int.zero_mul] at h0
          have c1 := Int.mul_neg_of_pos_of_neg a1 (show p < 0 by omega)
          have c2 := Int.mul_neg_of_pos_of_neg a2 (show r < 0 by omega)
          omega
        · subst hv0
          rw [Int.zero_mul] at h0
          have c1 := Int.mul_pos_of_neg_of_neg a1 (show p < 0 by omega)
          have c2 := Int.mul_pos_of_neg_of_neg a2 (show r < 0 by omega)
          omega
      by_cases hc : 0 < q ∧ p * r < q * q
      · have hz' : ¬ (u = 0 ∧ v = 0 ∧ w = 0) := fun a => hz (by
          obtain ⟨c1, c2⟩ := mt_Z2 (i := -i) (j := -j) (k := -k) (p := -p) (q := -q) (r := -r) (by omega) (by omega) (by omega) (by rw [Int.neg_mul_neg, Int.neg_mul_neg]; exact hc.2) (by rw [Int.neg_mul_neg, Int.neg_mul_neg]; omega) (by rw [Int.neg_mul_neg, Int.neg_mul_neg]; omega)
          exact ⟨mt_rz_neg c1, mt_rz_neg c2⟩) a
        have hcc : mt_cond p q r := by unfold mt_cond; rw [if_neg hp]; exact hc
        have hqq : (-p) * (-r) < (-q) * (-q) := by rw [Int.neg_mul_neg, Int.neg_mul_neg]; exact hc.2
        obtain ⟨t1, t2, t3⟩ := mt_T2 (dn := 1) h0' (by omega) (by omega) (by omega) hqq (Or.inl rfl) hz' hn
        obtain ⟨_, t5, t6⟩ := mt_T2 (dn := -1) h0' (by omega) (by omega) (by omega) hqq (Or.inr rfl) hz' hn
        have o1 : mt_S u v w (-p) (-q) (-r) (-1) = -mt_S u v w p q r 1 := mt_S_odd u v w p q r 1
        have o2 : mt_S u v w (-p) (-q) (-r) 1 = -mt_S u v w p q r (-1) := by
          have := mt_S_odd u v w p q r (-1)
          rw [show -(-1 : Int) = 1 by decide] at this
          exact this
        rw [o2] at t2 t3
        rw [o1] at t5 t6
        have hT : mt_rturn u v w p q r = (if 0 < mt_S u v w p q r 1 then 1 else 0) + (if 0 < mt_S u v w p q r (-1) then -1 else 0) := by
          unfold mt_rturn; rw [if_neg hp, if_neg hr, if_pos hc]
        have hO : mt_S u v w p q r 1 ≠ 0 → mt_S u v w p q r (-1) ≠ 0 → mt_rok u v w p q r := fun a b =>
          ⟨fun h _ => absurd h hp, fun _ h => absurd h hr, fun h => absurd h hp, fun _ _ _ _ => ⟨a, b⟩⟩
        rcases Int.lt_or_gt_of_ne t1 with hR | hR
        · have e2 := t2 hR
          have e1 := t5 hR
          rcases mt_neg hR with ⟨a1, a2, a3⟩ | ⟨a1, a2, a3⟩
          · rw [mt_sg_p a3] at e1 e2
            have e1 : mt_S u v w p q r 1 = 1 := by omega
            have e2 : mt_S u v w p q r (-1) = -1 := by omega
            obtain ⟨b1, b2⟩ := mt_L2 eu ew h0 hpr a1 a2 hcc
            rw [hT, mt_kb_pos hR a1 a2 a3, if_pos (show 0 ≤ v ∧ mt_cs v i p k r = 1 from ⟨b1, b2⟩), hsh, e1, e2]
            exact ⟨hO (by omega) (by omega), by decide⟩
          · rw [mt_sg_n a3] at e1 e2
            have e1 : mt_S u v w p q r 1 = -1 := by omega
            have e2 : mt_S u v w p q r (-1) = 1 := by omega
            obtain ⟨b1, b2⟩ := mt_L2 (u := -u) (v := -v) (w := -w) (i := -i) (j := -j) (k := -k) (p := p) (q := q) (r := r) (by grind) (by grind) (by grind) hpr (by omega) (by omega) hcc
            have b3 : mt_cs v i p k r = -1 := by
              rw [mt_cs_neg v i p k r (Or.inl (hvn (Or.inr ⟨a1, a2⟩)))] at b2
              omega
            rw [hT, mt_kb_neg hR a1 a2 a3, if_pos (show v ≤ 0 ∧ mt_cs v i p k r = -1 from ⟨by omega, b3⟩), hsh, e1, e2]
            exact ⟨hO (by omega) (by omega), by decide⟩
        · obtain ⟨g0, e2⟩ := t3 hR
          obtain ⟨_, e1⟩ := t6 hR
          rw [hT, mt_kb_out (by omega), hsh]
          rcases mt_sg_c (2 * u * (-p - -q) + v * (-p - -r) + 2 * w * (-q - -r)) with ⟨a, b⟩ | ⟨a, b⟩ | ⟨a, b⟩
          · rw [b] at e1 e2
            have e1 : mt_S u v w p q r 1 = 1 := by omega
            have e2 : mt_S u v w p q r (-1) = 1 := by omega
            rw [e1, e2]
            exact ⟨hO (by omega) (by omega), by decide⟩
          · exact absurd a g0
          · rw [b] at e1 e2
            have e1 : mt_S u v w p q r 1 = -1 := by omega
            have e2 : mt_S u v w p q r (-1) = -1 := by omega
            rw [e1, e2]
            exact ⟨hO (by omega) (by omega), by decide⟩
      · have hcc : ¬ mt_cond p q r := by unfold mt_cond; rw [if_neg hp]; exact hc
        have hT : mt_rturn u v w p q r = 0 := by unfold mt_rturn; rw [if_neg hp, if_neg hr, if_neg hc]
        refine ⟨⟨fun h _ => absurd h hp, fun _ h => absurd h hr, fun h => absurd h hp, fun _ _ a b => absurd ⟨a, b⟩ hc⟩, ?_⟩
        rw [hT]
        by_cases hR : v * v < 4 * (u * w)
        · rcases mt_neg hR with ⟨a1, a2, a3⟩ | ⟨a1, a2, a3⟩
          · rw [mt_kb_pos hR a1 a2 a3, if_neg, hsh]
            rintro ⟨b1, b2⟩
            exact hcc (mt_L1 eu ew h0 hpr hR a1 a2 b1 b2)
          · rw [mt_kb_neg hR a1 a2 a3, if_neg, hsh]
            rintro ⟨b1, b2⟩
            exact hcc (mt_L1 (u := -u) (v := -v) (w := -w) (i := -i) (j := -j) (k := -k) (by grind) (by grind) (by grind) hpr (by rw [Int.neg_mul_neg, Int.neg_mul_neg]; exact hR) (by omega) (by omega) (by omega) (by rw [mt_cs_neg v i p k r (Or.inl (hvn (Or.inr ⟨a1, a2⟩)))]; omega))
        · rw [mt_kb_out hR, hsh]
/-- the class's early answers: the place is left and right of nothing -/
theorem mt_same {u v w i j k : Int} (h0 : u * i + v * j + w * k = 0) (h : mt_tri u v w) (hi : (0 < i ∧ 0 < j ∧ 0 < k) ∨ (i < 0 ∧ j < 0 ∧ k < 0)) : u = 0 ∧ v = 0 ∧ w = 0 := by
  rcases h with ⟨a1, a2, a3⟩ | ⟨a1, a2, a3⟩ <;> rcases hi with ⟨b1, b2, b3⟩ | ⟨b1, b2, b3⟩
  · have c1 := Int.mul_nonneg a1 (Int.le_of_lt b1)
    have c2 := Int.mul_nonneg a2 (Int.le_of_lt b2)
    have c3 := Int.mul_nonneg a3 (Int.le_of_lt b3)
    refine ⟨?_, ?_, ?_⟩
    · rcases Int.mul_eq_zero.mp (show u * i = 0 by omega) with h | h <;> omega
    · rcases Int.mul_eq_zero.mp (show v * j = 0 by omega) with h | h <;> omega
    · rcases Int.mul_eq_zero.mp (show w * k = 0 by omega) with h | h <;> omega
  · have c1 := Int.mul_nonpos_of_nonneg_of_nonpos a1 (Int.le_of_lt b1)
    have c2 := Int.mul_nonpos_of_nonneg_of_nonpos a2 (Int.le_of_lt b2)
    have c3 := Int.mul_nonpos_of_nonneg_of_nonpos a3 (Int.le_of_lt b3)
    refine ⟨?_, ?_, ?_⟩
    · rcases Int.mul_eq_zero.mp (show u * i = 0 by omega) with h | h <;> omega
    · rcases Int.mul_eq_zero.mp (show v * j = 0 by omega) with h | h <;> omega
    · rcases Int.mul_eq_zero.mp (show w * k = 0 by omega) with h | h <;> omega
  · have c1 := Int.mul_nonpos_of_nonpos_of_nonneg a1 (Int.le_of_lt b1)
    have c2 := Int.mul_nonpos_of_nonpos_of_nonneg a2 (Int.le_of_lt b2)
    have c3 := Int.mul_nonpos_of_nonpos_of_nonneg a3 (Int.le_of_lt b3)
    refine ⟨?_, ?_, ?_⟩
    · rcases Int.mul_eq_zero.mp (show u * i = 0 by omega) with h | h <;> omega
    · rcases Int.mul_eq_zero.mp (show v * j = 0 by omega) with h | h <;> omega
    · rcases Int.mul_eq_zero.mp (show w * k = 0 by omega) with h | h <;> omega
  · have c1 := Int.mul_nonneg_of_nonpos_of_nonpos a1 (Int.le_of_lt b1)
    have c2 := Int.mul_nonneg_of_nonpos_of_nonpos a2 (Int.le_of_lt b2)
    have c3 := Int.mul_nonneg_of_nonpos_of_nonpos a3 (Int.le_of_lt b3)
    refine ⟨?_, ?_, ?_⟩
    · rcases Int.mul_eq_zero.mp (show u * i = 0 by omega) with h | h <;> omega
    · rcases Int.mul_eq_zero.mp (show v * j = 0 by omega) with h | h <;> omega
    · rcases Int.mul_eq_zero.mp (show w * k = 0 by omega) with h | h <;> omega
theorem mt_rz_same {p q r : Int} (h : (0 < p ∧ 0 < q ∧ 0 < r) ∨ (p < 0 ∧ q < 0 ∧ r < 0)) : ¬ mt_rz p q r := by
  unfold mt_rz
  rcases h with ⟨b1, b2, b3⟩ | ⟨b1, b2, b3⟩
  · rw [mt_sg_p b1, mt_sg_p b2, mt_sg_p b3]; omega
  · rw [mt_sg_n b1, mt_sg_n b2, mt_sg_n b3]; omega
theorem mt_early {u v w i p j q k r : Int} (eu : u = j * r - k * q) (ev : v = k * p - i * r) (ew : w = i * q - j * p) (h : (0 < p ∧ 0 < q ∧ 0 < r) ∨ (p < 0 ∧ q < 0 ∧ r < 0) ∨ (i < 0 ∧ j < 0 ∧ k < 0)) : ¬ mt_tch u v w i p j q k r ∧ mt_kb u v w i p k r = 0 := by
  have h0 : u * p + v * q + w * r = 0 := by subst eu ev ew; grind
  have h1 : u * i + v * j + w * k = 0 := by subst eu ev ew; grind
  have hnz : u + v + w ≠ 0 → ¬ mt_tri u v w := by
    intro hs ht
    have hz : u = 0 ∧ v = 0 ∧ w = 0 := by
      rcases h with h | h | h
      · exact mt_same h0 ht (Or.inl h)
      · exact mt_same h0 ht (Or.inr h)
      · exact mt_same h1 ht (Or.inr h)
    omega
  constructor
  · rintro (⟨_, _, a, b⟩ | ⟨hs, ht, _⟩)
    · rcases h with h | h | h
      · exact mt_rz_same (Or.inl h) b
      · exact mt_rz_same (Or.inr h) b
      · exact mt_rz_same (Or.inr h) a
    · exact hnz hs ht
  · have e : mt_kb u v w i p k r = mt_sh (mt_cs v i p k r) p r := by
      unfold mt_kb
      rw [if_neg]
      rintro ⟨hs, ht, _⟩
      exact hnz hs ht
    rw [e]
    unfold mt_sh
    by_cases hp : 0 ≤ p <;> by_cases hr : 0 ≤ r
    · rw [if_pos ⟨fun _ => hr, fun _ => hp⟩]
    · rw [if_neg (fun h => hr (h.mp hp)), if_neg hr]
      rcases h with h | h | ⟨a1, a2, a3⟩
      · omega
      · omega
      · have c1 := Int.mul_nonpos_of_nonpos_of_nonneg (Int.le_of_lt a3) hp
        have c2 := Int.mul_pos_of_neg_of_neg a1 (show r < 0 by omega)
        have hcs : mt_cs v i p k r = -1 := by unfold mt_cs; rw [if_pos (show v ≠ 0 by omega), mt_sg_n (by omega)]
        rw [hcs, if_neg (by omega)]
    · rw [if_neg (fun h => hp (h.mpr hr)), if_pos hr]
      rcases h with h | h | ⟨a1, a2, a3⟩
      · omega
      · omega
      · have c1 := Int.mul_pos_of_neg_of_neg a3 (show p < 0 by omega)
        have c2 := Int.mul_nonpos_of_nonpos_of_nonneg (Int.le_of_lt a1) hr
        have hcs : mt_cs v i p k r = 1 := by unfold mt_cs; rw [if_pos (show v ≠ 0 by omega), mt_sg_p (by omega)]
        rw [hcs, if_neg (by omega)]
    · rw [if_pos ⟨fun h => absurd h hp, fun h => absurd h hr⟩]
end
section
-- the reference's side and line, over Int
def mt_sd (i p j q k r dn : Int) : Int := if p - 2 * q + r = 0 then mt_sg ((i - 2 * j + k) * p * p - 2 * (j - i) * (2 * (q - p)) * p + i * (2 * (q - p)) * (2 * (q - p))) else mt_so (2 * (p - 2 * q + r) * ((p - 2 * q + r) * i - (i - 2 * j + k) * p) - ((p - 2 * q + r) * (2 * (j - i)) - (i - 2 * j + k) * (2 * (q - p))) * (2 * (q - p))) (dn * ((p - 2 * q + r) * (2 * (j - i)) - (i - 2 * j + k) * (2 * (q - p)))) (2 * (q - p) * (2 * (q - p)) - 4 * (p - 2 * q + r) * p)
theorem mt_sd_S (i p j q k r dn : Int) : mt_sd i p j q k r dn = mt_S (j * r - k * q) (k * p - i * r) (i * q - j * p) p q r dn := by
  unfold mt_sd mt_S
  by_cases h : p - 2 * q + r = 0
  · rw [if_pos h, if_pos h]
    congr 1
    have e : (i - 2 * j + k) * p * p - 2 * (j - i) * (2 * (q - p)) * p + i * (2 * (q - p)) * (2 * (q - p)) = p * (k * p - i * r) + 2 * r * (i * q - j * p) + (i * p - 2 * i * q + 2 * p * j) * (p - 2 * q + r) := by grind
    rw [e, h, Int.mul_zero, Int.add_zero]
  · rw [if_neg h, if_neg h]
    congr 1 <;> grind
theorem mt_line (i p k r : Int) : (i * r - k * p = 0 ∧ i * k + p * r ≤ 0) ↔ mt_touch i p i p k r := by
  unfold mt_touch mt_tch
  have rzi : ∀ a b : Int, mt_rz a a b ↔ a * b ≤ 0 := by
    intro a b
    unfold mt_rz
    rcases mt_sg_c a with ⟨h1, e1⟩ | ⟨h1, e1⟩ | ⟨h1, e1⟩ <;> rcases mt_sg_c b with ⟨h2, e2⟩ | ⟨h2, e2⟩ | ⟨h2, e2⟩ <;> rw [e1, e2]
    · have := Int.mul_pos_of_neg_of_neg h1 h2; omega
    · subst h2; simp
    · have := Int.mul_neg_of_neg_of_pos h1 h2; omega
    · subst h1; simp
    · subst h1; simp
    · subst h1; simp
    · have := Int.mul_neg_of_pos_of_neg h1 h2; omega
    · subst h2; simp
    · have := Int.mul_pos h1 h2; omega
  have hs : i * r - k * p + (k * p - i * r) + (i * p - i * p) = 0 := by omega
  rw [rzi, rzi]
  constructor
  · rintro ⟨h1, h2⟩
    refine Or.inl ⟨hs, ⟨h1, by omega, by omega⟩, ?_⟩
    have e : (i * k) * (p * r) = (i * r) * (i * r) := by
      have : k * p = i * r := by omega
      have : (i * r) * (k * p) = (i * r) * (i * r) := by rw [this]
      grind
    have h3 := mt_sq (i * r)
    constructor
    · rcases Int.lt_or_le 0 (i * k) with h | h
      · have := Int.mul_neg_of_pos_of_neg h (show p * r < 0 by omega); omega
      · exact h
    · rcases Int.lt_or_le 0 (p * r) with h | h
      · have := Int.mul_neg_of_neg_of_pos (show i * k < 0 by omega) h; omega
      · exact h
  · rintro (⟨_, ⟨h1, _, _⟩, h2, h3⟩ | ⟨h, _⟩)
    · exact ⟨h1, by omega⟩
    · exact absurd hs h
/-- a line off the place: its crossing as the reference has it -/
theorem mt_line_turn {i p k r : Int} (ht : ¬ mt_touch i p i p k r) : mt_kb (i * r - k * p) (k * p - i * r) 0 i p k r = (if (0 ≤ p ↔ 0 ≤ r) then 0 else if 0 < mt_sg (i * r - k * p) * mt_sg (r - p) then (if 0 ≤ r then 1 else -1) else 0) ∧ (¬ (0 ≤ p ↔ 0 ≤ r) → mt_sg (i * r - k * p) * mt_sg (r - p) ≠ 0) := by
  have e : mt_kb (i * r - k * p) (k * p - i * r) 0 i p k r = mt_sh (mt_cs (k * p - i * r) i p k r) p r := by
    unfold mt_kb
    rw [if_neg]
    rintro ⟨h, _⟩
    omega
  rw [e]
  unfold mt_sh
  by_cases hpr : (0 ≤ p ↔ 0 ≤ r)
  · rw [if_pos hpr, if_pos hpr]
    exact ⟨rfl, fun h => absurd hpr h⟩
  · rw [if_neg hpr, if_neg hpr]
    have hv : k * p - i * r ≠ 0 := by
      intro hv
      apply ht
      unfold mt_touch mt_tch
      refine Or.inl ⟨by omega, ⟨by omega, hv, by omega⟩, ?_⟩
      by_cases hp : 0 ≤ p
      · exact mt_Z1 i p hp (by omega) (by omega) hv
      · obtain ⟨c1, c2⟩ := mt_Z1 (i := -i) (k := -k) (p := -p) (r := -r) (-i) (-p) (by omega) (by omega) (by omega) (by rw [Int.neg_mul_neg, Int.neg_mul_neg]; exact hv)
        exact ⟨mt_rz_neg c1, mt_rz_neg c2⟩
    unfold mt_cs
    rw [if_pos hv]
    have hc : i * r - k * p = -(k * p - i * r) := by omega
    rw [hc, mt_sg_neg]
    by_cases hr : 0 ≤ r
    · have hp : p < 0 := by omega
      rw [if_pos hr, mt_sg_p (show 0 < r - p by omega), if_pos hr]
      rcases mt_sg_c (k * p - i * r) with ⟨a, b⟩ | ⟨a, b⟩ | ⟨a, b⟩
      · rw [b]; exact ⟨by decide, fun _ => by decide⟩
      · exact absurd a hv
      · rw [b]; exact ⟨by decide, fun _ => by decide⟩
    · have hp : 0 ≤ p := by omega
      rw [if_neg hr, mt_sg_n (show r - p < 0 by omega), if_neg hr]
      rcases mt_sg_c (k * p - i * r) with ⟨a, b⟩ | ⟨a, b⟩ | ⟨a, b⟩
      · rw [b]; exact ⟨by decide, fun _ => by decide⟩
      · exact absurd a hv
      · rw [b]; exact ⟨by decide, fun _ => by decide⟩
end
section
-- from Int64 and Int32 to Int
theorem mt_bd {a b A B : Int} (ha : -A ≤ a ∧ a ≤ A) (hb : -B ≤ b ∧ b ≤ B) : -(A * B) ≤ a * b ∧ a * b ≤ A * B := by
  have h1 := Int.mul_nonneg (show 0 ≤ A - a by omega) (show 0 ≤ B + b by omega)
  have h2 := Int.mul_nonneg (show 0 ≤ A + a by omega) (show 0 ≤ B - b by omega)
  have h3 := Int.mul_nonneg (show 0 ≤ A - a by omega) (show 0 ≤ B - b by omega)
  have h4 := Int.mul_nonneg (show 0 ≤ A + a by omega) (show 0 ≤ B + b by omega)
  have e1 : (A - a) * (B + b) + (A + a) * (B - b) = 2 * (A * B) - 2 * (a * b) := by grind
  have e2 : (A - a) * (B - b) + (A + a) * (B + b) = 2 * (A * B) + 2 * (a * b) := by grind
  omega
theorem iL_t {z : Int} (h : -9223372036854775808 ≤ z ∧ z < 9223372036854775808) : (Int64.ofInt z).toInt = z := Int64.toInt_ofInt_of_le (by omega) (by omega)
theorem iI_t {z : Int} (h : -2147483648 ≤ z ∧ z < 2147483648) : (Int32.ofInt z).toInt = z := Int32.toInt_ofInt_of_le (by omega) (by omega)
theorem iI_l {z : Int} (h : -2147483648 ≤ z ∧ z < 2147483648) : Int32.toInt64 (Int32.ofInt z) = Int64.ofInt z := by
  have h1 : Int32.minValue.toInt = -2147483648 := by decide
  have h2 : Int32.maxValue.toInt = 2147483647 := by decide
  exact Int32.toInt64_ofInt (by omega) (by omega)
theorem lc_c (a b : Int64) : (a.toInt < b.toInt ∧ lg_cmp a b = -1) ∨ (a.toInt = b.toInt ∧ lg_cmp a b = 0) ∨ (b.toInt < a.toInt ∧ lg_cmp a b = 1) := by
  unfold lg_cmp
  rcases Int.lt_trichotomy a.toInt b.toInt with h | h | h
  · refine Or.inl ⟨h, ?_⟩
    rw [if_neg (fun e => by have := Int64.lt_iff_toInt_lt.mp e; omega), if_neg (fun e => by rw [e] at h; omega)]
  · have e := Int64.toInt_inj.mp h
    subst e
    refine Or.inr (Or.inl ⟨rfl, ?_⟩)
    rw [if_neg (fun e => by have := Int64.lt_iff_toInt_lt.mp e; omega), if_pos rfl]
  · refine Or.inr (Or.inr ⟨h, ?_⟩)
    rw [if_pos (Int64.lt_iff_toInt_lt.mpr h)]
theorem lc_lt (a b : Int64) : lg_cmp a b < 0 ↔ a.toInt < b.toInt := by
  rcases lc_c a b with ⟨h, e⟩ | ⟨h, e⟩ | ⟨h, e⟩ <;> rw [e]
  · exact ⟨fun _ => h, fun _ => by decide⟩
  · exact ⟨fun k => absurd k (by decide), fun k => by omega⟩
  · exact ⟨fun k => absurd k (by decide), fun k => by omega⟩
theorem lc_eq (a b : Int64) : lg_cmp a b = 0 ↔ a.toInt = b.toInt := by
  rcases lc_c a b with ⟨h, e⟩ | ⟨h, e⟩ | ⟨h, e⟩ <;> rw [e]
  · exact ⟨fun k => absurd k (by decide), fun k => by omega⟩
  · exact ⟨fun _ => h, fun _ => by decide⟩
  · exact ⟨fun k => absurd k (by decide), fun k => by omega⟩
theorem lc_ge (a b : Int64) : 0 ≤ lg_cmp a b ↔ b.toInt ≤ a.toInt := by
  rcases lc_c a b with ⟨h, e⟩ | ⟨h, e⟩ | ⟨h, e⟩ <;> rw [e]
  · exact ⟨fun k => absurd k (by decide), fun k => by omega⟩
  · exact ⟨fun _ => by omega, fun _ => by decide⟩
  · exact ⟨fun _ => by omega, fun _ => by decide⟩
theorem lc_le (a b : Int64) : lg_cmp a b ≤ 0 ↔ a.toInt ≤ b.toInt := by
  rcases lc_c a b with ⟨h, e⟩ | ⟨h, e⟩ | ⟨h, e⟩ <;> rw [e]
  · exact ⟨fun _ => by omega, fun _ => by decide⟩
  · exact ⟨fun _ => by omega, fun _ => by decide⟩
  · exact ⟨fun k => absurd k (by decide), fun k => by omega⟩
theorem lc_gt (a b : Int64) : 0 < lg_cmp a b ↔ b.toInt < a.toInt := by
  rcases lc_c a b with ⟨h, e⟩ | ⟨h, e⟩ | ⟨h, e⟩ <;> rw [e]
  · exact ⟨fun k => absurd k (by decide), fun k => by omega⟩
  · exact ⟨fun k => absurd k (by decide), fun k => by omega⟩
  · exact ⟨fun _ => h, fun _ => by decide⟩
end
section
/-! ===== lN: masks, 'or' of parts that don't overlap is a sum ===== -/
theorem u_tn {n : Nat} (h : n < 2 ^ 64) : (UInt64.ofNat n).toNat = n := Nat.mod_eq_of_lt h
theorem g_and {a b c : Nat} (ha : a < 2 ^ 64) (hb : b < 2 ^ 64) (hc : a &&& b = c) : lN a &&& lN b = lN c := by
  subst hc
  have h : UInt64.ofNat a &&& UInt64.ofNat b = UInt64.ofNat (a &&& b) := UInt64.toNat_inj.mp (by rw [UInt64.toNat_and, u_tn ha, u_tn hb, u_tn (Nat.and_lt_two_pow a hb)])
  have h2 := congrArg UInt64.toInt64 h
  exact h2
theorem g_and1 {a : Nat} (ha : a < 2 ^ 64) : lN a &&& 1 = lN (a % 2) := g_and (b := 1) ha (by decide) (Nat.and_two_pow_sub_one_eq_mod a 1)
theorem g_mask {a s p : Nat} (hp : 2 ^ s = p) (hs : s < 64) (ha : a < 2 ^ 64) : lN a &&& lN (p - 1) = lN (a % p) := by
  subst hp
  have := Nat.pow_lt_pow_right (show 1 < 2 by decide) hs
  exact g_and ha (by omega) (Nat.and_two_pow_sub_one_eq_mod a s)
theorem g_or {k p a b : Nat} (hp : 2 ^ k = p) (ha : a < p) (h : b * p + a < 2 ^ 64) : lN (b * p) ||| lN a = lN (b * p + a) := by
  subst hp
  have h1 : b * 2 ^ k ||| a = b * 2 ^ k + a := by rw [← Nat.shiftLeft_eq, Nat.shiftLeft_add_eq_or_of_lt ha]
  have h3 : UInt64.ofNat (b * 2 ^ k) ||| UInt64.ofNat a = UInt64.ofNat (b * 2 ^ k + a) := UInt64.toNat_inj.mp (by rw [UInt64.toNat_or, u_tn (by omega), u_tn (by omega), u_tn h, h1])
  have h2 := congrArg UInt64.toInt64 h3
  exact h2
theorem g_or' {k p a b : Nat} (hp : 2 ^ k = p) (ha : a < p) (h : a + b * p < 2 ^ 64) : lN a ||| lN (b * p) = lN (a + b * p) := by
  rw [Int64.or_comm, g_or hp ha (by omega), Nat.add_comm]
theorem g_ushr {a k p : Nat} {y : UInt64} (hy : y = UInt64.ofNat k) (hk : k < 64) (hp : 2 ^ k = p) (ha : a < 2 ^ 64) : ((lN a).toUInt64 >>> y).toInt64 = lN (a / p) := by
  subst hy hp
  have h : UInt64.ofNat a >>> UInt64.ofNat k = UInt64.ofNat (a / 2 ^ k) := UInt64.toNat_inj.mp (by rw [UInt64.toNat_shiftRight, u_tn ha, u_tn (by omega), u_tn (Nat.lt_of_le_of_lt (Nat.div_le_self _ _) ha), Nat.mod_eq_of_lt hk, Nat.shiftRight_eq_div_pow])
  have h2 := congrArg UInt64.toInt64 h
  exact h2
theorem g_shl {a k p : Nat} {y : Int64} (hy : y.toBitVec.smod 64 = BitVec.ofNat 64 k) (hk : k < 64) (hp : 2 ^ k = p) (ha : a < 2 ^ 64) : lN a <<< y = lN (a * p) := by
  subst hp
  apply Int64.toBitVec_inj.mp
  rw [Int64.toBitVec_shiftLeft, hy]
  apply BitVec.eq_of_toNat_eq
  have hb : (lN a).toBitVec.toNat = a := Nat.mod_eq_of_lt ha
  have hk' : (BitVec.ofNat 64 k).toNat = k := Nat.mod_eq_of_lt (by omega)
  have h : ((lN a).toBitVec <<< BitVec.ofNat 64 k).toNat = (a * 2 ^ k) % 2 ^ 64 := by simp only [BitVec.shiftLeft_eq', BitVec.toNat_shiftLeft, hb, hk', Nat.shiftLeft_eq]
  exact h
/-! ===== lN to 2^62 under >> and >>> ===== -/
theorem pf_lI {a : Nat} (h : a < 2 ^ 63) : (lN a).toInt = (a : Int) := lg_ofNat_toInt h
theorem pf_shr {a d : Nat} {D : Int64} (hD : (D.toBitVec.smod 64).toNat = d) (h : a < 2 ^ 62) : lN a >>> D = lN (a / 2 ^ d) := by
  have hd : a / 2 ^ d ≤ a := Nat.div_le_self _ _
  apply Int64.toInt_inj.mp
  have e : (lN a >>> D).toInt = (lN a).toInt >>> d := by
    rw [← hD]
    exact BitVec.toInt_sshiftRight ..
  rw [e, Int.shiftRight_eq_div_pow, pf_lI (by omega), pf_lI (by omega)]
  rfl
theorem pf_ushr {a d : Nat} {D : UInt64} (hD : D.toNat % 64 = d) (h : a < 2 ^ 62) : ((lN a).toUInt64 >>> D).toInt64 = lN (a / 2 ^ d) := by
  have hd : a / 2 ^ d ≤ a := Nat.div_le_self _ _
  have e : (lN a).toUInt64 >>> D = UInt64.ofNat (a / 2 ^ d) := UInt64.toNat_inj.mp (by
    rw [UInt64.toNat_shiftRight, hD, Nat.shiftRight_eq_div_pow, UInt64.toNat_ofNat']
    show (UInt64.ofNat a).toNat / 2 ^ d = _
    rw [UInt64.toNat_ofNat', Nat.mod_eq_of_lt (by omega), Nat.mod_eq_of_lt (by omega)])
  rw [e]
  rfl
theorem pf_andw (x : Int64) : ∃ m, m < 2 ^ 32 ∧ x &&& 4294967295 = lN m := ⟨x.toBitVec.toNat % 2 ^ 32, Nat.mod_lt _ (by decide), Int64.toBitVec_inj.mp (BitVec.eq_of_toNat_eq (by
  show (x.toBitVec &&& 4294967295#64).toNat = (BitVec.ofNat 64 (x.toBitVec.toNat % 2 ^ 32)).toNat
  rw [BitVec.toNat_and, show (4294967295#64).toNat = 2 ^ 32 - 1 from by decide, Nat.and_two_pow_sub_one_eq_mod, BitVec.toNat_ofNat]
  omega))⟩
/-! ===== Int64 as an unsigned number: uN x ===== -/
def uN (x : Int64) : Nat := x.toUInt64.toNat
theorem uN_lt (x : Int64) : uN x < 18446744073709551616 := x.toUInt64.toNat_lt
theorem uN_inj {x y : Int64} (h : uN x = uN y) : x = y := congrArg UInt64.toInt64 (UInt64.toNat_inj.mp h)
theorem uN_add (x y : Int64) : uN (x + y) = (uN x + uN y) % 18446744073709551616 := by
  show (x.toUInt64 + y.toUInt64).toNat = _
  exact UInt64.toNat_add _ _
theorem uN_mul (x y : Int64) : uN (x * y) = (uN x * uN y) % 18446744073709551616 := by
  show (x.toUInt64 * y.toUInt64).toNat = _
  exact UInt64.toNat_mul _ _
theorem uN_shl (x : Int64) : uN (x <<< ((1 : Int32).toInt64 &&& 63)) = (2 * uN x) % 18446744073709551616 := by
  have h : (((1 : Int32).toInt64 &&& 63).toBitVec.smod 64).toNat = 1 := by decide
  show (x.toBitVec <<< (((1 : Int32).toInt64 &&& 63).toBitVec.smod 64).toNat).toNat = _
  rw [h, BitVec.toNat_shiftLeft, Nat.shiftLeft_eq, Nat.mul_comm]
  rfl
theorem uN_shr (x : Int64) (s : UInt64) : uN (x.toUInt64 >>> s).toInt64 = uN x / 2 ^ (s.toNat % 64) := by
  show (x.toUInt64 >>> s).toNat = _
  rw [UInt64.toNat_shiftRight, Nat.shiftRight_eq_div_pow]
  rfl
theorem uN_s32 (x : Int64) : uN (x.toUInt64 >>> ((32 : Int32).toInt64.toUInt64 &&& Int64.toUInt64 63)).toInt64 = uN x / 4294967296 := by
  have h : ((32 : Int32).toInt64.toUInt64 &&& Int64.toUInt64 63).toNat % 64 = 32 := by decide
  rw [uN_shr, h]
theorem uN_s63 (x : Int64) : uN (x.toUInt64 >>> ((63 : Int32).toInt64.toUInt64 &&& Int64.toUInt64 63)).toInt64 = uN x / 9223372036854775808 := by
  have h : ((63 : Int32).toInt64.toUInt64 &&& Int64.toUInt64 63).toNat % 64 = 63 := by decide
  rw [uN_shr, h]
theorem uN_lo (x : Int64) : uN (x &&& 4294967295) = uN x % 4294967296 := by
  show (x.toUInt64 &&& Int64.toUInt64 4294967295).toNat = _
  rw [UInt64.toNat_and]
  exact Nat.and_two_pow_sub_one_eq_mod _ 32
theorem uN_bit (x : Int64) : (x &&& 1) = 0 ↔ uN x % 2 = 0 := by
  have h : uN (x &&& 1) = uN x % 2 := by
    show (x.toUInt64 &&& Int64.toUInt64 1).toNat = _
    rw [UInt64.toNat_and]
    exact Nat.and_two_pow_sub_one_eq_mod _ 1
  rw [← h]
  exact ⟨fun z => by rw [z]; rfl, fun z => uN_inj (z.trans rfl)⟩
theorem uN_or {x y : Int64} (hy : uN y < 2) : uN ((x <<< ((1 : Int32).toInt64 &&& 63)) ||| y) = (2 * uN x) % 18446744073709551616 + uN y := by
  have h1 : uN ((x <<< ((1 : Int32).toInt64 &&& 63)) ||| y) = uN (x <<< ((1 : Int32).toInt64 &&& 63)) ||| uN y := UInt64.toNat_or _ _
  have h2 : (2 * uN x) % 18446744073709551616 = 2 ^ 1 * (uN x % 9223372036854775808) := by omega
  rw [h1, uN_shl, h2]
  exact (Nat.two_pow_add_eq_or_of_lt (i := 1) hy _).symm
theorem nat_xor {a : Nat} (h : a < 18446744073709551616) : a ^^^ 2 ^ 63 = (a + 9223372036854775808) % 18446744073709551616 := by
  have h1 : (a ^^^ 2 ^ 63) % 2 ^ 63 = a % 2 ^ 63 := by rw [Nat.xor_mod_two_pow, Nat.mod_self, Nat.xor_zero]
  have h2 : (a ^^^ 2 ^ 63) / 2 ^ 63 = (a / 2 ^ 63) ^^^ 1 := by rw [Nat.xor_div_two_pow, Nat.div_self (Nat.two_pow_pos 63)]
  have h3 : a / 2 ^ 63 = 0 ∨ a / 2 ^ 63 = 1 := by omega
  generalize a ^^^ 2 ^ 63 = t at h1 h2
  rcases h3 with h3 | h3
  · rw [h3] at h2
    have h2 : t / 2 ^ 63 = 1 := h2
    omega
  · rw [h3] at h2
    have h2 : t / 2 ^ 63 = 0 := h2
    omega
theorem uN_xor (x : Int64) : uN (x ^^^ (-9223372036854775808)) = (uN x + 9223372036854775808) % 18446744073709551616 := by
  rw [← nat_xor (uN_lt x)]
  exact UInt64.toNat_xor _ _
theorem uN_int (x : Int64) : x.toInt = if 2 * uN x < 18446744073709551616 then (uN x : Int) else (uN x : Int) - 18446744073709551616 := BitVec.toInt_eq_toNat_cond _
theorem uN_le (x y : Int64) : (x ^^^ (-9223372036854775808)) ≤ (y ^^^ (-9223372036854775808)) ↔ uN x ≤ uN y := by
  have hx := uN_lt x
  have hy := uN_lt y
  rw [Int64.le_iff_toInt_le, uN_int, uN_int, uN_xor, uN_xor]
  omega
theorem uN_sk (x : Int64) {k : Nat} (hk : k < 64) : uN (x.toUInt64 >>> ((nI k).toInt64.toUInt64 &&& Int64.toUInt64 63)).toInt64 = uN x / 2 ^ k := by
  have h : ((nI k).toInt64.toUInt64 &&& Int64.toUInt64 63).toNat % 64 = k := by
    rw [nI_l (by omega), UInt64.toNat_and]
    have e : (lN k).toUInt64.toNat = k % 2 ^ 64 := rfl
    have e2 : (Int64.toUInt64 63).toNat = 2 ^ 6 - 1 := by decide
    rw [e, e2, Nat.and_two_pow_sub_one_eq_mod]
    omega
  rw [uN_shr, h]
end
section
-- the reference's long multiplication: six limbs of 32 bits
def lb_s (g : Nat → Int64) : Nat → Nat
  | 0 => 0
  | k + 1 => lb_s g k + uN (g k) * 4294967296 ^ k
theorem lb_s_congr {g h : Nat → Int64} : ∀ k : Nat, (∀ j, j < k → g j = h j) → lb_s g k = lb_s h k
  | 0, _ => rfl
  | k + 1, e => by rw [lb_s, lb_s, lb_s_congr k (fun j hj => e j (by omega)), e k (by omega)]
abbrev lb_sum (g0 v bf cy : Int64) : Int64 := (((g0 * (v &&& 4294967295)) &&& 4294967295) + ((bf * (jv_lushr v 32)) &&& 4294967295)) + (cy &&& 4294967295)
abbrev lb_next (g0 v bf cy : Int64) : Int64 := (((jv_lushr (g0 * (v &&& 4294967295)) 32) + (jv_lushr (bf * (jv_lushr v 32)) 32)) + (jv_lushr cy 32)) + (jv_lushr (lb_sum g0 v bf cy) 32)
theorem lb_step {g0 v bf cy : Int64} (h0 : uN g0 < 4294967296) (hb : uN bf < 4294967296) :
    uN (lb_sum g0 v bf cy &&& 4294967295) < 4294967296 ∧ uN (lb_sum g0 v bf cy &&& 4294967295) + uN (lb_next g0 v bf cy) * 4294967296 = uN g0 * (uN v % 4294967296) + uN bf * (uN v / 4294967296) + uN cy := by
  have hv := uN_lt v
  have hc := uN_lt cy
  have b1 : uN g0 * (uN v % 4294967296) ≤ 4294967295 * 4294967295 := Nat.mul_le_mul (by omega) (by omega)
  have b2 : uN bf * (uN v / 4294967296) ≤ 4294967295 * 4294967295 := Nat.mul_le_mul (by omega) (by omega)
  have e1 : uN (g0 * (v &&& 4294967295)) = uN g0 * (uN v % 4294967296) := by
    rw [uN_mul, uN_lo, Nat.mod_eq_of_lt (by omega)]
  have e2 : uN (bf * (jv_lushr v 32)) = uN bf * (uN v / 4294967296) := by
    rw [uN_mul, uN_s32, Nat.mod_eq_of_lt (by omega)]
  have es : uN (lb_sum g0 v bf cy) = uN g0 * (uN v % 4294967296) % 4294967296 + uN bf * (uN v / 4294967296) % 4294967296 + uN cy % 4294967296 := by
    rw [uN_add, uN_add, uN_lo, uN_lo, uN_lo, e1, e2]
    omega
  have en : uN (lb_next g0 v bf cy) = uN g0 * (uN v % 4294967296) / 4294967296 + uN bf * (uN v / 4294967296) / 4294967296 + uN cy / 4294967296 + uN (lb_sum g0 v bf cy) / 4294967296 := by
    rw [uN_add, uN_add, uN_add, uN_s32, uN_s32, uN_s32, uN_s32, e1, e2]
    rw [es]
    omega
  rw [uN_lo, en, es]
  generalize uN g0 * (uN v % 4294967296) = x at *
  generalize uN bf * (uN v / 4294967296) = y at *
  omega
theorem lb_loop (v : Int64) (G : Nat → Int64) (hG : ∀ j, j < 6 → uN (G j) < 4294967296) : ∀ (d k n : Nat) (g : Nat → Int64) (cy bf : Int64), k + d = 6 → d < n → (∀ j, k ≤ j → g j = G j) → (∀ j, j < k → uN (g j) < 4294967296) → uN bf < 4294967296 →
    lb_s g k + (uN cy + uN bf * (uN v / 4294967296)) * 4294967296 ^ k = uN v * lb_s G k →
    ∃ t : Nat, (∀ j, j < 6 → uN (km_times_L21 v n (nI k) g cy bf j) < 4294967296) ∧ lb_s (km_times_L21 v n (nI k) g cy bf) 6 + t * 4294967296 ^ 6 = uN v * lb_s G 6 := by
  intro d
  induction d with
  | zero =>
    intro k n g cy bf hk hn h1 h2 h3 h4
    have hk : k = 6 := by omega
    subst hk
    obtain ⟨n, rfl⟩ : ∃ n', n = n' + 1 := ⟨n - 1, by omega⟩
    have e : km_times_L21 v (n + 1) (nI 6) g cy bf = g := by
      rw [km_times_L21, if_pos (by decide)]
    rw [e]
    exact ⟨_, h2, h4⟩
  | succ d ih =>
    intro k n g cy bf hk hn h1 h2 h3 h4
    obtain ⟨n, rfl⟩ : ∃ n', n = n' + 1 := ⟨n - 1, by omega⟩
    have hgk : g k = G k := h1 k (by omega)
    have hst := lb_step (g0 := g k) (v := v) (bf := bf) (cy := cy) (by rw [hgk]; exact hG k (by omega)) h3
    have e : km_times_L21 v (n + 1) (nI k) g cy bf = km_times_L21 v n (nI (k + 1)) (vp_updL g k (lb_sum (g k) v bf cy &&& 4294967295)) (lb_next (g k) v bf cy) (g k) := by
      rw [km_times_L21, if_neg (show ¬ (6 : Int32) ≤ nI k from nI_ge (a := k) (b := 6) (by omega) (by decide)), nI_clamp (by omega), nI_1]
    rw [e]
    refine ih (k + 1) n _ _ _ (by omega) (by omega) (fun j hj => by rw [pk_uLn (by omega)]; exact h1 j (by omega)) (fun j hj => ?_) (by rw [hgk]; exact hG k (by omega)) ?_
    · by_cases c : j = k
      · subst c; rw [pk_uLs]; exact hst.1
      · rw [pk_uLn c]; exact h2 j (by omega)
    · rw [lb_s, lb_s, pk_uLs, lb_s_congr (h := g) k (fun j hj => pk_uLn (by omega)), ← hgk]
      have e2 := hst.2
      have e3 : uN v = uN v % 4294967296 + uN v / 4294967296 * 4294967296 := by omega
      rw [Nat.mul_add, ← h4]
      generalize uN v % 4294967296 = lo at *
      generalize uN v / 4294967296 = hi at *
      rw [e3]
      generalize uN (g k) = x at *
      generalize uN (lb_sum (g k) v bf cy &&& 4294967295) = a at *
      generalize uN (lb_next (g k) v bf cy) = b at *
      generalize uN bf = y at *
      generalize uN cy = z at *
      rw [Nat.pow_succ]
      generalize 4294967296 ^ k = P at *
      have e4 : (a + b * 4294967296) * P = (x * lo + y * hi + z) * P := by rw [e2]
      have e5 : a * P + (b + x * hi) * (P * 4294967296) = (a + b * 4294967296) * P + x * hi * 4294967296 * P := by grind
      have e6 : (lo + hi * 4294967296) * (x * P) = x * lo * P + x * hi * 4294967296 * P := by grind
      have e7 : (x * lo + y * hi + z) * P = x * lo * P + (z + y * hi) * P := by grind
      omega
theorem lb_times {f : Nat → Int64} {v : Int64} (hf : ∀ j, j < 6 → uN (f j) < 4294967296) (hb : uN v * lb_s f 6 < 4294967296 ^ 6) : (∀ j, j < 6 → uN (km_times f v j) < 4294967296) ∧ lb_s (km_times f v) 6 = uN v * lb_s f 6 := by
  have u0 : uN 0 = 0 := by decide
  have h00 : lb_s f 0 + (uN 0 + uN 0 * (uN v / 4294967296)) * 4294967296 ^ 0 = uN v * lb_s f 0 := by simp [lb_s, u0]
  obtain ⟨t, h1, h2⟩ := lb_loop v f hf 6 0 7 f 0 0 (by decide) (by decide) (fun j _ => rfl) (fun j hj => absurd hj (Nat.not_lt_zero _)) (by decide) h00
  have h0 : nI 0 = 0 := nI_0
  rw [h0] at h1 h2
  have ht : t = 0 := by
    rcases Nat.eq_zero_or_pos t with h | h
    · exact h
    · have : 1 * 4294967296 ^ 6 ≤ t * 4294967296 ^ 6 := Nat.mul_le_mul_right _ h
      omega
  subst ht
  exact ⟨h1, by rw [Nat.zero_mul, Nat.add_zero] at h2; exact h2⟩
theorem lb_init (a b c0 : Int64) : ∀ (d k n : Nat) (g : Nat → Int64), k + d = 6 → d < n → (∀ j, j < k → g j = if j = 0 then 1 else 0) → ∃ g' : Nat → Int64, (∀ j, j < 6 → g' j = if j = 0 then 1 else 0) ∧ km_prod_L3 a b c0 n (nI k) g = km_times (km_times (km_times g' a) b) c0 := by
  intro d
  induction d with
  | zero =>
    intro k n g hk hn h
    have hk : k = 6 := by omega
    subst hk
    obtain ⟨n, rfl⟩ : ∃ n', n = n' + 1 := ⟨n - 1, by omega⟩
    exact ⟨g, h, by rw [km_prod_L3, if_pos (by decide)]⟩
  | succ d ih =>
    intro k n g hk hn h
    obtain ⟨n, rfl⟩ : ∃ n', n = n' + 1 := ⟨n - 1, by omega⟩
    obtain ⟨g', h1, h2⟩ := ih (k + 1) n (vp_updL g k (if k = 0 then 1 else 0)) (by omega) (by omega) (fun j hj => by
      by_cases c : j = k
      · subst c; rw [pk_uLs]
      · rw [pk_uLn c]; exact h j (by omega))
    refine ⟨g', h1, ?_⟩
    rw [← h2, km_prod_L3, if_neg (show ¬ (6 : Int32) ≤ nI k from nI_ge (a := k) (b := 6) (by omega) (by decide))]
    by_cases c : k = 0
    · subst c
      rw [if_pos (by decide), if_pos rfl]
      unfold km_prod_j23
      rw [nI_clamp (by decide), nI_1]
    · rw [if_neg (nI_ne0 (by omega) (by omega)), if_neg c]
      unfold km_prod_j23
      rw [nI_clamp (by omega), nI_1]
theorem lb_prod {f : Nat → Int64} {a b c0 : Int64} (h1 : uN a < 4294967296 ^ 6) (h2 : uN b * uN a < 4294967296 ^ 6) (h3 : uN c0 * (uN b * uN a) < 4294967296 ^ 6) : (∀ j, j < 6 → uN (km_prod f a b c0 j) < 4294967296) ∧ lb_s (km_prod f a b c0) 6 = uN c0 * (uN b * uN a) := by
  obtain ⟨g', e1, e2⟩ := lb_init a b c0 6 0 7 f (by decide) (by decide) (fun j hj => absurd hj (Nat.not_lt_zero _))
  have e : km_prod f a b c0 = km_times (km_times (km_times g' a) b) c0 := by rw [← e2]; rfl
  have u1 : uN 1 = 1 := by decide
  have u0 : uN 0 = 0 := by decide
  have s0 : lb_s g' 6 = 1 := by
    simp only [lb_s]
    rw [e1 0 (by decide), e1 1 (by decide), e1 2 (by decide), e1 3 (by decide), e1 4 (by decide), e1 5 (by decide)]
    simp [u1, u0]
  have l0 : ∀ j, j < 6 → uN (g' j) < 4294967296 := fun j hj => by
    rw [e1 j hj]
    split
    · rw [u1]; decide
    · rw [u0]; decide
  obtain ⟨a1, a2⟩ := lb_times (f := g') (v := a) l0 (by rw [s0]; omega)
  rw [s0, Nat.mul_one] at a2
  obtain ⟨b1, b2⟩ := lb_times (f := km_times g' a) (v := b) a1 (by rw [a2]; exact h2)
  rw [a2] at b2
  obtain ⟨c1, c2⟩ := lb_times (f := km_times (km_times g' a) b) (v := c0) b1 (by rw [b2]; exact h3)
  rw [b2] at c2
  rw [e]
  exact ⟨c1, c2⟩
theorem uN_ti {x : Int64} (h : uN x < 4294967296) : x.toInt = (uN x : Int) := by
  rw [uN_int, if_pos (by omega)]
theorem lb_lt {g : Nat → Int64} : ∀ k : Nat, (∀ j, j < k → uN (g j) < 4294967296) → lb_s g k < 4294967296 ^ k
  | 0, _ => by show 0 < 1; decide
  | k + 1, h => by
    have h1 := lb_lt k (fun j hj => h j (by omega))
    have h2 : (uN (g k) + 1) * 4294967296 ^ k ≤ 4294967296 * 4294967296 ^ k := Nat.mul_le_mul_right _ (h k (by omega))
    rw [lb_s, Nat.pow_succ, Nat.mul_comm (4294967296 ^ k)]
    rw [Nat.add_mul] at h2
    omega
/-- comparing limbs from the highest compares the numbers -/
theorem lb_lex {X Y : Nat → Int64} {k : Nat} (hX : ∀ j, j < k + 1 → uN (X j) < 4294967296) (hY : ∀ j, j < k + 1 → uN (Y j) < 4294967296) :
    (uN (X k) < uN (Y k) → lb_s X (k + 1) < lb_s Y (k + 1)) ∧ (uN (X k) = uN (Y k) → (lb_s X (k + 1) < lb_s Y (k + 1) ↔ lb_s X k < lb_s Y k) ∧ (lb_s X (k + 1) = lb_s Y (k + 1) ↔ lb_s X k = lb_s Y k)) := by
  have h1 := lb_lt k (fun j hj => hX j (by omega))
  have h2 := lb_lt k (fun j hj => hY j (by omega))
  rw [lb_s, lb_s]
  constructor
  · intro h
    have h3 : (uN (X k) + 1) * 4294967296 ^ k ≤ uN (Y k) * 4294967296 ^ k := Nat.mul_le_mul_right _ h
    rw [Nat.add_mul] at h3
    omega
  · intro h
    rw [h]
    constructor <;> omega
def lb_c (a b : Nat) : Int32 := if a < b then -1 else if a = b then 0 else 1
theorem lb_cmpL {fi se : Nat → Int64} {a b c0 : Int64} (hX : ∀ j, j < 6 → uN (km_prod fi a a 1 j) < 4294967296) (hY : ∀ j, j < 6 → uN (km_prod se b b c0 j) < 4294967296) :
    ∀ (k n : Nat), k < 6 → k + 1 < n → (km_cmp_L24 fi se a b c0 n (nI k)).1 = lb_c (lb_s (km_prod fi a a 1) (k + 1)) (lb_s (km_prod se b b c0) (k + 1)) := by
  intro k
  induction k with
  | zero =>
    intro n hk hn
    obtain ⟨n, rfl⟩ : ∃ n', n = n' + 2 := ⟨n - 2, by omega⟩
    have hlx := lb_lex (k := 0) (X := km_prod fi a a 1) (Y := km_prod se b b c0) (fun j hj => hX j (by omega)) (fun j hj => hY j (by omega))
    have hly := lb_lex (k := 0) (X := km_prod se b b c0) (Y := km_prod fi a a 1) (fun j hj => hY j (by omega)) (fun j hj => hX j (by omega))
    rw [km_cmp_L24, if_neg (by decide), nI_clamp (by decide)]
    have x1 := uN_ti (hX 0 (by decide))
    have y1 := uN_ti (hY 0 (by decide))
    unfold lb_c
    rcases lc_c (km_prod fi a a 1 0) (km_prod se b b c0 0) with ⟨h, e⟩ | ⟨h, e⟩ | ⟨h, e⟩
    · rw [e, if_neg (by decide), if_neg (by decide), if_pos (hlx.1 (by omega))]
    · rw [e, if_pos rfl]
      have e0 : nI 0 + (-1) = (-1) := by decide
      rw [e0, km_cmp_L24, if_pos (by decide)]
      have hq := hlx.2 (by omega)
      have z0 : lb_s (km_prod fi a a 1) 0 = lb_s (km_prod se b b c0) 0 := by rw [lb_s, lb_s]
      have n1 : ¬ lb_s (km_prod fi a a 1) (0 + 1) < lb_s (km_prod se b b c0) (0 + 1) := fun z => by
        have := hq.1.mp z
        omega
      rw [if_neg n1, if_pos (hq.2.mpr z0)]
    · rw [e, if_neg (by decide), if_pos (by decide)]
      have := hly.1 (by omega)
      rw [if_neg (by omega), if_neg (by omega)]
  | succ k ih =>
    intro n hk hn
    obtain ⟨n, rfl⟩ : ∃ n', n = n' + 1 := ⟨n - 1, by omega⟩
    have hlx := lb_lex (k := k + 1) (X := km_prod fi a a 1) (Y := km_prod se b b c0) (fun j hj => hX j (by omega)) (fun j hj => hY j (by omega))
    have hly := lb_lex (k := k + 1) (X := km_prod se b b c0) (Y := km_prod fi a a 1) (fun j hj => hY j (by omega)) (fun j hj => hX j (by omega))
    rw [km_cmp_L24, if_neg (nI_pos (by omega)), nI_clamp (by omega)]
    have x1 := uN_ti (hX (k + 1) (by omega))
    have y1 := uN_ti (hY (k + 1) (by omega))
    rcases lc_c (km_prod fi a a 1 (k + 1)) (km_prod se b b c0 (k + 1)) with ⟨h, e⟩ | ⟨h, e⟩ | ⟨h, e⟩
    · unfold lb_c
      rw [e, if_neg (by decide), if_neg (by decide), if_pos (hlx.1 (by omega))]
    · rw [e, if_pos rfl, pk_m1, ih n (by omega) (by omega)]
      have hq := hlx.2 (by omega)
      unfold lb_c
      by_cases c1 : lb_s (km_prod fi a a 1) (k + 1) < lb_s (km_prod se b b c0) (k + 1)
      · rw [if_pos c1, if_pos (hq.1.mpr c1)]
      · rw [if_neg c1, if_neg (fun z => c1 (hq.1.mp z))]
        by_cases c2 : lb_s (km_prod fi a a 1) (k + 1) = lb_s (km_prod se b b c0) (k + 1)
        · rw [if_pos c2, if_pos (hq.2.mpr c2)]
        · rw [if_neg c2, if_neg (fun z => c2 (hq.2.mp z))]
    · unfold lb_c
      rw [e, if_neg (by decide), if_pos (by decide)]
      have := hly.1 (by omega)
      rw [if_neg (by omega), if_neg (by omega)]
/-- compare(a, b, c): a a against b b c -/
theorem lb_cmp {fi se : Nat → Int64} {a b c0 : Int64} (ha : uN a < 9223372036854775808) (hb : uN b < 9223372036854775808) (hc : uN c0 < 9223372036854775808) : (km_cmp fi se a b c0).1 = lb_c (uN a * uN a) (uN c0 * (uN b * uN b)) := by
  have m1 : uN a * uN a < 9223372036854775808 * 9223372036854775808 := Nat.mul_lt_mul'' ha ha
  have m2 : uN b * uN b < 9223372036854775808 * 9223372036854775808 := Nat.mul_lt_mul'' hb hb
  have m3 : uN c0 * (uN b * uN b) < 9223372036854775808 * (9223372036854775808 * 9223372036854775808) := Nat.mul_lt_mul'' hc m2
  have u1 : uN 1 = 1 := by decide
  obtain ⟨x1, x2⟩ := lb_prod (f := fi) (a := a) (b := a) (c0 := 1) (by omega) (by omega) (by rw [u1]; omega)
  obtain ⟨y1, y2⟩ := lb_prod (f := se) (a := b) (b := b) (c0 := c0) (by omega) (by omega) (by omega)
  have h := lb_cmpL x1 y1 5 7 (by decide) (by decide)
  rw [x2, y2, u1, Nat.one_mul] at h
  exact h
theorem lb_inj {X Y : Nat → Int64} : ∀ k : Nat, (∀ j, j < k → uN (X j) < 4294967296) → (∀ j, j < k → uN (Y j) < 4294967296) → lb_s X k = lb_s Y k → ∀ j, j < k → uN (X j) = uN (Y j)
  | 0, _, _, _ => fun j hj => absurd hj (Nat.not_lt_zero _)
  | k + 1, hX, hY, h => by
    have hlx := lb_lex (k := k) hX hY
    have hly := lb_lex (k := k) hY hX
    have e : uN (X k) = uN (Y k) := by
      rcases Nat.lt_trichotomy (uN (X k)) (uN (Y k)) with c | c | c
      · have := hlx.1 c; omega
      · exact c
      · have := hly.1 c; omega
    have ih := lb_inj k (fun j hj => hX j (by omega)) (fun j hj => hY j (by omega)) ((hlx.2 e).2.mp h)
    intro j hj
    by_cases c : j = k
    · subst c; exact e
    · exact ih j (by omega)
theorem lb_thrL {fi se : Nat → Int64} {a b c0 : Int64} (hX : ∀ j, j < 6 → uN (km_prod fi b b 1 j) < 4294967296) (hY : ∀ j, j < 6 → uN (km_prod se a c0 4 j) < 4294967296) :
    ∀ (d k n : Nat), k + d = 6 → d < n → (∀ j, j < k → uN (km_prod fi b b 1 j) = uN (km_prod se a c0 4 j)) → (km_thr_L26 fi se a b c0 n (nI k)).1 = if lb_s (km_prod fi b b 1) 6 = lb_s (km_prod se a c0 4) 6 then 1 else 0 := by
  intro d
  induction d with
  | zero =>
    intro k n hk hn h
    have hk : k = 6 := by omega
    subst hk
    obtain ⟨n, rfl⟩ : ∃ n', n = n' + 1 := ⟨n - 1, by omega⟩
    rw [km_thr_L26, if_pos (by decide)]
    have e : lb_s (km_prod fi b b 1) 6 = lb_s (km_prod se a c0 4) 6 := by
      apply lb_s_congr
      intro j hj
      exact uN_inj (h j hj)
    rw [if_pos e]
  | succ d ih =>
    intro k n hk hn h
    obtain ⟨n, rfl⟩ : ∃ n', n = n' + 1 := ⟨n - 1, by omega⟩
    rw [km_thr_L26, if_neg (show ¬ (6 : Int32) ≤ nI k from nI_ge (a := k) (b := 6) (by omega) (by decide)), nI_clamp (by omega)]
    have x1 := uN_ti (hX k (by omega))
    have y1 := uN_ti (hY k (by omega))
    have e := lc_eq (km_prod fi b b 1 k) (km_prod se a c0 4 k)
    by_cases c : uN (km_prod fi b b 1 k) = uN (km_prod se a c0 4 k)
    · rw [if_pos (e.mpr (by omega)), nI_1]
      refine ih (k + 1) n (by omega) (by omega) (fun j hj => ?_)
      by_cases cj : j = k
      · subst cj; exact c
      · exact h j (by omega)
    · rw [if_neg (fun z => c (by have := e.mp z; omega)), if_neg]
      intro z
      exact c (lb_inj 6 hX hY z k (by omega))
/-- through(u, v, w): v v = 4 u w -/
theorem lb_thr {fi se : Nat → Int64} {a b c0 : Int64} (ha : uN a < 1152921504606846976) (hb : uN b < 9223372036854775808) (hc : uN c0 < 9223372036854775808) : (km_thr fi se a b c0).1 = if uN b * uN b = 4 * (uN c0 * uN a) then 1 else 0 := by
  have m1 : uN b * uN b < 9223372036854775808 * 9223372036854775808 := Nat.mul_lt_mul'' hb hb
  have m2 : uN c0 * uN a < 9223372036854775808 * 1152921504606846976 := Nat.mul_lt_mul'' hc ha
  have u1 : uN 1 = 1 := by decide
  have u4 : uN 4 = 4 := by decide
  obtain ⟨x1, x2⟩ := lb_prod (f := fi) (a := b) (b := b) (c0 := 1) (by omega) (by omega) (by rw [u1]; omega)
  obtain ⟨y1, y2⟩ := lb_prod (f := se) (a := a) (b := c0) (c0 := 4) (by omega) (by omega) (by rw [u4]; omega)
  have h := lb_thrL x1 y1 6 0 7 (by decide) (by decide) (fun j hj => absurd hj (Nat.not_lt_zero _))
  rw [x2, y2, u1, u4, Nat.one_mul] at h
  exact h
end
section
-- the class's arc, from Int32 and Int64 to Int
theorem i32_lt (a b : Int32) : a < b ↔ a.toInt < b.toInt := Int32.lt_iff_toInt_lt
theorem i32_le (a b : Int32) : a ≤ b ↔ a.toInt ≤ b.toInt := Int32.le_iff_toInt_le
theorem i32_eq (a b : Int32) : a = b ↔ a.toInt = b.toInt := Int32.toInt_inj.symm
theorem jmin_t (x y : Int32) : (if y < x then y else x).toInt = min x.toInt y.toInt := by
  by_cases h : y < x
  · rw [if_pos h]; rw [i32_lt] at h; omega
  · rw [if_neg h]; rw [i32_lt] at h; omega
theorem jmax_t (x y : Int32) : (if x < y then y else x).toInt = max x.toInt y.toInt := by
  by_cases h : x < y
  · rw [if_pos h]; rw [i32_lt] at h; omega
  · rw [if_neg h]; rw [i32_lt] at h; omega
theorem ka_may_i (sx sy bx b2 ex ey b : Int32) : ka_may sx sy bx b2 ex ey b = 0 ↔ (b.toInt < min sy.toInt (min b2.toInt ey.toInt) ∨ max sy.toInt (max b2.toInt ey.toInt) < b.toInt) := by
  have e1 := jmin_t sy (if ey < b2 then ey else b2)
  rw [jmin_t b2 ey] at e1
  have e2 := jmax_t sy (if b2 < ey then ey else b2)
  rw [jmax_t b2 ey] at e2
  unfold ka_may
  rw [← e1, ← e2, ← i32_lt, ← i32_lt]
  generalize (if (if ey < b2 then ey else b2) < sy then (if ey < b2 then ey else b2) else sy) = mn
  generalize (if sy < (if b2 < ey then ey else b2) then (if b2 < ey then ey else b2) else sy) = mx
  by_cases h : b < mn
  · rw [if_pos h]; exact ⟨fun _ => Or.inl h, fun _ => rfl⟩
  · rw [if_neg h]
    by_cases h2 : mx < b
    · rw [if_pos h2]; exact ⟨fun _ => Or.inr h2, fun _ => rfl⟩
    · rw [if_neg h2]
      exact ⟨fun k => absurd k (by decide), fun k => by
        rcases k with k | k
        · exact absurd k h
        · exact absurd k h2⟩
theorem jl_sg {p : Int} (h : -9223372036854775808 ≤ p ∧ p < 9223372036854775808) : jl_cmp (Int64.ofInt p) 0 = Int32.ofInt (mt_sg p) := by
  have z0 : (0 : Int64).toInt = 0 := by decide
  unfold jl_cmp
  rcases lc_c (Int64.ofInt p) 0 with ⟨h1, e⟩ | ⟨h1, e⟩ | ⟨h1, e⟩ <;> rw [iL_t h, z0] at h1 <;> rw [e]
  · rw [mt_sg_n h1]; decide
  · rw [h1, mt_sg_0]; decide
  · rw [mt_sg_p h1]; decide
theorem jl_sg2 {p q : Int} (h : -4611686018427387904 ≤ p ∧ p < 4611686018427387904) (h' : -4611686018427387904 ≤ q ∧ q < 4611686018427387904) : jl_cmp (Int64.ofInt p) (Int64.ofInt q) = Int32.ofInt (mt_sg (p - q)) := by
  unfold jl_cmp
  rcases lc_c (Int64.ofInt p) (Int64.ofInt q) with ⟨h1, e⟩ | ⟨h1, e⟩ | ⟨h1, e⟩ <;> rw [iL_t (by omega), iL_t (by omega)] at h1 <;> rw [e]
  · rw [mt_sg_n (by omega)]; decide
  · rw [h1, Int.sub_self, mt_sg_0]; decide
  · rw [mt_sg_p (by omega)]; decide
theorem ji_sg {p q : Int} (h : -1073741824 ≤ p ∧ p < 1073741824) (h' : -1073741824 ≤ q ∧ q < 1073741824) : ji_cmp (Int32.ofInt p) (Int32.ofInt q) = Int32.ofInt (mt_sg (p - q)) := by
  unfold ji_cmp
  by_cases c : p < q
  · rw [mt_sg_n (by omega)]
    have hc : ¬ Int32.ofInt q ≤ Int32.ofInt p := by rw [i32_le, iI_t (by omega), iI_t (by omega)]; omega
    rw [if_neg hc]; decide
  · have hc : Int32.ofInt q ≤ Int32.ofInt p := by rw [i32_le, iI_t (by omega), iI_t (by omega)]; omega
    rw [if_pos hc]
    by_cases c2 : p = q
    · subst c2; rw [if_pos rfl, Int.sub_self, mt_sg_0]; decide
    · have hc2 : ¬ Int32.ofInt p = Int32.ofInt q := by rw [i32_eq, iI_t (by omega), iI_t (by omega)]; omega
      rw [if_neg hc2, mt_sg_p (by omega)]; decide
theorem ka_turn_i (a b c d : Int) : ka_turn (Int64.ofInt a) (Int64.ofInt b) (Int64.ofInt c) (Int64.ofInt d) = Int64.ofInt (a * d - b * c) := by
  unfold ka_turn
  rw [← Int64.ofInt_mul, ← Int64.ofInt_mul, ← Int64.ofInt_sub]
theorem sg_b (a : Int) : -1 ≤ mt_sg a ∧ mt_sg a ≤ 1 := by
  rcases mt_sg_c a with ⟨_, e⟩ | ⟨_, e⟩ | ⟨_, e⟩ <;> omega
theorem sgI (a b : Int) : Int32.ofInt (mt_sg a) = Int32.ofInt (mt_sg b) ↔ mt_sg a = mt_sg b := by
  have h1 := sg_b a
  have h2 := sg_b b
  rw [i32_eq, iI_t (by omega), iI_t (by omega)]
theorem sgIn (a b : Int) : Int32.ofInt (mt_sg a) = -Int32.ofInt (mt_sg b) ↔ mt_sg a = -mt_sg b := by
  have h1 := sg_b a
  have h2 := sg_b b
  rw [← Int32.ofInt_neg, i32_eq, iI_t (by omega), iI_t (by omega)]
theorem sgI0 (a : Int) : Int32.ofInt (mt_sg a) = 0 ↔ a = 0 := by
  have h1 := sg_b a
  have z : (0 : Int32).toInt = 0 := by decide
  rw [i32_eq, iI_t (by omega), z]
  rcases mt_sg_c a with ⟨_, e⟩ | ⟨_, e⟩ | ⟨_, e⟩ <;> omega
theorem ka_rz_i {p q r : Int} (hp : -80000 ≤ p ∧ p ≤ 80000) (hq : -80000 ≤ q ∧ q ≤ 80000) (hr : -80000 ≤ r ∧ r ≤ 80000) : ka_rz (Int64.ofInt p) (Int64.ofInt q) (Int64.ofInt r) = 0 ↔ ¬ mt_rz p q r := by
  have b1 := mt_bd hq hq
  have b2 := mt_bd hp hr
  unfold ka_rz mt_rz
  rw [jl_sg (p := p) (by omega), jl_sg (p := q) (by omega), jl_sg (p := r) (by omega), ← Int64.ofInt_mul, ← Int64.ofInt_mul]
  have hlt := lc_lt (Int64.ofInt (q * q)) (Int64.ofInt (p * r))
  rw [iL_t (by omega), iL_t (by omega)] at hlt
  by_cases c1 : p = 0
  · rw [if_pos ((sgI0 p).mpr c1)]
    exact ⟨fun h => absurd h (by decide), fun h => absurd (Or.inl c1) h⟩
  · rw [if_neg (fun z => c1 ((sgI0 p).mp z))]
    by_cases c2 : mt_sg r = mt_sg p
    · rw [if_pos ((sgI r p).mpr c2)]
      by_cases c3 : mt_sg q = -mt_sg p
      · rw [if_pos ((sgIn q p).mpr c3)]
        by_cases c4 : q * q < p * r
        · rw [if_pos (hlt.mpr c4)]
          refine ⟨fun _ => ?_, fun _ => rfl⟩
          rintro (h | h | h)
          · exact c1 h
          · exact h c2
          · omega
        · rw [if_neg (fun z => c4 (hlt.mp z))]
          exact ⟨fun h => absurd h (by decide), fun h => absurd (Or.inr (Or.inr ⟨c3, by omega⟩)) h⟩
      · rw [if_neg (fun z => c3 ((sgIn q p).mp z))]
        refine ⟨fun _ => ?_, fun _ => rfl⟩
        rintro (h | h | h)
        · exact c1 h
        · exact h c2
        · exact c3 h.1
    · rw [if_neg (fun z => c2 ((sgI r p).mp z))]
      exact ⟨fun h => absurd h (by decide), fun h => absurd (Or.inr (Or.inl c2)) h⟩
/-- a place and a coordinate, seen from it -/
theorem rel_i {z c : Int} (hz : -40000 ≤ z ∧ z ≤ 40000) (hc : -40000 ≤ c ∧ c ≤ 40000) : Int32.toInt64 (Int32.ofInt z - Int32.ofInt c) = Int64.ofInt (z - c) := by
  rw [← Int32.ofInt_sub, iI_l (by omega)]
theorem ka_side_i {sx sy bx b2 ex ey v x y : Int} (h1 : -40000 ≤ sx ∧ sx ≤ 40000) (h2 : -40000 ≤ sy ∧ sy ≤ 40000) (h5 : -40000 ≤ ex ∧ ex ≤ 40000) (h6 : -40000 ≤ ey ∧ ey ≤ 40000) (hv : -100000000000 ≤ v ∧ v ≤ 100000000000) :
    ka_side (Int32.ofInt sx) (Int32.ofInt sy) (Int32.ofInt bx) (Int32.ofInt b2) (Int32.ofInt ex) (Int32.ofInt ey) (Int64.ofInt v) = Int32.ofInt (mt_cs v (sx - x) (sy - y) (ex - x) (ey - y)) := by
  have z0 : (0 : Int64).toInt = 0 := by decide
  have e0 := lc_eq (Int64.ofInt v) 0
  have e1 := lc_ge (Int64.ofInt v) 0
  rw [iL_t (by omega), z0] at e0 e1
  unfold ka_side mt_cs
  have e2 : Int32.ofInt ey = Int32.ofInt sy ↔ ey = sy := by rw [i32_eq, iI_t (by omega), iI_t (by omega)]
  by_cases c : v = 0
  · rw [if_pos (e0.mpr c), if_neg (show ¬ v ≠ 0 from fun h => h c)]
    by_cases c2 : ey = sy
    · rw [if_pos (e2.mpr c2), if_neg (show ¬ ey - y ≠ sy - y from fun h => h (by omega)), ji_sg (by omega) (by omega)]
      congr 2; omega
    · rw [if_neg (fun z => c2 (e2.mp z)), if_pos (show ey - y ≠ sy - y by omega), ji_sg (by omega) (by omega)]
      congr 2; omega
  · rw [if_neg (fun z => c (e0.mp z)), if_pos (show v ≠ 0 from c)]
    by_cases c2 : 0 ≤ v
    · rw [if_pos (e1.mpr c2), mt_sg_p (by omega)]; decide
    · rw [if_neg (fun z => c2 (e1.mp z)), mt_sg_n (by omega)]; decide
theorem ka_share_i {sy ey cs y : Int} (h2 : -40000 ≤ sy ∧ sy ≤ 40000) (h6 : -40000 ≤ ey ∧ ey ≤ 40000) (hy : -40000 ≤ y ∧ y ≤ 40000) (hc : -1 ≤ cs ∧ cs ≤ 1) (sx bx b2 ex : Int32) :
    ka_share sx (Int32.ofInt sy) bx b2 ex (Int32.ofInt ey) (Int32.ofInt cs) (Int32.ofInt y) = Int32.ofInt (mt_sh cs (sy - y) (ey - y)) := by
  have z0 : (0 : Int32).toInt = 0 := by decide
  have l1 : Int32.ofInt sy < Int32.ofInt y ↔ sy < y := by rw [i32_lt, iI_t (by omega), iI_t (by omega)]
  have l2 : Int32.ofInt ey < Int32.ofInt y ↔ ey < y := by rw [i32_lt, iI_t (by omega), iI_t (by omega)]
  have l3 : Int32.ofInt cs ≤ 0 ↔ cs ≤ 0 := by rw [i32_le, iI_t (by omega), z0]
  have l4 : 0 ≤ Int32.ofInt cs ↔ 0 ≤ cs := by rw [i32_le, iI_t (by omega), z0]
  unfold ka_share mt_sh
  by_cases c1 : sy < y
  · rw [if_pos (l1.mpr c1)]
    unfold ka_share_j13
    by_cases c2 : ey < y
    · rw [if_pos (l2.mpr c2), if_pos (by omega)]
      unfold ka_share_j27
      rw [if_pos rfl]; decide
    · rw [if_neg (fun z => c2 (l2.mp z)), if_neg (by omega), if_pos (by omega)]
      unfold ka_share_j27
      rw [if_neg (by decide), if_neg (by decide)]
      by_cases c3 : 0 ≤ cs
      · rw [if_pos (l4.mpr c3), if_neg (by omega)]; decide
      · rw [if_neg (fun z => c3 (l4.mp z)), if_pos (by omega)]; decide
  · rw [if_neg (fun z => c1 (l1.mp z))]
    unfold ka_share_j13
    by_cases c2 : ey < y
    · rw [if_pos (l2.mpr c2), if_neg (by omega), if_neg (by omega)]
      unfold ka_share_j27
      rw [if_neg (by decide), if_pos rfl]
      by_cases c3 : cs ≤ 0
      · rw [if_pos (l3.mpr c3), if_neg (by omega)]; decide
      · rw [if_neg (fun z => c3 (l3.mp z)), if_pos (by omega)]; decide
    · rw [if_neg (fun z => c2 (l2.mp z)), if_pos (by omega)]
      unfold ka_share_j27
      rw [if_pos rfl]; decide
theorem jabs_i {v : Int} (hv : -100000000000 ≤ v ∧ v ≤ 100000000000) : (if 0 < Int64.ofInt v then Int64.ofInt v else -Int64.ofInt v) = lN v.natAbs := by
  have z0 : (0 : Int64).toInt = 0 := by decide
  have e : 0 < Int64.ofInt v ↔ 0 < v := by rw [Int64.lt_iff_toInt_lt, iL_t (by omega), z0]
  have k : lN v.natAbs = Int64.ofInt (v.natAbs : Int) := Int64.ofInt_eq_ofNat.symm
  rw [k]
  by_cases c : 0 < v
  · rw [if_pos (e.mpr c)]; congr 1; omega
  · rw [if_neg (fun z => c (e.mp z)), ← Int64.ofInt_neg]; congr 1; omega
theorem ka_high_i {a b : Nat} (ha : a < 1099511627776) (hb : b < 1099511627776) : ka_high (lN a) (lN b) = lN (a / 1048576 * b + a % 1048576 * b / 1048576) := by
  unfold ka_high
  have p20 : (2 : Nat) ^ 20 = 1048576 := by decide
  have m : (1048575 : Int64) = lN (1048576 - 1) := by decide +kernel
  have s : (((20 : Int32).toInt64 &&& 63).toBitVec.smod 64).toNat = 20 := by decide
  have h1 : a % 1048576 * b ≤ 1048575 * 1099511627775 := Nat.mul_le_mul (by omega) (by omega)
  have e1 : jv_lshr (lN a) 20 = lN (a / 1048576) := by
    have := pf_shr (a := a) (d := 20) s (by omega)
    rw [p20] at this
    exact this
  have e2 : lN a &&& 1048575 = lN (a % 1048576) := by rw [m]; exact g_mask (s := 20) p20 (by decide) (by omega)
  rw [e1, e2, lN_mul, lN_mul]
  generalize a % 1048576 * b = z at h1 ⊢
  have e3 : jv_lshr (lN z) 20 = lN (z / 1048576) := by
    have := pf_shr (a := z) (d := 20) s (by omega)
    rw [p20] at this
    exact this
  rw [e3, lN_add]
theorem ka_low_i {a b : Nat} (ha : a < 1099511627776) (hb : b < 1099511627776) : ka_low (lN a) (lN b) = lN (a % 1048576 * b % 1048576) := by
  unfold ka_low
  have p20 : (2 : Nat) ^ 20 = 1048576 := by decide
  have m : (1048575 : Int64) = lN (1048576 - 1) := by decide +kernel
  have h1 : a % 1048576 * b ≤ 1048575 * 1099511627775 := Nat.mul_le_mul (by omega) (by omega)
  have e2 : lN a &&& 1048575 = lN (a % 1048576) := by rw [m]; exact g_mask (s := 20) p20 (by decide) (by omega)
  rw [e2, lN_mul]
  generalize a % 1048576 * b = z at h1 ⊢
  rw [m]
  exact g_mask (s := 20) p20 (by decide) (by omega)
theorem hl_split (a b : Nat) : a * b = (a / 1048576 * b + a % 1048576 * b / 1048576) * 1048576 + a % 1048576 * b % 1048576 := by
  have e : a = a / 1048576 * 1048576 + a % 1048576 := by omega
  have e2 : a * b = a / 1048576 * b * 1048576 + a % 1048576 * b := by
    generalize hx : a / 1048576 = x at *
    generalize hy : a % 1048576 = y at *
    rw [e]
    grind
  rw [e2]
  generalize a / 1048576 * b = x
  generalize a % 1048576 * b = z
  have := Nat.div_add_mod z 1048576
  rw [Nat.add_mul, Nat.mul_comm (z / 1048576)]
  omega
theorem jl_lN {a b : Nat} (ha : a < 4611686018427387904) (hb : b < 4611686018427387904) : jl_cmp (lN a) (lN b) = Int32.ofInt (mt_sg ((a : Int) - b)) := by
  have e : ∀ n : Nat, lN n = Int64.ofInt (n : Int) := fun n => Int64.ofInt_eq_ofNat.symm
  rw [e a, e b, jl_sg2 (by omega) (by omega)]
theorem ka_cmp_i {a b c d : Nat} (ha : a < 1099511627776) (hb : b < 1099511627776) (hc : c < 1099511627776) (hd : d < 1099511627776) : ka_cmp (lN a) (lN b) (lN c) (lN d) = Int32.ofInt (mt_sg ((a * b : Nat) - (c * d : Nat) : Int)) := by
  unfold ka_cmp
  have b1 : a / 1048576 * b ≤ 1048575 * 1099511627775 := Nat.mul_le_mul (by omega) (by omega)
  have b2 : a % 1048576 * b ≤ 1048575 * 1099511627775 := Nat.mul_le_mul (by omega) (by omega)
  have b3 : c / 1048576 * d ≤ 1048575 * 1099511627775 := Nat.mul_le_mul (by omega) (by omega)
  have b4 : c % 1048576 * d ≤ 1048575 * 1099511627775 := Nat.mul_le_mul (by omega) (by omega)
  rw [ka_high_i ha hb, ka_high_i hc hd, ka_low_i ha hb, ka_low_i hc hd, jl_lN (by omega) (by omega), jl_lN (by omega) (by omega)]
  have s1 := hl_split a b
  have s2 := hl_split c d
  generalize a / 1048576 * b + a % 1048576 * b / 1048576 = h1 at *
  generalize hm1 : a % 1048576 * b % 1048576 = l1 at *
  generalize c / 1048576 * d + c % 1048576 * d / 1048576 = h2 at *
  generalize hm2 : c % 1048576 * d % 1048576 = l2 at *
  have q1 : l1 < 1048576 := by omega
  have q2 : l2 < 1048576 := by omega
  rw [s1, s2]
  rcases mt_sg_c ((h1 : Int) - h2) with ⟨k, e⟩ | ⟨k, e⟩ | ⟨k, e⟩
  · rw [e, if_neg (by decide), mt_sg_n (by omega)]
  · rw [e, if_pos (by decide)]
    congr 1
    rcases mt_sg_c ((l1 : Int) - l2) with ⟨k2, e2⟩ | ⟨k2, e2⟩ | ⟨k2, e2⟩
    · rw [e2, mt_sg_n (by omega)]
    · rw [e2, show ((h1 * 1048576 + l1 : Nat) : Int) - ((h2 * 1048576 + l2 : Nat) : Int) = 0 by omega, mt_sg_0]
    · rw [e2, mt_sg_p (by omega)]
  · rw [e, if_neg (by decide), mt_sg_p (by omega)]
end
section
theorem cs_b (v i p k r : Int) : -1 ≤ mt_cs v i p k r ∧ mt_cs v i p k r ≤ 1 := by
  unfold mt_cs
  split
  · exact sg_b _
  · split
    · exact sg_b _
    · exact sg_b _
theorem sh_b (c p r : Int) : -1 ≤ mt_sh c p r ∧ mt_sh c p r ≤ 1 := by
  unfold mt_sh
  split
  · omega
  · split
    · split <;> omega
    · split <;> omega
theorem ka_on_i {sx sy bx b2 ex ey x y : Int} (h1 : -40000 ≤ sx ∧ sx ≤ 40000) (h2 : -40000 ≤ sy ∧ sy ≤ 40000) (h3 : -40000 ≤ bx ∧ bx ≤ 40000) (h4 : -40000 ≤ b2 ∧ b2 ≤ 40000) (h5 : -40000 ≤ ex ∧ ex ≤ 40000) (h6 : -40000 ≤ ey ∧ ey ≤ 40000) (hx : -40000 ≤ x ∧ x ≤ 40000) (hy : -40000 ≤ y ∧ y ≤ 40000) :
    ka_on (Int32.ofInt sx) (Int32.ofInt sy) (Int32.ofInt bx) (Int32.ofInt b2) (Int32.ofInt ex) (Int32.ofInt ey) (Int32.ofInt x) (Int32.ofInt y) = 0 ↔ ¬ (mt_rz (sx - x) (bx - x) (ex - x) ∧ mt_rz (sy - y) (b2 - y) (ey - y)) := by
  unfold ka_on
  rw [rel_i h1 hx, rel_i h3 hx, rel_i h5 hx, rel_i h2 hy, rel_i h4 hy, rel_i h6 hy]
  have k1 := ka_rz_i (p := sx - x) (q := bx - x) (r := ex - x) (by omega) (by omega) (by omega)
  have k2 := ka_rz_i (p := sy - y) (q := b2 - y) (r := ey - y) (by omega) (by omega) (by omega)
  by_cases c1 : mt_rz (sx - x) (bx - x) (ex - x)
  · rw [if_neg (fun z => k1.mp z c1)]
    by_cases c2 : mt_rz (sy - y) (b2 - y) (ey - y)
    · rw [if_neg (fun z => k2.mp z c2)]
      exact ⟨fun h => absurd h (by decide), fun h => absurd ⟨c1, c2⟩ h⟩
    · rw [if_pos (k2.mpr c2)]
      exact ⟨fun _ h => c2 h.2, fun _ => rfl⟩
  · rw [if_pos (k1.mpr c1)]
    exact ⟨fun _ h => c1 h.1, fun _ => rfl⟩
/-- the three sign tests of the class say: inside the closed triangle -/
theorem tri_i {u v w : Int} (hs : u + v + w ≠ 0) : mt_tri u v w ↔ ¬ mt_sg (u + v + w) * u < 0 ∧ ¬ mt_sg (u + v + w) * v < 0 ∧ ¬ mt_sg (u + v + w) * w < 0 := by
  unfold mt_tri
  rcases mt_sg_c (u + v + w) with ⟨h, e⟩ | ⟨h, e⟩ | ⟨h, e⟩ <;> rw [e]
  · omega
  · exact absurd h hs
  · omega
theorem abs_i {u v w : Int} (h : mt_tri u v w) : ((v.natAbs * v.natAbs : Nat) : Int) - ((4 * u.natAbs * w.natAbs : Nat) : Int) = v * v - 4 * (u * w) := by
  have e1 : ((v.natAbs * v.natAbs : Nat) : Int) = v * v := Int.natAbs_mul_self
  have e2 : ((4 * u.natAbs * w.natAbs : Nat) : Int) = 4 * (u * w) := by
    rcases h with ⟨a, b, c⟩ | ⟨a, b, c⟩
    · have k1 : (u.natAbs : Int) = u := by omega
      have k2 : (w.natAbs : Int) = w := by omega
      rw [Int.natCast_mul, Int.natCast_mul, k1, k2, Int.mul_assoc]
      rfl
    · have k1 : (u.natAbs : Int) = -u := by omega
      have k2 : (w.natAbs : Int) = -w := by omega
      rw [Int.natCast_mul, Int.natCast_mul, k1, k2, Int.mul_assoc, Int.neg_mul_neg]
      rfl
  rw [e1, e2]
theorem ka_k160_i {sx sy bx b2 ex ey x y u v w : Int} (h1 : -40000 ≤ sx ∧ sx ≤ 40000) (h2 : -40000 ≤ sy ∧ sy ≤ 40000) (h3 : -40000 ≤ bx ∧ bx ≤ 40000) (h4 : -40000 ≤ b2 ∧ b2 ≤ 40000) (h5 : -40000 ≤ ex ∧ ex ≤ 40000) (h6 : -40000 ≤ ey ∧ ey ≤ 40000) (hx : -40000 ≤ x ∧ x ≤ 40000) (hy : -40000 ≤ y ∧ y ≤ 40000)
    (hu : -12800000000 ≤ u ∧ u ≤ 12800000000) (hv : -12800000000 ≤ v ∧ v ≤ 12800000000) (hw : -12800000000 ≤ w ∧ w ≤ 12800000000) {cs sh : Int} (hcs : -1 ≤ cs ∧ cs ≤ 1) :
    (mt_tch u v w (sx - x) (sy - y) (bx - x) (b2 - y) (ex - x) (ey - y) → ka_turns_k160 (Int32.ofInt sx) (Int32.ofInt sy) (Int32.ofInt bx) (Int32.ofInt b2) (Int32.ofInt ex) (Int32.ofInt ey) (Int32.ofInt x) (Int32.ofInt y) (Int32.ofInt cs) (Int32.ofInt sh) (Int64.ofInt u) (Int64.ofInt v) (Int64.ofInt w) (Int32.ofInt (mt_sg (u + v + w))) = 1000) ∧
    (¬ mt_tch u v w (sx - x) (sy - y) (bx - x) (b2 - y) (ex - x) (ey - y) → ka_turns_k160 (Int32.ofInt sx) (Int32.ofInt sy) (Int32.ofInt bx) (Int32.ofInt b2) (Int32.ofInt ex) (Int32.ofInt ey) (Int32.ofInt x) (Int32.ofInt y) (Int32.ofInt cs) (Int32.ofInt sh) (Int64.ofInt u) (Int64.ofInt v) (Int64.ofInt w) (Int32.ofInt (mt_sg (u + v + w))) = Int32.ofInt (if u + v + w ≠ 0 ∧ ((0 ≤ u ∧ 0 ≤ v ∧ 0 ≤ w) ∨ (u ≤ 0 ∧ v ≤ 0 ∧ w ≤ 0)) ∧ v * v < 4 * (u * w) ∧ cs = mt_sg (u + v + w) then sh + mt_sg (u + v + w) else sh)) := by
  have z0 : (0 : Int64).toInt = 0 := by decide
  have z1 : (0 : Int32).toInt = 0 := by decide
  have hsb := sg_b (u + v + w)
  have eu := lc_eq (Int64.ofInt u) 0
  have ev := lc_eq (Int64.ofInt v) 0
  have ew := lc_eq (Int64.ofInt w) 0
  rw [iL_t (by omega), z0] at eu ev ew
  have hon := ka_on_i h1 h2 h3 h4 h5 h6 hx hy
  unfold ka_turns_k160 mt_tch
  by_cases hs : u + v + w = 0
  · rw [if_pos ((sgI0 _).mpr hs), if_neg (c := u + v + w ≠ 0 ∧ ((0 ≤ u ∧ 0 ≤ v ∧ 0 ≤ w) ∨ (u ≤ 0 ∧ v ≤ 0 ∧ w ≤ 0)) ∧ v * v < 4 * (u * w) ∧ cs = mt_sg (u + v + w)) (fun h => h.1 hs)]
    by_cases hz : u = 0 ∧ v = 0 ∧ w = 0
    · rw [if_pos (eu.mpr hz.1), if_pos (ev.mpr hz.2.1), if_pos (ew.mpr hz.2.2)]
      unfold ka_turns_j190
      rw [if_neg (by decide)]
      by_cases c : mt_rz (sx - x) (bx - x) (ex - x) ∧ mt_rz (sy - y) (b2 - y) (ey - y)
      · rw [if_neg (fun z => hon.mp z c)]
        exact ⟨fun _ => rfl, fun h => absurd (Or.inl ⟨hs, hz, c⟩) h⟩
      · rw [if_pos (hon.mpr c)]
        refine ⟨fun h => ?_, fun _ => rfl⟩
        rcases h with ⟨_, _, h⟩ | ⟨h, _⟩
        · exact absurd h c
        · exact absurd hs h
    · have key : (if (lg_cmp (Int64.ofInt u) 0) = 0 then (if (lg_cmp (Int64.ofInt v) 0) = 0 then (if (lg_cmp (Int64.ofInt w) 0) = 0 then (ka_turns_j190 (Int32.ofInt sx) (Int32.ofInt sy) (Int32.ofInt bx) (Int32.ofInt b2) (Int32.ofInt ex) (Int32.ofInt ey) (Int32.ofInt x) (Int32.ofInt y) (Int32.ofInt sh) 1) else (ka_turns_j190 (Int32.ofInt sx) (Int32.ofInt sy) (Int32.ofInt bx) (Int32.ofInt b2) (Int32.ofInt ex) (Int32.ofInt ey) (Int32.ofInt x) (Int32.ofInt y) (Int32.ofInt sh) 0)) else (ka_turns_j190 (Int32.ofInt sx) (Int32.ofInt sy) (Int32.ofInt bx) (Int32.ofInt b2) (Int32.ofInt ex) (Int32.ofInt ey) (Int32.ofInt x) (Int32.ofInt y) (Int32.ofInt sh) 0)) else (ka_turns_j190 (Int32.ofInt sx) (Int32.ofInt sy) (Int32.ofInt bx) (Int32.ofInt b2) (Int32.ofInt ex) (Int32.ofInt ey) (Int32.ofInt x) (Int32.ofInt y) (Int32.ofInt sh) 0)) = Int32.ofInt sh := by
        have k0 : ka_turns_j190 (Int32.ofInt sx) (Int32.ofInt sy) (Int32.ofInt bx) (Int32.ofInt b2) (Int32.ofInt ex) (Int32.ofInt ey) (Int32.ofInt x) (Int32.ofInt y) (Int32.ofInt sh) 0 = Int32.ofInt sh := by
          unfold ka_turns_j190; rw [if_pos rfl]
        by_cases a1 : u = 0
        · rw [if_pos (eu.mpr a1)]
          by_cases a2 : v = 0
          · rw [if_pos (ev.mpr a2), if_neg (fun z => hz ⟨a1, a2, ew.mp z⟩), k0]
          · rw [if_neg (fun z => a2 (ev.mp z)), k0]
        · rw [if_neg (fun z => a1 (eu.mp z)), k0]
      rw [key]
      refine ⟨fun h => ?_, fun _ => rfl⟩
      rcases h with ⟨_, h, _⟩ | ⟨h, _⟩
      · exact absurd h hz
      · exact absurd hs h
  · rw [if_neg (fun z => hs ((sgI0 _).mp z)), iI_l (by omega), ← Int64.ofInt_mul, ← Int64.ofInt_mul, ← Int64.ofInt_mul]
    have q1 := mt_bd (a := mt_sg (u + v + w)) (A := 1) (by omega) hu
    have q2 := mt_bd (a := mt_sg (u + v + w)) (A := 1) (by omega) hv
    have q3 := mt_bd (a := mt_sg (u + v + w)) (A := 1) (by omega) hw
    have l1 := lc_lt (Int64.ofInt (mt_sg (u + v + w) * u)) 0
    have l2 := lc_lt (Int64.ofInt (mt_sg (u + v + w) * v)) 0
    have l3 := lc_ge (Int64.ofInt (mt_sg (u + v + w) * w)) 0
    rw [iL_t (by omega), z0] at l1 l2 l3
    have ht := tri_i hs
    by_cases hT : mt_tri u v w
    · obtain ⟨t1, t2, t3⟩ := ht.mp hT
      rw [if_neg (fun z => t1 (l1.mp z)), if_neg (fun z => t2 (l2.mp z)), if_pos (l3.mpr (by omega)), jabs_i (by omega), jabs_i (by omega), jabs_i (by omega)]
      have f4 : (4 : Int64) = lN 4 := by decide +kernel
      rw [f4, lN_mul, ka_cmp_i (by omega) (by omega) (by omega) (by omega), abs_i hT]
      have s0 := sgI0 (v * v - 4 * (u * w))
      by_cases c : v * v = 4 * (u * w)
      · rw [if_pos (s0.mpr (by omega))]
        exact ⟨fun _ => rfl, fun h => absurd (Or.inr ⟨hs, hT, c⟩) h⟩
      · rw [if_neg (fun z => c (by have := s0.mp z; omega))]
        have hnt : ¬ ((u + v + w = 0 ∧ (u = 0 ∧ v = 0 ∧ w = 0) ∧ mt_rz (sx - x) (bx - x) (ex - x) ∧ mt_rz (sy - y) (b2 - y) (ey - y)) ∨ (u + v + w ≠ 0 ∧ mt_tri u v w ∧ v * v = 4 * (u * w))) := by
          rintro (⟨h, _⟩ | ⟨_, _, h⟩)
          · exact hs h
          · exact c h
        refine ⟨fun h => absurd h hnt, fun _ => ?_⟩
        have hge : 0 ≤ Int32.ofInt (mt_sg (v * v - 4 * (u * w))) ↔ ¬ v * v < 4 * (u * w) := by
          have := sg_b (v * v - 4 * (u * w))
          rw [i32_le, z1, iI_t (by omega)]
          rcases mt_sg_c (v * v - 4 * (u * w)) with ⟨a, b⟩ | ⟨a, b⟩ | ⟨a, b⟩ <;> omega
        by_cases c2 : v * v < 4 * (u * w)
        · rw [if_neg (fun z => hge.mp z c2)]
          have hcq : Int32.ofInt cs = Int32.ofInt (mt_sg (u + v + w)) ↔ cs = mt_sg (u + v + w) := by
            rw [i32_eq, iI_t (by omega), iI_t (by omega)]
          by_cases c3 : cs = mt_sg (u + v + w)
          · rw [if_pos (hcq.mpr c3), if_pos ⟨hs, hT, c2, c3⟩, Int32.ofInt_add]
          · rw [if_neg (fun z => c3 (hcq.mp z)), if_neg (fun z => c3 z.2.2.2)]
        · rw [if_pos (hge.mpr c2), if_neg (fun z => c2 z.2.2.1)]
    · have hnt : ¬ ((u + v + w = 0 ∧ (u = 0 ∧ v = 0 ∧ w = 0) ∧ mt_rz (sx - x) (bx - x) (ex - x) ∧ mt_rz (sy - y) (b2 - y) (ey - y)) ∨ (u + v + w ≠ 0 ∧ mt_tri u v w ∧ v * v = 4 * (u * w))) := by
        rintro (⟨h, _⟩ | ⟨_, h, _⟩)
        · exact hs h
        · exact hT h
      refine ⟨fun h => absurd h hnt, fun _ => ?_⟩
      rw [if_neg (c := u + v + w ≠ 0 ∧ ((0 ≤ u ∧ 0 ≤ v ∧ 0 ≤ w) ∨ (u ≤ 0 ∧ v ≤ 0 ∧ w ≤ 0)) ∧ v * v < 4 * (u * w) ∧ cs = mt_sg (u + v + w)) (fun z => hT z.2.1)]
      by_cases t1 : mt_sg (u + v + w) * u < 0
      · rw [if_pos (l1.mpr t1)]
      · rw [if_neg (fun z => t1 (l1.mp z))]
        by_cases t2 : mt_sg (u + v + w) * v < 0
        · rw [if_pos (l2.mpr t2)]
        · rw [if_neg (fun z => t2 (l2.mp z)), if_neg (fun z => hT (ht.mpr ⟨t1, t2, by have := l3.mp z; omega⟩))]
theorem ka_turns_i {sx sy bx b2 ex ey x y : Int} (h1 : -40000 ≤ sx ∧ sx ≤ 40000) (h2 : -40000 ≤ sy ∧ sy ≤ 40000) (h3 : -40000 ≤ bx ∧ bx ≤ 40000) (h4 : -40000 ≤ b2 ∧ b2 ≤ 40000) (h5 : -40000 ≤ ex ∧ ex ≤ 40000) (h6 : -40000 ≤ ey ∧ ey ≤ 40000) (hx : -40000 ≤ x ∧ x ≤ 40000) (hy : -40000 ≤ y ∧ y ≤ 40000) :
    (mt_touch (sx - x) (sy - y) (bx - x) (b2 - y) (ex - x) (ey - y) → ka_turns (Int32.ofInt sx) (Int32.ofInt sy) (Int32.ofInt bx) (Int32.ofInt b2) (Int32.ofInt ex) (Int32.ofInt ey) (Int32.ofInt x) (Int32.ofInt y) = 1000) ∧
    (¬ mt_touch (sx - x) (sy - y) (bx - x) (b2 - y) (ex - x) (ey - y) → ka_turns (Int32.ofInt sx) (Int32.ofInt sy) (Int32.ofInt bx) (Int32.ofInt b2) (Int32.ofInt ex) (Int32.ofInt ey) (Int32.ofInt x) (Int32.ofInt y) = Int32.ofInt (mt_kb ((bx - x) * (ey - y) - (ex - x) * (b2 - y)) ((ex - x) * (sy - y) - (sx - x) * (ey - y)) ((sx - x) * (b2 - y) - (bx - x) * (sy - y)) (sx - x) (sy - y) (ex - x) (ey - y))) := by
  have early := fun h => mt_early (i := sx - x) (p := sy - y) (j := bx - x) (q := b2 - y) (k := ex - x) (r := ey - y) rfl rfl rfl h
  unfold ka_turns
  have em := ka_may_i (Int32.ofInt sx) (Int32.ofInt sy) (Int32.ofInt bx) (Int32.ofInt b2) (Int32.ofInt ex) (Int32.ofInt ey) (Int32.ofInt y)
  rw [iI_t (by omega), iI_t (by omega), iI_t (by omega), iI_t (by omega)] at em
  by_cases c0 : ka_may (Int32.ofInt sx) (Int32.ofInt sy) (Int32.ofInt bx) (Int32.ofInt b2) (Int32.ofInt ex) (Int32.ofInt ey) (Int32.ofInt y) = 0
  · rw [if_pos c0]
    have hm := em.mp c0
    obtain ⟨k1, k2⟩ := early (by omega)
    rw [k2]
    exact ⟨fun t => absurd t k1, fun _ => by decide⟩
  · rw [if_neg c0]
    have e2 := jmax_t (Int32.ofInt sx) (if Int32.ofInt bx < Int32.ofInt ex then Int32.ofInt ex else Int32.ofInt bx)
    rw [jmax_t (Int32.ofInt bx) (Int32.ofInt ex), iI_t (by omega), iI_t (by omega), iI_t (by omega)] at e2
    generalize (if Int32.ofInt sx < (if Int32.ofInt bx < Int32.ofInt ex then Int32.ofInt ex else Int32.ofInt bx) then (if Int32.ofInt bx < Int32.ofInt ex then Int32.ofInt ex else Int32.ofInt bx) else Int32.ofInt sx) = mx at e2 ⊢
    have e3 : Int32.ofInt x ≤ mx ↔ x ≤ max sx (max bx ex) := by rw [i32_le, e2, iI_t (by omega)]
    by_cases c1 : Int32.ofInt x ≤ mx
    · rw [if_pos c1, rel_i h1 hx, rel_i h3 hx, rel_i h5 hx, rel_i h2 hy, rel_i h4 hy, rel_i h6 hy, ka_turn_i, ka_turn_i, ka_turn_i]
      have cu : (bx - x) * (ey - y) - (b2 - y) * (ex - x) = (bx - x) * (ey - y) - (ex - x) * (b2 - y) := by rw [Int.mul_comm (b2 - y)]
      have cv : (ex - x) * (sy - y) - (ey - y) * (sx - x) = (ex - x) * (sy - y) - (sx - x) * (ey - y) := by rw [Int.mul_comm (ey - y)]
      have cw : (sx - x) * (b2 - y) - (sy - y) * (bx - x) = (sx - x) * (b2 - y) - (bx - x) * (sy - y) := by rw [Int.mul_comm (sy - y)]
      rw [cu, cv, cw]
      have b1 := mt_bd (a := bx - x) (b := ey - y) (A := 80000) (B := 80000) (by omega) (by omega)
      have b2' := mt_bd (a := ex - x) (b := b2 - y) (A := 80000) (B := 80000) (by omega) (by omega)
      have b3 := mt_bd (a := ex - x) (b := sy - y) (A := 80000) (B := 80000) (by omega) (by omega)
      have b4 := mt_bd (a := sx - x) (b := ey - y) (A := 80000) (B := 80000) (by omega) (by omega)
      have b5 := mt_bd (a := sx - x) (b := b2 - y) (A := 80000) (B := 80000) (by omega) (by omega)
      have b6 := mt_bd (a := bx - x) (b := sy - y) (A := 80000) (B := 80000) (by omega) (by omega)
      have hcs := cs_b ((ex - x) * (sy - y) - (sx - x) * (ey - y)) (sx - x) (sy - y) (ex - x) (ey - y)
      rw [ka_side_i (x := x) (y := y) h1 h2 h5 h6 (by omega), ka_share_i h2 h6 hy hcs, ← Int64.ofInt_add, ← Int64.ofInt_add, jl_sg (by omega)]
      have := ka_k160_i (u := (bx - x) * (ey - y) - (ex - x) * (b2 - y)) (v := (ex - x) * (sy - y) - (sx - x) * (ey - y)) (w := (sx - x) * (b2 - y) - (bx - x) * (sy - y)) (sh := mt_sh (mt_cs ((ex - x) * (sy - y) - (sx - x) * (ey - y)) (sx - x) (sy - y) (ex - x) (ey - y)) (sy - y) (ey - y)) h1 h2 h3 h4 h5 h6 hx hy (by omega) (by omega) (by omega) hcs
      exact ⟨this.1, fun h => this.2 h⟩
    · rw [if_neg c1]
      have hm : ¬ x ≤ max sx (max bx ex) := fun z => c1 (e3.mpr z)
      obtain ⟨k1, k2⟩ := early (by omega)
      rw [k2]
      exact ⟨fun t => absurd t k1, fun _ => by decide⟩
end
section
-- the reference's signs, sides, lines, from Int64 to Int
theorem km_sign_i {z : Int} (h : -9223372036854775808 ≤ z ∧ z < 9223372036854775808) : km_sign (Int64.ofInt z) = Int32.ofInt (mt_sg z) := by
  have z0 : (0 : Int64).toInt = 0 := by decide
  unfold km_sign
  rcases lc_c (Int64.ofInt z) 0 with ⟨h1, e⟩ | ⟨h1, e⟩ | ⟨h1, e⟩ <;> rw [iL_t h, z0] at h1 <;> rw [e]
  · rw [mt_sg_n h1]; decide
  · rw [h1, mt_sg_0]; decide
  · rw [mt_sg_p h1]; decide
theorem uN_i {z : Int} (h : 0 ≤ z ∧ z < 9223372036854775808) : (uN (Int64.ofInt z) : Int) = z := by
  have h1 := uN_int (Int64.ofInt z)
  have h2 := uN_lt (Int64.ofInt z)
  rw [iL_t (by omega)] at h1
  by_cases c : 2 * uN (Int64.ofInt z) < 18446744073709551616
  · rw [if_pos c] at h1; omega
  · rw [if_neg c] at h1; omega
theorem eqI {a b : Int} (ha : -1 ≤ a ∧ a ≤ 1) (hb : -1 ≤ b ∧ b ≤ 1) : Int32.ofInt a = Int32.ofInt b ↔ a = b := by
  rw [i32_eq, iI_t (by omega), iI_t (by omega)]
theorem eqI0 {a : Int} (ha : -1 ≤ a ∧ a ≤ 1) : Int32.ofInt a = 0 ↔ a = 0 := eqI (b := 0) ha (by omega)
theorem km_cmp_i {fi se : Nat → Int64} {g e d : Int} (hg : 0 ≤ g ∧ g < 9223372036854775808) (he : 0 ≤ e ∧ e < 9223372036854775808) (hd : 0 ≤ d ∧ d < 9223372036854775808) : (km_cmp fi se (Int64.ofInt g) (Int64.ofInt e) (Int64.ofInt d)).1 = Int32.ofInt (mt_sg (g * g - e * e * d)) := by
  have a1 := uN_i hg
  have a2 := uN_i he
  have a3 := uN_i hd
  rw [lb_cmp (by omega) (by omega) (by omega)]
  have e1 : ((uN (Int64.ofInt g) * uN (Int64.ofInt g) : Nat) : Int) = g * g := by rw [Int.natCast_mul, a1]
  have e2 : ((uN (Int64.ofInt d) * (uN (Int64.ofInt e) * uN (Int64.ofInt e)) : Nat) : Int) = e * e * d := by rw [Int.natCast_mul, Int.natCast_mul, a2, a3, Int.mul_comm]
  unfold lb_c
  generalize uN (Int64.ofInt g) * uN (Int64.ofInt g) = x at *
  generalize uN (Int64.ofInt d) * (uN (Int64.ofInt e) * uN (Int64.ofInt e)) = y at *
  by_cases c1 : x < y
  · rw [if_pos c1, mt_sg_n (by omega)]; decide
  · rw [if_neg c1]
    by_cases c2 : x = y
    · rw [if_pos c2, show g * g - e * e * d = 0 by omega, mt_sg_0]; decide
    · rw [if_neg c2, mt_sg_p (by omega)]; decide
theorem km_so71_i {fi se : Nat → Int64} {g e d t : Int} (hg : -4611686018427387904 ≤ g ∧ g < 4611686018427387904) (he : -4611686018427387904 ≤ e ∧ e < 4611686018427387904) (hd : 0 ≤ d ∧ d < 4611686018427387904) {A B : Int} (hA : A = g ∨ A = -g) (hA0 : 0 ≤ A) (hB : B = e ∨ B = -e) (hB0 : 0 ≤ B) :
    (km_so_j71 fi se (Int64.ofInt g) (Int64.ofInt d) (Int32.ofInt t) (Int64.ofInt A) (Int64.ofInt B)).1 = Int32.ofInt (if g * g = e * e * d then 0 else if e * e * d < g * g then mt_sg g else t) := by
  have eA : A * A = g * g := by
    rcases hA with h | h <;> subst h
    · rfl
    · exact Int.neg_mul_neg _ _
  have eB : B * B = e * e := by
    rcases hB with h | h <;> subst h
    · rfl
    · exact Int.neg_mul_neg _ _
  have hc := km_cmp_i (fi := fi) (se := se) (g := A) (e := B) (d := d) (by omega) (by omega) (by omega)
  rw [eA, eB] at hc
  unfold km_so_j71 km_so_k76
  rw [hc]
  have z1 : (0 : Int32).toInt = 0 := by decide
  have hb := sg_b (g * g - e * e * d)
  by_cases c1 : g * g = e * e * d
  · rw [if_pos ((sgI0 _).mpr (by omega)), if_pos c1]; rfl
  · rw [if_neg (fun z => c1 (by have := (sgI0 _).mp z; omega)), if_neg c1]
    have hle : Int32.ofInt (mt_sg (g * g - e * e * d)) ≤ 0 ↔ ¬ e * e * d < g * g := by
      rw [i32_le, z1, iI_t (by omega)]
      rcases mt_sg_c (g * g - e * e * d) with ⟨a, b⟩ | ⟨a, b⟩ | ⟨a, b⟩ <;> omega
    by_cases c2 : e * e * d < g * g
    · rw [if_neg (fun z => hle.mp z c2), if_pos c2]
      exact km_sign_i (by omega)
    · rw [if_pos (hle.mpr c2), if_neg c2]
theorem km_so_i {fi se : Nat → Int64} {g e d : Int} (hg : -4611686018427387904 ≤ g ∧ g < 4611686018427387904) (he : -4611686018427387904 ≤ e ∧ e < 4611686018427387904) (hd : 0 ≤ d ∧ d < 4611686018427387904) : (km_so fi se (Int64.ofInt g) (Int64.ofInt e) (Int64.ofInt d)).1 = Int32.ofInt (mt_so g e d) := by
  have z0 : (0 : Int64).toInt = 0 := by decide
  have ed := lc_eq (Int64.ofInt d) 0
  have eg := lc_ge (Int64.ofInt g) 0
  have ee := lc_ge (Int64.ofInt e) 0
  rw [iL_t (by omega), z0] at ed eg ee
  have hsg := sg_b g
  have hse := sg_b e
  have hy : -1 ≤ (if d = 0 then 0 else mt_sg e) ∧ (if d = 0 then 0 else mt_sg e) ≤ 1 := by split <;> omega
  have h1 : km_so fi se (Int64.ofInt g) (Int64.ofInt e) (Int64.ofInt d) = km_so_j21 fi se (Int64.ofInt g) (Int64.ofInt e) (Int64.ofInt d) (Int32.ofInt (if d = 0 then 0 else mt_sg e)) := by
    unfold km_so
    by_cases c : d = 0
    · rw [if_pos (ed.mpr c), if_pos c]; rfl
    · rw [if_neg (fun z => c (ed.mp z)), if_neg c, km_sign_i (by omega)]
  rw [h1]
  unfold mt_so
  generalize (if d = 0 then 0 else mt_sg e) = y at hy ⊢
  unfold km_so_j21
  rw [km_sign_i (by omega)]
  have q1 := eqI hsg hy
  have q2 := eqI0 hy
  have q3 := eqI0 hsg
  by_cases c1 : mt_sg g = y
  · rw [if_pos (q1.mpr c1), if_pos (Or.inl c1)]
  · rw [if_neg (fun z => c1 (q1.mp z))]
    by_cases c2 : y = 0
    · rw [if_pos (q2.mpr c2), if_pos (Or.inr c2)]
    · rw [if_neg (fun z => c2 (q2.mp z)), if_neg (show ¬ (mt_sg g = y ∨ y = 0) by
        rintro (z | z)
        · exact c1 z
        · exact c2 z)]
      by_cases c3 : mt_sg g = 0
      · rw [if_pos (q3.mpr c3), if_pos c3]
      · rw [if_neg (fun z => c3 (q3.mp z)), if_neg c3]
        by_cases c4 : 0 ≤ g
        · rw [if_pos (eg.mpr c4)]
          unfold km_so_j59
          by_cases c5 : 0 ≤ e
          · rw [if_pos (ee.mpr c5)]
            exact km_so71_i hg he hd (Or.inl rfl) c4 (Or.inl rfl) c5
          · rw [if_neg (fun z => c5 (ee.mp z)), ← Int64.ofInt_neg]
            exact km_so71_i hg he hd (Or.inl rfl) c4 (Or.inr rfl) (by omega)
        · rw [if_neg (fun z => c4 (eg.mp z)), ← Int64.ofInt_neg]
          unfold km_so_j59
          by_cases c5 : 0 ≤ e
          · rw [if_pos (ee.mpr c5)]
            exact km_so71_i hg he hd (Or.inr rfl) (by omega) (Or.inl rfl) c5
          · rw [if_neg (fun z => c5 (ee.mp z)), ← Int64.ofInt_neg]
            exact km_so71_i hg he hd (Or.inr rfl) (by omega) (Or.inr rfl) (by omega)
/-- side(..): the sign at a crossing -/
theorem km_side_i {fi se : Nat → Int64} {i p j q k r dn : Int} (hi : -80000 ≤ i ∧ i ≤ 80000) (hp : -80000 ≤ p ∧ p ≤ 80000) (hj : -80000 ≤ j ∧ j ≤ 80000) (hq : -80000 ≤ q ∧ q ≤ 80000) (hk : -80000 ≤ k ∧ k ≤ 80000) (hr : -80000 ≤ r ∧ r ≤ 80000) (hdn : dn = 1 ∨ dn = -1) (hd : p * r ≤ q * q) :
    (km_side fi se (Int64.ofInt i) (Int64.ofInt p) (Int64.ofInt j) (Int64.ofInt q) (Int64.ofInt k) (Int64.ofInt r) (Int32.ofInt dn)).1 = Int32.ofInt (mt_sd i p j q k r dn) := by
  have z0 : (0 : Int64).toInt = 0 := by decide
  have t2 : (2 : Int64) = Int64.ofInt 2 := by decide
  have t4 : (4 : Int64) = Int64.ofInt 4 := by decide
  have hdl : Int32.toInt64 (Int32.ofInt dn) = Int64.ofInt dn := iI_l (by omega)
  unfold km_side km_side_k142 mt_sd
  rw [hdl, t2, t4]
  simp only [← Int64.ofInt_add, ← Int64.ofInt_sub, ← Int64.ofInt_mul]
  have ba := mt_bd (a := p - 2 * q + r) (b := i) (A := 320000) (B := 80000) (by omega) (by omega)
  have b2 := mt_bd (a := i - 2 * j + k) (b := p) (A := 320000) (B := 80000) (by omega) (by omega)
  have b3 := mt_bd (a := p - 2 * q + r) (b := 2 * (j - i)) (A := 320000) (B := 320000) (by omega) (by omega)
  have b4 := mt_bd (a := i - 2 * j + k) (b := 2 * (q - p)) (A := 320000) (B := 320000) (by omega) (by omega)
  have e0 := lc_eq (Int64.ofInt (p - 2 * q + r)) 0
  rw [iL_t (by omega), z0] at e0
  by_cases c : p - 2 * q + r = 0
  · rw [if_pos (e0.mpr c), if_pos c]
    have c1 := mt_bd (a := (i - 2 * j + k) * p) (b := p) (A := 25600000000) (B := 80000) (by omega) (by omega)
    have c2 := mt_bd (a := 2 * (j - i)) (b := 2 * (q - p)) (A := 320000) (B := 320000) (by omega) (by omega)
    have c3 := mt_bd (a := 2 * (j - i) * (2 * (q - p))) (b := p) (A := 102400000000) (B := 80000) (by omega) (by omega)
    have c4 := mt_bd (a := i) (b := 2 * (q - p)) (A := 80000) (B := 320000) (by omega) (by omega)
    have c5 := mt_bd (a := i * (2 * (q - p))) (b := 2 * (q - p)) (A := 25600000000) (B := 320000) (by omega) (by omega)
    exact km_sign_i (by omega)
  · rw [if_neg (fun z => c (e0.mp z)), if_neg c]
    have c1 := mt_bd (a := 2 * (p - 2 * q + r)) (b := (p - 2 * q + r) * i - (i - 2 * j + k) * p) (A := 640000) (B := 51200000000) (by omega) (by omega)
    have c2 := mt_bd (a := (p - 2 * q + r) * (2 * (j - i)) - (i - 2 * j + k) * (2 * (q - p))) (b := 2 * (q - p)) (A := 204800000000) (B := 320000) (by omega) (by omega)
    have c3 := mt_bd (a := dn) (b := (p - 2 * q + r) * (2 * (j - i)) - (i - 2 * j + k) * (2 * (q - p))) (A := 1) (B := 204800000000) (by omega) (by omega)
    have c4 := mt_bd (a := 2 * (q - p)) (b := 2 * (q - p)) (A := 320000) (B := 320000) (by omega) (by omega)
    have c5 := mt_bd (a := 4 * (p - 2 * q + r)) (b := p) (A := 1280000) (B := 80000) (by omega) (by omega)
    have ed : 2 * (q - p) * (2 * (q - p)) - 4 * (p - 2 * q + r) * p = 4 * (q * q - p * r) := by grind
    exact km_so_i (by omega) (by omega) (by omega)
end
section
-- the reference's crossings, lines and curves, over Int
theorem km_zero_i {p q r : Int} (hp : -80000 ≤ p ∧ p ≤ 80000) (hq : -80000 ≤ q ∧ q ≤ 80000) (hr : -80000 ≤ r ∧ r ≤ 80000) : km_zero (Int64.ofInt p) (Int64.ofInt q) (Int64.ofInt r) = 0 ↔ ¬ mt_zr p q r := by
  have z0 : (0 : Int64).toInt = 0 := by decide
  have b1 := mt_bd hq hq
  have b2 := mt_bd hp hr
  have ep := lc_eq (Int64.ofInt p) 0
  have er := lc_eq (Int64.ofInt r) 0
  have lp := lc_le (Int64.ofInt p) 0
  have lr := lc_le (Int64.ofInt r) 0
  have lq := lc_le (Int64.ofInt q) 0
  have gq := lc_ge (Int64.ofInt q) 0
  have hlt := lc_lt (Int64.ofInt (q * q)) (Int64.ofInt (p * r))
  rw [iL_t (by omega), z0] at ep er lp lr lq gq
  rw [iL_t (by omega), iL_t (by omega)] at hlt
  unfold km_zero mt_zr
  by_cases c1 : p = 0
  · rw [if_pos (ep.mpr c1)]
    exact ⟨fun h => absurd h (by decide), fun h => absurd (Or.inl (Or.inl c1)) h⟩
  rw [if_neg (fun z => c1 (ep.mp z))]
  by_cases c2 : r = 0
  · rw [if_pos (er.mpr c2)]
    exact ⟨fun h => absurd h (by decide), fun h => absurd (Or.inl (Or.inr (Or.inl c2))) h⟩
  rw [if_neg (fun z => c2 (er.mp z))]
  by_cases c3 : p ≤ 0
  · rw [if_pos (lp.mpr c3), if_neg (show ¬ 0 < p by omega)]
    unfold km_zero_j24
    by_cases c4 : r ≤ 0
    · rw [if_pos (lr.mpr c4)]
      unfold km_zero_j36
      rw [if_pos rfl, if_pos (lp.mpr c3), ← Int64.ofInt_mul, ← Int64.ofInt_mul]
      by_cases c5 : q ≤ 0
      · rw [if_pos (lq.mpr c5)]
        exact ⟨fun _ => by omega, fun _ => rfl⟩
      · rw [if_neg (fun z => c5 (lq.mp z))]
        by_cases c6 : q * q < p * r
        · rw [if_pos (hlt.mpr c6)]
          exact ⟨fun _ => by omega, fun _ => rfl⟩
        · rw [if_neg (fun z => c6 (hlt.mp z))]
          exact ⟨fun h => absurd h (by decide), fun h => absurd (Or.inr ⟨by omega, by omega⟩) h⟩
    · rw [if_neg (fun z => c4 (lr.mp z))]
      unfold km_zero_j36
      rw [if_neg (by decide)]
      exact ⟨fun h => absurd h (by decide), fun h => absurd (Or.inl (Or.inr (Or.inr (by omega)))) h⟩
  · rw [if_neg (fun z => c3 (lp.mp z)), if_pos (show 0 < p by omega)]
    unfold km_zero_j24
    by_cases c4 : r ≤ 0
    · rw [if_pos (lr.mpr c4)]
      unfold km_zero_j36
      rw [if_neg (by decide)]
      exact ⟨fun h => absurd h (by decide), fun h => absurd (Or.inl (Or.inr (Or.inr (by omega)))) h⟩
    · rw [if_neg (fun z => c4 (lr.mp z))]
      unfold km_zero_j36
      rw [if_pos rfl, if_neg (fun z => c3 (lp.mp z)), ← Int64.ofInt_mul, ← Int64.ofInt_mul]
      by_cases c5 : 0 ≤ q
      · rw [if_pos (gq.mpr c5)]
        exact ⟨fun _ => by omega, fun _ => rfl⟩
      · rw [if_neg (fun z => c5 (gq.mp z))]
        by_cases c6 : q * q < p * r
        · rw [if_pos (hlt.mpr c6)]
          exact ⟨fun _ => by omega, fun _ => rfl⟩
        · rw [if_neg (fun z => c6 (hlt.mp z))]
          exact ⟨fun h => absurd h (by decide), fun h => absurd (Or.inr ⟨by omega, by omega⟩) h⟩
theorem km_thr_i {fi se : Nat → Int64} {u v w : Int} (hu : 0 ≤ u ∧ u ≤ 12800000000) (hv : 0 ≤ v ∧ v ≤ 12800000000) (hw : 0 ≤ w ∧ w ≤ 12800000000) : (km_thr fi se (Int64.ofInt u) (Int64.ofInt v) (Int64.ofInt w)).1 = if v * v = 4 * (u * w) then 1 else 0 := by
  have a1 := uN_i (z := u) (by omega)
  have a2 := uN_i (z := v) (by omega)
  have a3 := uN_i (z := w) (by omega)
  rw [lb_thr (by omega) (by omega) (by omega)]
  have e1 : ((uN (Int64.ofInt v) * uN (Int64.ofInt v) : Nat) : Int) = v * v := by rw [Int.natCast_mul, a2]
  have e2 : ((uN (Int64.ofInt w) * uN (Int64.ofInt u) : Nat) : Int) = u * w := by rw [Int.natCast_mul, a1, a3, Int.mul_comm]
  generalize uN (Int64.ofInt v) * uN (Int64.ofInt v) = x at *
  generalize uN (Int64.ofInt w) * uN (Int64.ofInt u) = y at *
  by_cases c : v * v = 4 * (u * w)
  · rw [if_pos c, if_pos (show x = 4 * y by omega)]
  · rw [if_neg c, if_neg (show ¬ x = 4 * y by omega)]
theorem km_cross_1 (tn a b c : Int32) : (km_cross 1 tn a b c).1 = 1 := by
  unfold km_cross km_cross_j9 km_cross_j43 km_cross_j47
  (repeat' split) <;> rfl
theorem km_cross_dn {tc tn : Int32} {S : Int} (hS : S = 1 ∨ S = -1) : km_cross tc tn 0 1 (Int32.ofInt S) = (tc, tn + Int32.ofInt (if 0 < S then 1 else 0)) := by
  unfold km_cross km_cross_j9 km_cross_j43 km_cross_j47
  rcases hS with h | h <;> subst h
  · rw [if_neg (by decide), if_neg (by decide), if_neg (by decide), if_pos rfl, if_pos (by decide)]; rfl
  · rw [if_neg (by decide), if_pos (by decide), if_neg (by decide)]
    have e : Int32.ofInt 0 = 0 := by decide
    rw [e, Int32.add_zero]
theorem km_cross_up {tc tn : Int32} {S : Int} (hS : S = 1 ∨ S = -1) : km_cross tc tn 1 0 (Int32.ofInt S) = (tc, tn + Int32.ofInt (if 0 < S then -1 else 0)) := by
  unfold km_cross km_cross_j9 km_cross_j43 km_cross_j47
  rcases hS with h | h <;> subst h
  · rw [if_neg (by decide), if_neg (by decide), if_pos rfl, if_neg (by decide), if_pos rfl, if_pos (by decide)]; rfl
  · rw [if_neg (by decide), if_pos (by decide), if_neg (by decide)]
    have e : Int32.ofInt 0 = 0 := by decide
    rw [e, Int32.add_zero]
theorem km_line37_i {tn t : Int32} {i p k r : Int} (hi : -80000 ≤ i ∧ i ≤ 80000) (hp : -80000 ≤ p ∧ p ≤ 80000) (hk : -80000 ≤ k ∧ k ≤ 80000) (hr : -80000 ≤ r ∧ r ≤ 80000) :
    km_line_j37 tn (Int64.ofInt i) (Int64.ofInt p) (Int64.ofInt k) (Int64.ofInt r) t = if (0 ≤ p ↔ 0 ≤ r) then (t, tn) else if 0 ≤ r then km_cross t tn 0 1 (Int32.ofInt (mt_sg (i * r - k * p) * mt_sg (r - p))) else km_cross t tn 1 0 (Int32.ofInt (mt_sg (i * r - k * p) * mt_sg (r - p))) := by
  have z0 : (0 : Int64).toInt = 0 := by decide
  have b1 := mt_bd hi hr
  have b2 := mt_bd hk hp
  have ep := lc_lt (Int64.ofInt p) 0
  have er := lc_lt (Int64.ofInt r) 0
  rw [iL_t (by omega), z0] at ep er
  have es : km_sign (Int64.ofInt i * Int64.ofInt r - Int64.ofInt k * Int64.ofInt p) * km_sign (Int64.ofInt r - Int64.ofInt p) = Int32.ofInt (mt_sg (i * r - k * p) * mt_sg (r - p)) := by
    rw [← Int64.ofInt_mul, ← Int64.ofInt_mul, ← Int64.ofInt_sub, ← Int64.ofInt_sub, km_sign_i (by omega), km_sign_i (by omega), ← Int32.ofInt_mul]
  unfold km_line_j37
  by_cases c1 : p < 0
  · rw [if_pos (ep.mpr c1)]
    unfold km_line_j48
    by_cases c2 : r < 0
    · rw [if_pos (er.mpr c2), if_pos (show (0 ≤ p ↔ 0 ≤ r) by omega)]
      unfold km_line_j60 km_line_j103
      rw [if_pos rfl]
    · rw [if_neg (fun z => c2 (er.mp z)), if_neg (show ¬ (0 ≤ p ↔ 0 ≤ r) by omega), if_pos (show 0 ≤ r by omega)]
      unfold km_line_j60
      rw [if_neg (by decide), if_pos (ep.mpr c1)]
      unfold km_line_j75
      rw [if_neg (fun z => c2 (er.mp z))]
      unfold km_line_j87 km_line_k103 km_line_j103
      rw [es]
  · rw [if_neg (fun z => c1 (ep.mp z))]
    unfold km_line_j48
    by_cases c2 : r < 0
    · rw [if_pos (er.mpr c2), if_neg (show ¬ (0 ≤ p ↔ 0 ≤ r) by omega), if_neg (show ¬ 0 ≤ r by omega)]
      unfold km_line_j60
      rw [if_neg (by decide), if_neg (fun z => c1 (ep.mp z))]
      unfold km_line_j75
      rw [if_pos (er.mpr c2)]
      unfold km_line_j87 km_line_k103 km_line_j103
      rw [es]
    · rw [if_neg (fun z => c2 (er.mp z)), if_pos (show (0 ≤ p ↔ 0 ≤ r) by omega)]
      unfold km_line_j60 km_line_j103
      rw [if_pos rfl]
theorem km_line_i {tc tn : Int32} {i p k r : Int} (hi : -80000 ≤ i ∧ i ≤ 80000) (hp : -80000 ≤ p ∧ p ≤ 80000) (hk : -80000 ≤ k ∧ k ≤ 80000) (hr : -80000 ≤ r ∧ r ≤ 80000) :
    (tc = 1 → (km_line tc tn (Int64.ofInt i) (Int64.ofInt p) (Int64.ofInt k) (Int64.ofInt r)).1 = 1) ∧ (mt_touch i p i p k r → (km_line tc tn (Int64.ofInt i) (Int64.ofInt p) (Int64.ofInt k) (Int64.ofInt r)).1 = 1) ∧
    (¬ mt_touch i p i p k r → km_line tc tn (Int64.ofInt i) (Int64.ofInt p) (Int64.ofInt k) (Int64.ofInt r) = (tc, tn + Int32.ofInt (mt_kb (i * r - k * p) (k * p - i * r) 0 i p k r))) := by
  have z0 : (0 : Int64).toInt = 0 := by decide
  have b1 := mt_bd hi hr
  have b2 := mt_bd hk hp
  have b3 := mt_bd hi hk
  have b4 := mt_bd hp hr
  have e1 := lc_eq (Int64.ofInt (i * r - k * p)) 0
  have e2 := lc_gt (Int64.ofInt (i * k + p * r)) 0
  rw [iL_t (by omega), z0] at e1 e2
  have hone : ∀ t : Int32, t = 1 → (km_line_j37 tn (Int64.ofInt i) (Int64.ofInt p) (Int64.ofInt k) (Int64.ofInt r) t).1 = 1 := by
    intro t ht
    subst ht
    rw [km_line37_i hi hp hk hr]
    split
    · rfl
    · split
      · exact km_cross_1 _ _ _ _
      · exact km_cross_1 _ _ _ _
  have hl := mt_line i p k r
  unfold km_line
  rw [← Int64.ofInt_mul, ← Int64.ofInt_mul, ← Int64.ofInt_mul, ← Int64.ofInt_mul, ← Int64.ofInt_sub, ← Int64.ofInt_add]
  by_cases hT : mt_touch i p i p k r
  · obtain ⟨t1, t2⟩ := hl.mpr hT
    rw [if_pos (e1.mpr t1), if_neg (fun z => by have := e2.mp z; omega)]
    exact ⟨fun _ => hone 1 rfl, fun _ => hone 1 rfl, fun h => absurd hT h⟩
  · have hk37 : (if (lg_cmp (Int64.ofInt (i * r - k * p)) 0) = 0 then (if 0 < (lg_cmp (Int64.ofInt (i * k + p * r)) 0) then (km_line_j37 tn (Int64.ofInt i) (Int64.ofInt p) (Int64.ofInt k) (Int64.ofInt r) tc) else (km_line_j37 tn (Int64.ofInt i) (Int64.ofInt p) (Int64.ofInt k) (Int64.ofInt r) 1)) else (km_line_j37 tn (Int64.ofInt i) (Int64.ofInt p) (Int64.ofInt k) (Int64.ofInt r) tc)) = km_line_j37 tn (Int64.ofInt i) (Int64.ofInt p) (Int64.ofInt k) (Int64.ofInt r) tc := by
      by_cases c1 : i * r - k * p = 0
      · rw [if_pos (e1.mpr c1), if_pos (e2.mpr (by
          rcases Int.lt_or_le 0 (i * k + p * r) with z | z
          · exact z
          · exact absurd (hl.mp ⟨c1, z⟩) hT))]
      · rw [if_neg (fun z => c1 (e1.mp z))]
    rw [hk37]
    refine ⟨fun h => hone tc h, fun h => absurd h hT, fun _ => ?_⟩
    obtain ⟨m1, m2⟩ := mt_line_turn hT
    rw [km_line37_i hi hp hk hr, m1]
    have e0 : Int32.ofInt 0 = 0 := by decide
    by_cases c : (0 ≤ p ↔ 0 ≤ r)
    · rw [if_pos c, if_pos c, e0, Int32.add_zero]
    · rw [if_neg c, if_neg c]
      have hS : mt_sg (i * r - k * p) * mt_sg (r - p) = 1 ∨ mt_sg (i * r - k * p) * mt_sg (r - p) = -1 := by
        have := m2 c
        rcases mt_sg_c (i * r - k * p) with ⟨_, x⟩ | ⟨_, x⟩ | ⟨_, x⟩ <;> rcases mt_sg_c (r - p) with ⟨_, y⟩ | ⟨_, y⟩ | ⟨_, y⟩ <;> rw [x, y] at this ⊢ <;> simp at this ⊢
      by_cases c2 : 0 ≤ r
      · rw [if_pos c2, if_pos c2, km_cross_dn hS]
      · rw [if_neg c2, if_neg c2, km_cross_up hS]
theorem sd_pm {S : Int} (h0 : S ≠ 0) (h : S = -1 ∨ S = 0 ∨ S = 1) : S = 1 ∨ S = -1 := by omega
theorem mt_S_pm (u v w p q r dn : Int) : mt_S u v w p q r dn = -1 ∨ mt_S u v w p q r dn = 0 ∨ mt_S u v w p q r dn = 1 := by
  have hs : ∀ x : Int, mt_sg x = -1 ∨ mt_sg x = 0 ∨ mt_sg x = 1 := fun x => by
    rcases mt_sg_c x with ⟨_, e⟩ | ⟨_, e⟩ | ⟨_, e⟩ <;> omega
  unfold mt_S mt_so
  generalize (2 * (2 * u * (p - q) + v * (p - r) + 2 * w * (q - r))) = g
  have hy : (if 4 * (q * q - p * r) = 0 then 0 else mt_sg (dn * (2 * (u + v + w)))) = -1 ∨ (if 4 * (q * q - p * r) = 0 then 0 else mt_sg (dn * (2 * (u + v + w)))) = 0 ∨ (if 4 * (q * q - p * r) = 0 then 0 else mt_sg (dn * (2 * (u + v + w)))) = 1 := by
    split
    · exact Or.inr (Or.inl rfl)
    · exact hs _
  generalize (if 4 * (q * q - p * r) = 0 then 0 else mt_sg (dn * (2 * (u + v + w)))) = y at hy ⊢
  split
  · exact hs _
  · split
    · exact hs _
    · split
      · exact hy
      · split
        · exact Or.inr (Or.inl rfl)
        · split
          · exact hs _
          · exact hy
/-- curve behind its touch tests: the crossings -/
theorem km_curve255_i {fi se : Nat → Int64} {tn : Int32} {i p j q k r : Int} (hi : -80000 ≤ i ∧ i ≤ 80000) (hp : -80000 ≤ p ∧ p ≤ 80000) (hj : -80000 ≤ j ∧ j ≤ 80000) (hq : -80000 ≤ q ∧ q ≤ 80000) (hk : -80000 ≤ k ∧ k ≤ 80000) (hr : -80000 ≤ r ∧ r ≤ 80000) (hok : mt_rok (j * r - k * q) (k * p - i * r) (i * q - j * p) p q r) :
    (km_curve_j255 tn (Int64.ofInt i) (Int64.ofInt p) (Int64.ofInt j) (Int64.ofInt q) (Int64.ofInt k) (Int64.ofInt r) fi se 0).1 = 0 ∧ (km_curve_j255 tn (Int64.ofInt i) (Int64.ofInt p) (Int64.ofInt j) (Int64.ofInt q) (Int64.ofInt k) (Int64.ofInt r) fi se 0).2.1 = tn + Int32.ofInt (mt_rturn (j * r - k * q) (k * p - i * r) (i * q - j * p) p q r) := by
  have z0 : (0 : Int64).toInt = 0 := by decide
  have b1 := mt_bd hq hq
  have b2 := mt_bd hp hr
  have ep := lc_lt (Int64.ofInt p) 0
  have er := lc_lt (Int64.ofInt r) 0
  have lq := lc_le (Int64.ofInt q) 0
  have gq := lc_ge (Int64.ofInt q) 0
  have hlt := lc_le (Int64.ofInt (q * q)) (Int64.ofInt (p * r))
  rw [iL_t (by omega), z0] at ep er lq gq
  rw [iL_t (by omega), iL_t (by omega)] at hlt
  have o1 : (1 : Int32) = Int32.ofInt 1 := by decide
  have om : (-1 : Int32) = Int32.ofInt (-1) := by decide
  have e0 : Int32.ofInt 0 = 0 := by decide
  have hqq := mt_sq q
  have sd1 : ∀ fi se : Nat → Int64, p * r ≤ q * q → (km_side fi se (Int64.ofInt i) (Int64.ofInt p) (Int64.ofInt j) (Int64.ofInt q) (Int64.ofInt k) (Int64.ofInt r) 1).1 = Int32.ofInt (mt_S (j * r - k * q) (k * p - i * r) (i * q - j * p) p q r 1) := fun fi se h => by
    rw [o1, km_side_i hi hp hj hq hk hr (Or.inl rfl) h, mt_sd_S]
  have sdm : ∀ fi se : Nat → Int64, p * r ≤ q * q → (km_side fi se (Int64.ofInt i) (Int64.ofInt p) (Int64.ofInt j) (Int64.ofInt q) (Int64.ofInt k) (Int64.ofInt r) (-1)).1 = Int32.ofInt (mt_S (j * r - k * q) (k * p - i * r) (i * q - j * p) p q r (-1)) := fun fi se h => by
    rw [om, km_side_i hi hp hj hq hk hr (Or.inr rfl) h, mt_sd_S]
  obtain ⟨k1, k2, k3, k4⟩ := hok
  have pm1 := mt_S_pm (j * r - k * q) (k * p - i * r) (i * q - j * p) p q r 1
  have pmm := mt_S_pm (j * r - k * q) (k * p - i * r) (i * q - j * p) p q r (-1)
  generalize gS1 : mt_S (j * r - k * q) (k * p - i * r) (i * q - j * p) p q r 1 = S1 at *
  generalize gSm : mt_S (j * r - k * q) (k * p - i * r) (i * q - j * p) p q r (-1) = Sm at *
  unfold km_curve_j255
  rw [if_pos rfl]
  by_cases c1 : p < 0
  · rw [if_pos (ep.mpr c1)]
    unfold km_curve_j274
    by_cases c2 : r < 0
    · rw [if_pos (er.mpr c2)]
      unfold km_curve_j288
      rw [if_pos rfl, if_pos rfl]
      by_cases c3 : q ≤ 0
      · have ht : mt_rturn (j * r - k * q) (k * p - i * r) (i * q - j * p) p q r = 0 := by
          unfold mt_rturn
          rw [if_neg (show ¬ 0 ≤ p by omega), if_neg (show ¬ 0 ≤ r by omega), if_neg (fun z => by omega)]
        rw [if_pos (lq.mpr c3), ht, e0, Int32.add_zero]
        exact ⟨rfl, rfl⟩
      · rw [if_neg (fun z => c3 (lq.mp z))]
        unfold km_curve_j354
        rw [← Int64.ofInt_mul, ← Int64.ofInt_mul]
        by_cases c4 : q * q ≤ p * r
        · have ht : mt_rturn (j * r - k * q) (k * p - i * r) (i * q - j * p) p q r = 0 := by
            unfold mt_rturn
            rw [if_neg (show ¬ 0 ≤ p by omega), if_neg (show ¬ 0 ≤ r by omega), if_neg (fun z => by omega)]
          rw [if_pos (hlt.mpr c4), ht, e0, Int32.add_zero]
          exact ⟨rfl, rfl⟩
        · rw [if_neg (fun z => c4 (hlt.mp z)), if_pos rfl]
          unfold km_curve_j380
          rw [if_pos rfl]
          unfold km_curve_j401 km_curve_k404 km_curve_k407
          rw [if_pos rfl]
          unfold km_curve_j418
          rw [if_pos rfl]
          unfold km_curve_j441 km_curve_k444 km_curve_k447 km_curve_j447
          rw [sd1 _ _ (by omega), sdm _ _ (by omega), km_cross_dn (sd_pm (k4 c1 c2 (by omega) (by omega)).1 pm1), km_cross_up (sd_pm (k4 c1 c2 (by omega) (by omega)).2 pmm)]
          refine ⟨rfl, ?_⟩
          show tn + _ + _ = tn + _
          unfold mt_rturn
          rw [if_neg (show ¬ 0 ≤ p by omega), if_neg (show ¬ 0 ≤ r by omega), if_pos (show 0 < q ∧ p * r < q * q by omega), Int32.add_assoc, ← Int32.ofInt_add]
          rw [gS1, gSm]
    · have hd : p * r ≤ q * q := by have := Int.mul_nonpos_of_nonpos_of_nonneg (Int.le_of_lt c1) (show 0 ≤ r by omega); omega
      rw [if_neg (fun z => c2 (er.mp z))]
      unfold km_curve_j288
      rw [if_neg (by decide), if_neg (by decide)]
      unfold km_curve_j323 km_curve_k326 km_curve_k329 km_curve_j447
      rw [sd1 _ _ hd, km_cross_dn (sd_pm (k2 c1 (by omega)) pm1)]
      refine ⟨rfl, ?_⟩
      unfold mt_rturn
      rw [if_neg (show ¬ 0 ≤ p by omega), if_pos (show 0 ≤ r by omega)]
      first | rw [gS1] | rw [gSm]
  · rw [if_neg (fun z => c1 (ep.mp z))]
    unfold km_curve_j274
    by_cases c2 : r < 0
    · have hd : p * r ≤ q * q := by have := Int.mul_nonpos_of_nonneg_of_nonpos (show 0 ≤ p by omega) (Int.le_of_lt c2); omega
      rw [if_pos (er.mpr c2)]
      unfold km_curve_j288
      rw [if_neg (by decide), if_pos rfl]
      unfold km_curve_j323 km_curve_k326 km_curve_k329 km_curve_j447
      rw [sdm _ _ hd, km_cross_up (sd_pm (k1 (by omega) c2) pmm)]
      refine ⟨rfl, ?_⟩
      unfold mt_rturn
      rw [if_pos (show 0 ≤ p by omega), if_neg (show ¬ 0 ≤ r by omega)]
      first | rw [gS1] | rw [gSm]
    · rw [if_neg (fun z => c2 (er.mp z))]
      unfold km_curve_j288
      rw [if_pos rfl, if_neg (by decide)]
      by_cases c3 : 0 ≤ q
      · have ht : mt_rturn (j * r - k * q) (k * p - i * r) (i * q - j * p) p q r = 0 := by
          unfold mt_rturn
          rw [if_pos (show 0 ≤ p by omega), if_pos (show 0 ≤ r by omega), if_neg (fun z => by omega)]
        rw [if_pos (gq.mpr c3), ht, e0, Int32.add_zero]
        exact ⟨rfl, rfl⟩
      · rw [if_neg (fun z => c3 (gq.mp z))]
        unfold km_curve_j354
        rw [← Int64.ofInt_mul, ← Int64.ofInt_mul]
        by_cases c4 : q * q ≤ p * r
        · have ht : mt_rturn (j * r - k * q) (k * p - i * r) (i * q - j * p) p q r = 0 := by
            unfold mt_rturn
            rw [if_pos (show 0 ≤ p by omega), if_pos (show 0 ≤ r by omega), if_neg (fun z => by omega)]
          rw [if_pos (hlt.mpr c4), ht, e0, Int32.add_zero]
          exact ⟨rfl, rfl⟩
        · rw [if_neg (fun z => c4 (hlt.mp z)), if_neg (by decide)]
          unfold km_curve_j380
          rw [if_neg (by decide)]
          unfold km_curve_j401 km_curve_k404 km_curve_k407
          rw [if_neg (by decide)]
          unfold km_curve_j418
          rw [if_neg (by decide)]
          unfold km_curve_j441 km_curve_k444 km_curve_k447 km_curve_j447
          rw [sd1 _ _ (by omega), sdm _ _ (by omega), km_cross_up (sd_pm (k3 (by omega) (by omega) (by omega) (by omega)).1 pmm), km_cross_dn (sd_pm (k3 (by omega) (by omega) (by omega) (by omega)).2 pm1)]
          refine ⟨rfl, ?_⟩
          show tn + _ + _ = tn + _
          unfold mt_rturn
          rw [if_pos (show 0 ≤ p by omega), if_pos (show 0 ≤ r by omega), if_pos (show q < 0 ∧ p * r < q * q by omega), Int32.add_assoc, ← Int32.ofInt_add]
          rw [gS1, gSm]
end
section
-- the reference's curve: its touch tests, and the whole
theorem km_curve100_i {fi se : Nat → Int64} {tc tn : Int32} {i p j q k r : Int} (hi : -80000 ≤ i ∧ i ≤ 80000) (hp : -80000 ≤ p ∧ p ≤ 80000) (hj : -80000 ≤ j ∧ j ≤ 80000) (hq : -80000 ≤ q ∧ q ≤ 80000) (hk : -80000 ≤ k ∧ k ≤ 80000) (hr : -80000 ≤ r ∧ r ≤ 80000) {ol : Prop} (t72 t100 : Int32) (hwd : t72 = 0 ↔ (i = j ∧ j = k)) (hol : t100 = 0 ↔ ¬ ol) :
    ((if i = j ∧ j = k ∧ p = q ∧ q = r then i = 0 ∧ p = 0 else ol ∧ (if i = j ∧ j = k then mt_zr p q r else mt_zr i j k)) → km_curve_j100 tc tn fi se (Int64.ofInt i) (Int64.ofInt p) (Int64.ofInt j) (Int64.ofInt q) (Int64.ofInt k) (Int64.ofInt r) t72 t100 = km_curve_j255 tn (Int64.ofInt i) (Int64.ofInt p) (Int64.ofInt j) (Int64.ofInt q) (Int64.ofInt k) (Int64.ofInt r) fi se 1) ∧
    (¬ (if i = j ∧ j = k ∧ p = q ∧ q = r then i = 0 ∧ p = 0 else ol ∧ (if i = j ∧ j = k then mt_zr p q r else mt_zr i j k)) → km_curve_j100 tc tn fi se (Int64.ofInt i) (Int64.ofInt p) (Int64.ofInt j) (Int64.ofInt q) (Int64.ofInt k) (Int64.ofInt r) t72 t100 = km_curve_j255 tn (Int64.ofInt i) (Int64.ofInt p) (Int64.ofInt j) (Int64.ofInt q) (Int64.ofInt k) (Int64.ofInt r) fi se tc) := by
  have z0 : (0 : Int64).toInt = 0 := by decide
  have epq := lc_eq (Int64.ofInt p) (Int64.ofInt q)
  have eqr := lc_eq (Int64.ofInt q) (Int64.ofInt r)
  have ei := lc_eq (Int64.ofInt i) 0
  have ep := lc_eq (Int64.ofInt p) 0
  rw [iL_t (by omega), iL_t (by omega)] at epq eqr
  rw [iL_t (by omega), z0] at ei ep
  have zx := km_zero_i hi hj hk
  have zy := km_zero_i hp hq hr
  have hend : ∀ t : Int32, km_curve_j182 tn fi se (Int64.ofInt i) (Int64.ofInt p) (Int64.ofInt j) (Int64.ofInt q) (Int64.ofInt k) (Int64.ofInt r) t = km_curve_j255 tn (Int64.ofInt i) (Int64.ofInt p) (Int64.ofInt j) (Int64.ofInt q) (Int64.ofInt k) (Int64.ofInt r) fi se t := fun t => rfl
  unfold km_curve_j100
  simp only [hend]
  by_cases c72 : t72 = 0
  · have hw := hwd.mp c72
    rw [if_pos c72, if_pos c72]
    have tail : ∀ hn : ¬ (i = j ∧ j = k ∧ p = q ∧ q = r),
        ((if i = j ∧ j = k ∧ p = q ∧ q = r then i = 0 ∧ p = 0 else ol ∧ (if i = j ∧ j = k then mt_zr p q r else mt_zr i j k)) → (if t100 = 0 then km_curve_j255 tn (Int64.ofInt i) (Int64.ofInt p) (Int64.ofInt j) (Int64.ofInt q) (Int64.ofInt k) (Int64.ofInt r) fi se tc else if km_zero (Int64.ofInt p) (Int64.ofInt q) (Int64.ofInt r) = 0 then km_curve_j255 tn (Int64.ofInt i) (Int64.ofInt p) (Int64.ofInt j) (Int64.ofInt q) (Int64.ofInt k) (Int64.ofInt r) fi se tc else km_curve_j255 tn (Int64.ofInt i) (Int64.ofInt p) (Int64.ofInt j) (Int64.ofInt q) (Int64.ofInt k) (Int64.ofInt r) fi se 1) = km_curve_j255 tn (Int64.ofInt i) (Int64.ofInt p) (Int64.ofInt j) (Int64.ofInt q) (Int64.ofInt k) (Int64.ofInt r) fi se 1) ∧
        (¬ (if i = j ∧ j = k ∧ p = q ∧ q = r then i = 0 ∧ p = 0 else ol ∧ (if i = j ∧ j = k then mt_zr p q r else mt_zr i j k)) → (if t100 = 0 then km_curve_j255 tn (Int64.ofInt i) (Int64.ofInt p) (Int64.ofInt j) (Int64.ofInt q) (Int64.ofInt k) (Int64.ofInt r) fi se tc else if km_zero (Int64.ofInt p) (Int64.ofInt q) (Int64.ofInt r) = 0 then km_curve_j255 tn (Int64.ofInt i) (Int64.ofInt p) (Int64.ofInt j) (Int64.ofInt q) (Int64.ofInt k) (Int64.ofInt r) fi se tc else km_curve_j255 tn (Int64.ofInt i) (Int64.ofInt p) (Int64.ofInt j) (Int64.ofInt q) (Int64.ofInt k) (Int64.ofInt r) fi se 1) = km_curve_j255 tn (Int64.ofInt i) (Int64.ofInt p) (Int64.ofInt j) (Int64.ofInt q) (Int64.ofInt k) (Int64.ofInt r) fi se tc) := by
      intro hn
      rw [if_neg hn, if_pos hw]
      by_cases c100 : t100 = 0
      · rw [if_pos c100]
        exact ⟨fun h => absurd h.1 (hol.mp c100), fun _ => rfl⟩
      · rw [if_neg c100]
        have ho : ol := by
          rcases Classical.em ol with z | z
          · exact z
          · exact absurd (hol.mpr z) c100
        by_cases cz : mt_zr p q r
        · rw [if_neg (fun z => zy.mp z cz)]
          exact ⟨fun _ => rfl, fun h => absurd ⟨ho, cz⟩ h⟩
        · rw [if_pos (zy.mpr cz)]
          exact ⟨fun h => absurd h.2 cz, fun _ => rfl⟩
    by_cases c1 : p = q
    · rw [if_pos (epq.mpr c1)]
      by_cases c2 : q = r
      · rw [if_pos (eqr.mpr c2)]
        rw [if_pos (show i = j ∧ j = k ∧ p = q ∧ q = r from ⟨hw.1, hw.2, c1, c2⟩)]
        by_cases c3 : i = 0
        · rw [if_pos (ei.mpr c3)]
          by_cases c4 : p = 0
          · rw [if_pos (ep.mpr c4)]
            exact ⟨fun _ => rfl, fun h => absurd ⟨c3, c4⟩ h⟩
          · rw [if_neg (fun z => c4 (ep.mp z))]
            exact ⟨fun h => absurd h.2 c4, fun _ => rfl⟩
        · rw [if_neg (fun z => c3 (ei.mp z))]
          exact ⟨fun h => absurd h.1 c3, fun _ => rfl⟩
      · rw [if_neg (fun z => c2 (eqr.mp z))]
        exact tail (fun h => c2 h.2.2.2)
    · rw [if_neg (fun z => c1 (epq.mp z))]
      exact tail (fun h => c1 h.2.2.1)
  · have hw : ¬ (i = j ∧ j = k) := fun z => c72 (hwd.mpr z)
    rw [if_neg c72, if_neg (show ¬ (i = j ∧ j = k ∧ p = q ∧ q = r) from fun z => hw ⟨z.1, z.2.1⟩), if_neg hw]
    by_cases c100 : t100 = 0
    · rw [if_pos c100]
      exact ⟨fun h => absurd h.1 (hol.mp c100), fun _ => rfl⟩
    · rw [if_neg c100, if_neg c72]
      have ho : ol := by
        rcases Classical.em ol with z | z
        · exact z
        · exact absurd (hol.mpr z) c100
      by_cases cz : mt_zr i j k
      · rw [if_neg (fun z => zx.mp z cz)]
        exact ⟨fun _ => rfl, fun h => absurd ⟨ho, cz⟩ h⟩
      · rw [if_pos (zx.mpr cz)]
        exact ⟨fun h => absurd h.2 cz, fun _ => rfl⟩
theorem km_curve_t {fi se : Nat → Int64} {tc tn : Int32} {i p j q k r : Int} (hi : -80000 ≤ i ∧ i ≤ 80000) (hp : -80000 ≤ p ∧ p ≤ 80000) (hj : -80000 ≤ j ∧ j ≤ 80000) (hq : -80000 ≤ q ∧ q ≤ 80000) (hk : -80000 ≤ k ∧ k ≤ 80000) (hr : -80000 ≤ r ∧ r ≤ 80000) :
    (mt_rtouch i p j q k r → ∃ fi' se' : Nat → Int64, km_curve tc tn fi se (Int64.ofInt i) (Int64.ofInt p) (Int64.ofInt j) (Int64.ofInt q) (Int64.ofInt k) (Int64.ofInt r) = km_curve_j255 tn (Int64.ofInt i) (Int64.ofInt p) (Int64.ofInt j) (Int64.ofInt q) (Int64.ofInt k) (Int64.ofInt r) fi' se' 1) ∧ (¬ mt_rtouch i p j q k r → ∃ fi' se' : Nat → Int64, km_curve tc tn fi se (Int64.ofInt i) (Int64.ofInt p) (Int64.ofInt j) (Int64.ofInt q) (Int64.ofInt k) (Int64.ofInt r) = km_curve_j255 tn (Int64.ofInt i) (Int64.ofInt p) (Int64.ofInt j) (Int64.ofInt q) (Int64.ofInt k) (Int64.ofInt r) fi' se' tc) := by
  have z0 : (0 : Int64).toInt = 0 := by decide
  have b1 := mt_bd hj hr
  have b2 := mt_bd hk hq
  have b3 := mt_bd hk hp
  have b4 := mt_bd hi hr
  have b5 := mt_bd hi hq
  have b6 := mt_bd hj hp
  unfold km_curve
  simp only [← Int64.ofInt_mul, ← Int64.ofInt_sub, ← Int64.ofInt_add]
  unfold mt_rtouch mt_rtch
  generalize hu : j * r - k * q = u at *
  generalize hv : k * p - i * r = v at *
  generalize hw : i * q - j * p = w at *
  have eu := lc_eq (Int64.ofInt u) 0
  have ev := lc_eq (Int64.ofInt v) 0
  have ew := lc_eq (Int64.ofInt w) 0
  have es := lc_eq (Int64.ofInt (u + v + w)) 0
  have eij := lc_eq (Int64.ofInt i) (Int64.ofInt j)
  have ejk := lc_eq (Int64.ofInt j) (Int64.ofInt k)
  rw [iL_t (by omega), z0] at eu ev ew es
  rw [iL_t (by omega), iL_t (by omega)] at eij ejk
  unfold km_curve_k45
  by_cases hs : u + v + w = 0
  · rw [if_pos (es.mpr hs)]
    have j72 : ∀ t72 : Int32, (t72 = 0 ↔ (i = j ∧ j = k)) →
        ((if i = j ∧ j = k ∧ p = q ∧ q = r then i = 0 ∧ p = 0 else (u = 0 ∧ v = 0 ∧ w = 0) ∧ (if i = j ∧ j = k then mt_zr p q r else mt_zr i j k)) → km_curve_j72 tc tn fi se (Int64.ofInt i) (Int64.ofInt p) (Int64.ofInt j) (Int64.ofInt q) (Int64.ofInt k) (Int64.ofInt r) (Int64.ofInt u) (Int64.ofInt v) (Int64.ofInt w) t72 = km_curve_j255 tn (Int64.ofInt i) (Int64.ofInt p) (Int64.ofInt j) (Int64.ofInt q) (Int64.ofInt k) (Int64.ofInt r) fi se 1) ∧
        (¬ (if i = j ∧ j = k ∧ p = q ∧ q = r then i = 0 ∧ p = 0 else (u = 0 ∧ v = 0 ∧ w = 0) ∧ (if i = j ∧ j = k then mt_zr p q r else mt_zr i j k)) → km_curve_j72 tc tn fi se (Int64.ofInt i) (Int64.ofInt p) (Int64.ofInt j) (Int64.ofInt q) (Int64.ofInt k) (Int64.ofInt r) (Int64.ofInt u) (Int64.ofInt v) (Int64.ofInt w) t72 = km_curve_j255 tn (Int64.ofInt i) (Int64.ofInt p) (Int64.ofInt j) (Int64.ofInt q) (Int64.ofInt k) (Int64.ofInt r) fi se tc) := by
      intro t72 hwd
      unfold km_curve_j72
      by_cases a1 : u = 0
      · rw [if_pos (eu.mpr a1)]
        by_cases a2 : v = 0
        · rw [if_pos (ev.mpr a2)]
          by_cases a3 : w = 0
          · rw [if_pos (ew.mpr a3)]
            exact km_curve100_i hi hp hj hq hk hr t72 1 hwd ⟨fun h => absurd h (by decide), fun h => absurd ⟨a1, a2, a3⟩ h⟩
          · rw [if_neg (fun z => a3 (ew.mp z))]
            exact km_curve100_i hi hp hj hq hk hr t72 0 hwd ⟨fun _ h => a3 h.2.2, fun _ => rfl⟩
        · rw [if_neg (fun z => a2 (ev.mp z))]
          exact km_curve100_i hi hp hj hq hk hr t72 0 hwd ⟨fun _ h => a2 h.2.1, fun _ => rfl⟩
      · rw [if_neg (fun z => a1 (eu.mp z))]
        exact km_curve100_i hi hp hj hq hk hr t72 0 hwd ⟨fun _ h => a1 h.1, fun _ => rfl⟩
    have key : ∀ t72 : Int32, (t72 = 0 ↔ (i = j ∧ j = k)) →
        ((u + v + w = 0 ∧ (if i = j ∧ j = k ∧ p = q ∧ q = r then i = 0 ∧ p = 0 else (u = 0 ∧ v = 0 ∧ w = 0) ∧ (if i = j ∧ j = k then mt_zr p q r else mt_zr i j k))) ∨ (u + v + w ≠ 0 ∧ mt_tri u v w ∧ v * v = 4 * (u * w)) → ∃ fi' se' : Nat → Int64, km_curve_j72 tc tn fi se (Int64.ofInt i) (Int64.ofInt p) (Int64.ofInt j) (Int64.ofInt q) (Int64.ofInt k) (Int64.ofInt r) (Int64.ofInt u) (Int64.ofInt v) (Int64.ofInt w) t72 = km_curve_j255 tn (Int64.ofInt i) (Int64.ofInt p) (Int64.ofInt j) (Int64.ofInt q) (Int64.ofInt k) (Int64.ofInt r) fi' se' 1) ∧
        (¬ ((u + v + w = 0 ∧ (if i = j ∧ j = k ∧ p = q ∧ q = r then i = 0 ∧ p = 0 else (u = 0 ∧ v = 0 ∧ w = 0) ∧ (if i = j ∧ j = k then mt_zr p q r else mt_zr i j k))) ∨ (u + v + w ≠ 0 ∧ mt_tri u v w ∧ v * v = 4 * (u * w))) → ∃ fi' se' : Nat → Int64, km_curve_j72 tc tn fi se (Int64.ofInt i) (Int64.ofInt p) (Int64.ofInt j) (Int64.ofInt q) (Int64.ofInt k) (Int64.ofInt r) (Int64.ofInt u) (Int64.ofInt v) (Int64.ofInt w) t72 = km_curve_j255 tn (Int64.ofInt i) (Int64.ofInt p) (Int64.ofInt j) (Int64.ofInt q) (Int64.ofInt k) (Int64.ofInt r) fi' se' tc) := by
      intro t72 hwd
      have h := j72 t72 hwd
      constructor
      · rintro (⟨_, z⟩ | ⟨z, _⟩)
        · exact ⟨fi, se, h.1 z⟩
        · exact absurd hs z
      · intro z
        exact ⟨fi, se, h.2 (fun y => z (Or.inl ⟨hs, y⟩))⟩
    by_cases a1 : i = j
    · rw [if_pos (eij.mpr a1)]
      by_cases a2 : j = k
      · rw [if_pos (ejk.mpr a2)]
        exact key 0 ⟨fun _ => ⟨a1, a2⟩, fun _ => rfl⟩
      · rw [if_neg (fun z => a2 (ejk.mp z))]
        exact key 1 ⟨fun h => absurd h (by decide), fun h => absurd h.2 a2⟩
    · rw [if_neg (fun z => a1 (eij.mp z))]
      exact key 1 ⟨fun h => absurd h (by decide), fun h => absurd h.1 a1⟩
  · have hsb := sg_b (u + v + w)
    rw [if_neg (fun z => hs (es.mp z)), km_sign_i (by omega), iI_l (by omega), ← Int64.ofInt_mul, ← Int64.ofInt_mul, ← Int64.ofInt_mul]
    have q1 := mt_bd (a := mt_sg (u + v + w)) (b := u) (A := 1) (B := 12800000000) (by omega) (by omega)
    have q2 := mt_bd (a := mt_sg (u + v + w)) (b := v) (A := 1) (B := 12800000000) (by omega) (by omega)
    have q3 := mt_bd (a := mt_sg (u + v + w)) (b := w) (A := 1) (B := 12800000000) (by omega) (by omega)
    have l1 := lc_lt (Int64.ofInt (mt_sg (u + v + w) * u)) 0
    have l2 := lc_lt (Int64.ofInt (mt_sg (u + v + w) * v)) 0
    have l3 := lc_lt (Int64.ofInt (mt_sg (u + v + w) * w)) 0
    rw [iL_t (by omega), z0] at l1 l2 l3
    have ht := tri_i hs
    have hno : ¬ mt_tri u v w → ¬ ((u + v + w = 0 ∧ (if i = j ∧ j = k ∧ p = q ∧ q = r then i = 0 ∧ p = 0 else (u = 0 ∧ v = 0 ∧ w = 0) ∧ (if i = j ∧ j = k then mt_zr p q r else mt_zr i j k))) ∨ (u + v + w ≠ 0 ∧ mt_tri u v w ∧ v * v = 4 * (u * w))) := by
      rintro h (⟨z, _⟩ | ⟨_, z, _⟩)
      · exact hs z
      · exact h z
    by_cases t1 : mt_sg (u + v + w) * u < 0
    · rw [if_pos (l1.mpr t1)]
      have hn := hno (fun z => (ht.mp z).1 t1)
      exact ⟨fun h => absurd h hn, fun _ => ⟨fi, se, rfl⟩⟩
    rw [if_neg (fun z => t1 (l1.mp z))]
    by_cases t2 : mt_sg (u + v + w) * v < 0
    · rw [if_pos (l2.mpr t2)]
      have hn := hno (fun z => (ht.mp z).2.1 t2)
      exact ⟨fun h => absurd h hn, fun _ => ⟨fi, se, rfl⟩⟩
    rw [if_neg (fun z => t2 (l2.mp z))]
    by_cases t3 : mt_sg (u + v + w) * w < 0
    · rw [if_pos (l3.mpr t3)]
      have hn := hno (fun z => (ht.mp z).2.2 t3)
      exact ⟨fun h => absurd h hn, fun _ => ⟨fi, se, rfl⟩⟩
    rw [if_neg (fun z => t3 (l3.mp z))]
    have hT : mt_tri u v w := ht.mpr ⟨t1, t2, t3⟩
    have hthr := km_thr_i (fi := fi) (se := se) (u := mt_sg (u + v + w) * u) (v := mt_sg (u + v + w) * v) (w := mt_sg (u + v + w) * w) (by omega) (by omega) (by omega)
    have heq : mt_sg (u + v + w) * v * (mt_sg (u + v + w) * v) = 4 * (mt_sg (u + v + w) * u * (mt_sg (u + v + w) * w)) ↔ v * v = 4 * (u * w) := by
      rcases mt_sg_c (u + v + w) with ⟨_, e⟩ | ⟨z, _⟩ | ⟨_, e⟩
      · rw [e, show -1 * v * (-1 * v) = v * v by grind, show -1 * u * (-1 * w) = u * w by grind]
      · exact absurd z hs
      · rw [e, Int.one_mul, Int.one_mul, Int.one_mul]
    unfold km_curve_k247
    generalize km_thr fi se (Int64.ofInt (mt_sg (u + v + w) * u)) (Int64.ofInt (mt_sg (u + v + w) * v)) (Int64.ofInt (mt_sg (u + v + w) * w)) = X at hthr ⊢
    rw [hthr]
    by_cases c : v * v = 4 * (u * w)
    · rw [if_pos (heq.mpr c), if_neg (show ¬ (1 : Int32) = 0 by decide)]
      exact ⟨fun _ => ⟨_, _, rfl⟩, fun h => absurd (Or.inr ⟨hs, hT, c⟩) h⟩
    · rw [if_neg (fun z => c (heq.mp z)), if_pos rfl]
      refine ⟨fun h => ?_, fun _ => ⟨_, _, rfl⟩⟩
      rcases h with ⟨z, _⟩ | ⟨_, _, z⟩
      · exact absurd z hs
      · exact absurd z c
theorem km_curve_i {fi se : Nat → Int64} {tc tn : Int32} {i p j q k r : Int} (hi : -80000 ≤ i ∧ i ≤ 80000) (hp : -80000 ≤ p ∧ p ≤ 80000) (hj : -80000 ≤ j ∧ j ≤ 80000) (hq : -80000 ≤ q ∧ q ≤ 80000) (hk : -80000 ≤ k ∧ k ≤ 80000) (hr : -80000 ≤ r ∧ r ≤ 80000) :
    (tc = 1 → (km_curve tc tn fi se (Int64.ofInt i) (Int64.ofInt p) (Int64.ofInt j) (Int64.ofInt q) (Int64.ofInt k) (Int64.ofInt r)).1 = 1) ∧ (mt_touch i p j q k r → (km_curve tc tn fi se (Int64.ofInt i) (Int64.ofInt p) (Int64.ofInt j) (Int64.ofInt q) (Int64.ofInt k) (Int64.ofInt r)).1 = 1) ∧
    (¬ mt_touch i p j q k r → tc = 0 → (km_curve tc tn fi se (Int64.ofInt i) (Int64.ofInt p) (Int64.ofInt j) (Int64.ofInt q) (Int64.ofInt k) (Int64.ofInt r)).1 = 0 ∧ (km_curve tc tn fi se (Int64.ofInt i) (Int64.ofInt p) (Int64.ofInt j) (Int64.ofInt q) (Int64.ofInt k) (Int64.ofInt r)).2.1 = tn + Int32.ofInt (mt_kb (j * r - k * q) (k * p - i * r) (i * q - j * p) i p k r)) := by
  have h1 : ∀ fi se : Nat → Int64, (km_curve_j255 tn (Int64.ofInt i) (Int64.ofInt p) (Int64.ofInt j) (Int64.ofInt q) (Int64.ofInt k) (Int64.ofInt r) fi se 1).1 = 1 := fun fi se => by
    unfold km_curve_j255
    rw [if_neg (by decide)]
  obtain ⟨t1, t2⟩ := km_curve_t (fi := fi) (se := se) (tc := tc) (tn := tn) hi hp hj hq hk hr
  have hiff := mt_touch_iff i p j q k r
  by_cases hT : mt_touch i p j q k r
  · obtain ⟨f', s', e⟩ := t1 (hiff.mpr hT)
    rw [e]
    exact ⟨fun _ => h1 _ _, fun _ => h1 _ _, fun h => absurd hT h⟩
  · obtain ⟨f', s', e⟩ := t2 (fun z => hT (hiff.mp z))
    rw [e]
    refine ⟨fun h => by rw [h]; exact h1 _ _, fun h => absurd h hT, fun _ h0 => ?_⟩
    obtain ⟨m1, m2⟩ := mt_main (i := i) (p := p) (j := j) (q := q) (k := k) (r := r) rfl rfl rfl hT
    rw [h0, ← m2]
    exact km_curve255_i hi hp hj hq hk hr m1
end
section
-- sums and "some" over indices, turned round
def sm (f : Nat → Int) : Nat → Int
  | 0 => 0
  | k + 1 => sm f k + f k
theorem sm_congr {f g : Nat → Int} : ∀ n : Nat, (∀ k, k < n → f k = g k) → sm f n = sm g n
  | 0, _ => rfl
  | n + 1, h => by rw [sm, sm, sm_congr n (fun k hk => h k (by omega)), h n (by omega)]
theorem sm_split (f : Nat → Int) (a : Nat) : ∀ b : Nat, sm f (a + b) = sm f a + sm (fun k => f (a + k)) b
  | 0 => by simp [sm]
  | b + 1 => by rw [← Nat.add_assoc, sm, sm, sm_split f a b]; omega
theorem sm_rot (f : Nat → Int) {s n : Nat} (hs : s ≤ n) : sm (fun k => f ((s + k) % n)) n = sm f n := by
  rcases Nat.eq_zero_or_pos n with h | h
  · subst h; rfl
  have e : n = (n - s) + s := by omega
  have h1 : sm (fun k => f ((s + k) % n)) n = sm (fun k => f ((s + k) % n)) ((n - s) + s) := by rw [← e]
  rw [h1, sm_split]
  have h2 : sm (fun k => f ((s + k) % n)) (n - s) = sm (fun k => f (s + k)) (n - s) := sm_congr _ (fun k hk => by
    show f ((s + k) % n) = f (s + k)
    rw [Nat.mod_eq_of_lt (by omega)])
  have h3 : sm (fun k => (fun k => f ((s + k) % n)) (n - s + k)) s = sm f s := sm_congr _ (fun k hk => by
    show f ((s + (n - s + k)) % n) = f k
    rw [show s + (n - s + k) = n + k by omega, Nat.add_mod_left, Nat.mod_eq_of_lt (by omega)])
  rw [h2, h3]
  have h4 : sm f n = sm f (s + (n - s)) := by rw [show s + (n - s) = n by omega]
  rw [h4, sm_split]
  omega
theorem sm_add2 (f g : Nat → Int) : ∀ n : Nat, sm (fun k => f k + g k) n = sm f n + sm g n
  | 0 => rfl
  | n + 1 => by rw [sm, sm, sm, sm_add2 f g n]; omega
theorem ex_rot (f : Nat → Prop) {s n : Nat} (hs : s ≤ n) : (∃ k, k < n ∧ f ((s + k) % n)) ↔ ∃ k, k < n ∧ f k := by
  constructor
  · rintro ⟨k, hk, h⟩
    exact ⟨_, Nat.mod_lt _ (by omega), h⟩
  · rintro ⟨k, hk, h⟩
    by_cases c : s ≤ k
    · refine ⟨k - s, by omega, ?_⟩
      rw [show s + (k - s) = k by omega, Nat.mod_eq_of_lt hk]; exact h
    · refine ⟨n - s + k, by omega, ?_⟩
      rw [show s + (n - s + k) = n + k by omega, Nat.add_mod_left, Nat.mod_eq_of_lt hk]; exact h
end
section
-- indices of contours
def arng (fr to : Int32) : Prop := ∃ A B : Nat, A < B ∧ B ≤ 256 ∧ fr = nI A ∧ to = nI B
theorem nI_nle_lt {a b : Nat} (ha : a < 2 ^ 31) (h : ¬ nI b ≤ nI a) : a < b := Nat.lt_of_not_le (fun z => h (nI_le z ha))
theorem ar_idx {A B s kk : Nat} (h1 : A ≤ s) (h2 : s < B) (h3 : B ≤ 256) (h4 : kk ≤ 300) : nI A + ((nI s - nI A + nI kk) - (nI s - nI A + nI kk) / (nI B - nI A) * (nI B - nI A)) = nI (A + (s - A + kk) % (B - A)) := by
  rw [pk_sub h1, pk_sub (show A ≤ B by omega), nI_add, pk_rem (by omega) (by omega) (by omega), nI_add]
theorem ar_lt {A B s kk : Nat} (h2 : A < B) : A + (s - A + kk) % (B - A) < B := by
  have := Nat.mod_lt (s - A + kk) (show 0 < B - A by omega)
  omega
/-- the contours' ends: e c is where contour c begins; P points in all -/
def mok (cn pn : Int32) (en : Nat → Int32) : Prop := ∃ (C P : Nat) (e : Nat → Nat), cn = nI C ∧ pn = nI P ∧ P ≤ 256 ∧ e 0 = 0 ∧ e C ≤ P ∧ ∀ c, c < C → e c < e (c + 1) ∧ en c = nI (e (c + 1))
theorem mok_mono {C : Nat} {e : Nat → Nat} (h : ∀ c, c < C → e c < e (c + 1)) : ∀ d c : Nat, c + d ≤ C → e c + d ≤ e (c + d)
  | 0, c, _ => Nat.le_refl _
  | d + 1, c, hc => by
    have h1 := mok_mono h d c (by omega)
    have h2 := h (c + d) (by omega)
    show e c + (d + 1) ≤ e (c + d + 1)
    omega
theorem mok_C {C : Nat} {e : Nat → Nat} (h0 : e 0 = 0) (h : ∀ c, c < C → e c < e (c + 1)) : C ≤ e C := by
  have := mok_mono h C 0 (by omega)
  rw [Nat.zero_add] at this
  omega
end
section
def km_around_j467 (k : Int32) (kL217 : (Int32) → (Int64) → (Int64) → (Int32) → (Int32) → (Nat → Int64) → (Nat → Int64) → Int32 × Int32 × (Nat → Int64) × (Nat → Int64)) (t371_0 : Int64) (t413_0 : Int64) (x444 : Int32 × Int32 × (Nat → Int64) × (Nat → Int64)) (t467_0 : Int32) : Int32 × Int32 × (Nat → Int64) × (Nat → Int64) := (kL217 (k + t467_0) t371_0 t413_0 x444.1 x444.2.1 x444.2.2.1 x444.2.2.2)
def km_around_k447 (on : Nat → Int32) (k : Int32) (kL217 : (Int32) → (Int64) → (Int64) → (Int32) → (Int32) → (Nat → Int64) → (Nat → Int64) → Int32 × Int32 × (Nat → Int64) × (Nat → Int64)) (v322_l19 : Int32) (t371_0 : Int64) (t413_0 : Int64) (x444 : Int32 × Int32 × (Nat → Int64) × (Nat → Int64)) : Int32 × Int32 × (Nat → Int64) × (Nat → Int64) := (if (on (Int32.toNatClampNeg v322_l19)) = 0 then (km_around_j467 k kL217 t371_0 t413_0 x444 1) else (km_around_j467 k kL217 t371_0 t413_0 x444 2))
def km_around_j413 (px : Nat → Int64) (py : Nat → Int64) (on : Nat → Int32) (x : Int64) (y : Int64) (k : Int32) (ax : Int64) (ay : Int64) (c1 : Int32) (n1 : Int32) (f1 : Nat → Int64) (s1 : Nat → Int64) (kL217 : (Int32) → (Int64) → (Int64) → (Int32) → (Int32) → (Nat → Int64) → (Nat → Int64) → Int32 × Int32 × (Nat → Int64) × (Nat → Int64)) (v238_l18 : Int32) (v322_l19 : Int32) (t371_0 : Int64) (t413_0 : Int64) : Int32 × Int32 × (Nat → Int64) × (Nat → Int64) := (km_around_k447 on k kL217 v322_l19 t371_0 t413_0 (km_curve c1 n1 f1 s1 ax ay ((px (Int32.toNatClampNeg v238_l18)) - x) ((py (Int32.toNatClampNeg v238_l18)) - y) t371_0 t413_0))
def km_around_j371 (px : Nat → Int64) (py : Nat → Int64) (on : Nat → Int32) (x : Int64) (y : Int64) (k : Int32) (ax : Int64) (ay : Int64) (c1 : Int32) (n1 : Int32) (f1 : Nat → Int64) (s1 : Nat → Int64) (kL217 : (Int32) → (Int64) → (Int64) → (Int32) → (Int32) → (Nat → Int64) → (Nat → Int64) → Int32 × Int32 × (Nat → Int64) × (Nat → Int64)) (v238_l18 : Int32) (v322_l19 : Int32) (t371_0 : Int64) : Int32 × Int32 × (Nat → Int64) × (Nat → Int64) := (if (on (Int32.toNatClampNeg v322_l19)) = 0 then (km_around_j413 px py on x y k ax ay c1 n1 f1 s1 kL217 v238_l18 v322_l19 t371_0 ((((py (Int32.toNatClampNeg v238_l18)) + (py (Int32.toNatClampNeg v322_l19))) / 2) - y)) else (km_around_j413 px py on x y k ax ay c1 n1 f1 s1 kL217 v238_l18 v322_l19 t371_0 ((py (Int32.toNatClampNeg v322_l19)) - y)))
def km_around_k322 (px : Nat → Int64) (py : Nat → Int64) (on : Nat → Int32) (x : Int64) (y : Int64) (k : Int32) (ax : Int64) (ay : Int64) (c1 : Int32) (n1 : Int32) (f1 : Nat → Int64) (s1 : Nat → Int64) (kL217 : (Int32) → (Int64) → (Int64) → (Int32) → (Int32) → (Nat → Int64) → (Nat → Int64) → Int32 × Int32 × (Nat → Int64) × (Nat → Int64)) (v238_l18 : Int32) (v322_l19 : Int32) : Int32 × Int32 × (Nat → Int64) × (Nat → Int64) := (if (on (Int32.toNatClampNeg v322_l19)) = 0 then (km_around_j371 px py on x y k ax ay c1 n1 f1 s1 kL217 v238_l18 v322_l19 ((((px (Int32.toNatClampNeg v238_l18)) + (px (Int32.toNatClampNeg v322_l19))) / 2) - x)) else (km_around_j371 px py on x y k ax ay c1 n1 f1 s1 kL217 v238_l18 v322_l19 ((px (Int32.toNatClampNeg v322_l19)) - x)))
def km_around_k276 (px : Nat → Int64) (py : Nat → Int64) (x : Int64) (y : Int64) (k : Int32) (f1 : Nat → Int64) (s1 : Nat → Int64) (kL217 : (Int32) → (Int64) → (Int64) → (Int32) → (Int32) → (Nat → Int64) → (Nat → Int64) → Int32 × Int32 × (Nat → Int64) × (Nat → Int64)) (v238_l18 : Int32) (x273 : Int32 × Int32) : Int32 × Int32 × (Nat → Int64) × (Nat → Int64) := (kL217 (k + 1) ((px (Int32.toNatClampNeg v238_l18)) - x) ((py (Int32.toNatClampNeg v238_l18)) - y) x273.1 x273.2 f1 s1)
def km_around_k238 (px : Nat → Int64) (py : Nat → Int64) (on : Nat → Int32) (fr : Int32) (to : Int32) (x : Int64) (y : Int64) (t87_0 : Int32) (k : Int32) (ax : Int64) (ay : Int64) (c1 : Int32) (n1 : Int32) (f1 : Nat → Int64) (s1 : Nat → Int64) (kL217 : (Int32) → (Int64) → (Int64) → (Int32) → (Int32) → (Nat → Int64) → (Nat → Int64) → Int32 × Int32 × (Nat → Int64) × (Nat → Int64)) (v238_l18 : Int32) : Int32 × Int32 × (Nat → Int64) × (Nat → Int64) := (if (on (Int32.toNatClampNeg v238_l18)) = 0 then (km_around_k322 px py on x y k ax ay c1 n1 f1 s1 kL217 v238_l18 (fr + ((((t87_0 - fr) + k) + 1) - (((t87_0 - fr) + k) + 1) / (to - fr) * (to - fr)))) else (km_around_k276 px py x y k f1 s1 kL217 v238_l18 (km_line c1 n1 ax ay ((px (Int32.toNatClampNeg v238_l18)) - x) ((py (Int32.toNatClampNeg v238_l18)) - y))))
def km_around_L217 (px : Nat → Int64) (py : Nat → Int64) (on : Nat → Int32) (fr : Int32) (to : Int32) (x : Int64) (y : Int64) (t87_0 : Int32) (t215_0 : Int32) : Nat → (Int32) → (Int64) → (Int64) → (Int32) → (Int32) → (Nat → Int64) → (Nat → Int64) → Int32 × Int32 × (Nat → Int64) × (Nat → Int64)
  | 0, _, _, _, _, _, _, _ => (0, 0, fun _ => 0, fun _ => 0)
  | n+1, k, ax, ay, c1, n1, f1, s1 => (if t215_0 ≤ k then (c1, n1, f1, s1) else (km_around_k238 px py on fr to x y t87_0 k ax ay c1 n1 f1 s1 (km_around_L217 px py on fr to x y t87_0 t215_0 n) (fr + (((t87_0 - fr) + k) - ((t87_0 - fr) + k) / (to - fr) * (to - fr)))))
def km_around_j215 (px : Nat → Int64) (py : Nat → Int64) (on : Nat → Int32) (tc : Int32) (tn : Int32) (fi : Nat → Int64) (se : Nat → Int64) (fr : Int32) (to : Int32) (x : Int64) (y : Int64) (t87_0 : Int32) (t145_0 : Int64) (t187_0 : Int64) (t199_0 : Int32) (t215_0 : Int32) : Int32 × Int32 × (Nat → Int64) × (Nat → Int64) := (km_around_L217 px py on fr to x y t87_0 t215_0 301 t199_0 t145_0 t187_0 tc tn fi se)
def km_around_j199 (px : Nat → Int64) (py : Nat → Int64) (on : Nat → Int32) (tc : Int32) (tn : Int32) (fi : Nat → Int64) (se : Nat → Int64) (fr : Int32) (to : Int32) (x : Int64) (y : Int64) (t77_0 : Int32) (t87_0 : Int32) (t145_0 : Int64) (t187_0 : Int64) (t199_0 : Int32) : Int32 × Int32 × (Nat → Int64) × (Nat → Int64) := (if t77_0 = 0 then (km_around_j215 px py on tc tn fi se fr to x y t87_0 t145_0 t187_0 t199_0 ((to - fr) + 1)) else (km_around_j215 px py on tc tn fi se fr to x y t87_0 t145_0 t187_0 t199_0 (to - fr)))
def km_around_j187 (px : Nat → Int64) (py : Nat → Int64) (on : Nat → Int32) (tc : Int32) (tn : Int32) (fi : Nat → Int64) (se : Nat → Int64) (fr : Int32) (to : Int32) (x : Int64) (y : Int64) (t77_0 : Int32) (t87_0 : Int32) (t145_0 : Int64) (t187_0 : Int64) : Int32 × Int32 × (Nat → Int64) × (Nat → Int64) := (if t77_0 = 0 then (km_around_j199 px py on tc tn fi se fr to x y t77_0 t87_0 t145_0 t187_0 1) else (km_around_j199 px py on tc tn fi se fr to x y t77_0 t87_0 t145_0 t187_0 0))
def km_around_j145 (px : Nat → Int64) (py : Nat → Int64) (on : Nat → Int32) (tc : Int32) (tn : Int32) (fi : Nat → Int64) (se : Nat → Int64) (fr : Int32) (to : Int32) (x : Int64) (y : Int64) (t77_0 : Int32) (t87_0 : Int32) (t103_0 : Int32) (t145_0 : Int64) : Int32 × Int32 × (Nat → Int64) × (Nat → Int64) := (if t77_0 = 0 then (km_around_j187 px py on tc tn fi se fr to x y t77_0 t87_0 t145_0 ((py (Int32.toNatClampNeg t87_0)) - y)) else (km_around_j187 px py on tc tn fi se fr to x y t77_0 t87_0 t145_0 ((((py (Int32.toNatClampNeg t103_0)) + (py (Int32.toNatClampNeg t87_0))) / 2) - y)))
def km_around_j103 (px : Nat → Int64) (py : Nat → Int64) (on : Nat → Int32) (tc : Int32) (tn : Int32) (fi : Nat → Int64) (se : Nat → Int64) (fr : Int32) (to : Int32) (x : Int64) (y : Int64) (t77_0 : Int32) (t87_0 : Int32) (t103_0 : Int32) : Int32 × Int32 × (Nat → Int64) × (Nat → Int64) := (if t77_0 = 0 then (km_around_j145 px py on tc tn fi se fr to x y t77_0 t87_0 t103_0 ((px (Int32.toNatClampNeg t87_0)) - x)) else (km_around_j145 px py on tc tn fi se fr to x y t77_0 t87_0 t103_0 ((((px (Int32.toNatClampNeg t103_0)) + (px (Int32.toNatClampNeg t87_0))) / 2) - x)))
def km_around_j87 (px : Nat → Int64) (py : Nat → Int64) (on : Nat → Int32) (tc : Int32) (tn : Int32) (fi : Nat → Int64) (se : Nat → Int64) (fr : Int32) (to : Int32) (x : Int64) (y : Int64) (t77_0 : Int32) (t87_0 : Int32) : Int32 × Int32 × (Nat → Int64) × (Nat → Int64) := (if t87_0 = fr then (km_around_j103 px py on tc tn fi se fr to x y t77_0 t87_0 (to - 1)) else (km_around_j103 px py on tc tn fi se fr to x y t77_0 t87_0 (t87_0 - 1)))
def km_around_j77 (px : Nat → Int64) (py : Nat → Int64) (on : Nat → Int32) (tc : Int32) (tn : Int32) (fi : Nat → Int64) (se : Nat → Int64) (fr : Int32) (to : Int32) (x : Int64) (y : Int64) (st : Int32) (t77_0 : Int32) : Int32 × Int32 × (Nat → Int64) × (Nat → Int64) := (if t77_0 = 0 then (km_around_j87 px py on tc tn fi se fr to x y t77_0 st) else (km_around_j87 px py on tc tn fi se fr to x y t77_0 fr))
def km_around_j66 (px : Nat → Int64) (py : Nat → Int64) (on : Nat → Int32) (tc : Int32) (tn : Int32) (fi : Nat → Int64) (se : Nat → Int64) (fr : Int32) (to : Int32) (x : Int64) (y : Int64) (st : Int32) : Int32 × Int32 × (Nat → Int64) × (Nat → Int64) := (if st = to then (km_around_j77 px py on tc tn fi se fr to x y st 1) else (km_around_j77 px py on tc tn fi se fr to x y st 0))
def km_around_L44 (px : Nat → Int64) (py : Nat → Int64) (on : Nat → Int32) (tc : Int32) (tn : Int32) (fi : Nat → Int64) (se : Nat → Int64) (fr : Int32) (to : Int32) (x : Int64) (y : Int64) : Nat → (Int32) → Int32 × Int32 × (Nat → Int64) × (Nat → Int64)
  | 0, _ => (0, 0, fun _ => 0, fun _ => 0)
  | n+1, st => (if to ≤ st then (km_around_j66 px py on tc tn fi se fr to x y st) else (if (on (Int32.toNatClampNeg st)) = 0 then ((km_around_L44 px py on tc tn fi se fr to x y n) (st + 1)) else (km_around_j66 px py on tc tn fi se fr to x y st)))
def km_around_j40 (tn : Int32) (fi : Nat → Int64) (se : Nat → Int64) (t40_0 : Int32) : Int32 × Int32 × (Nat → Int64) × (Nat → Int64) := (t40_0, tn, fi, se)
def km_around (px : Nat → Int64) (py : Nat → Int64) (on : Nat → Int32) (tc : Int32) (tn : Int32) (fi : Nat → Int64) (se : Nat → Int64) (bs : Int32) (fr : Int32) (to : Int32) (x : Int64) (y : Int64) : Int32 × Int32 × (Nat → Int64) × (Nat → Int64) := (if (to - fr) = 1 then (if (lg_cmp (px (Int32.toNatClampNeg fr)) x) = 0 then (if (lg_cmp (py (Int32.toNatClampNeg fr)) y) = 0 then (km_around_j40 tn fi se 1) else (km_around_j40 tn fi se tc)) else (km_around_j40 tn fi se tc)) else (km_around_L44 px py on tc tn fi se fr to x y 257 fr))
set_option maxHeartbeats 4000000 in
set_option maxRecDepth 100000 in
theorem c_km_around (l : Launch) (dC : Nat → ClassId) (dI : Nat → Nat → Nat) (h0 : Nat) (apx : Nat) (apy : Nat) (aon : Nat) (aen : Nat) (afi : Nat) (ase : Nat) (cJ : ClassId) (cZ : ClassId) (cI : ClassId) (wd : Int32) (cn : Int32) (pn : Int32) (en : Nat → Int32) (px : Nat → Int64) (py : Nat → Int64) (on : Nat → Int32) (tc : Int32) (tn : Int32) (fi : Nat → Int64) (se : Nat → Int64) (bs : Int32) (fr : Int32) (to : Int32) (x : Int64) (y : Int64) (hrg : arng fr to) : mc_v l y_M_around w_M_around { frames := 6, cells := 0, slots := 0, locals := 209 } (dC, dI) cls9 [(h0, .inr (2, [.int wd, .ref apx, .ref apy, .ref aon, .ref aen, .int cn, .int pn, .int tc, .int tn, .ref afi, .ref ase])), (apx, .inl (cJ, 256, .inr (.inl px))), (apy, .inl (cJ, 256, .inr (.inl py))), (aon, .inl (cZ, 256, .inl on)), (aen, .inl (cI, 256, .inl en)), (afi, .inl (cJ, 6, .inr (.inl fi))), (ase, .inl (cJ, 6, .inr (.inl se)))] [(h0, .inr (2, [.int wd, .ref apx, .ref apy, .ref aon, .ref aen, .int cn, .int pn, .int ((km_around px py on tc tn fi se bs fr to x y).1), .int ((km_around px py on tc tn fi se bs fr to x y).2.1), .ref afi, .ref ase])), (apx, .inl (cJ, 256, .inr (.inl px))), (apy, .inl (cJ, 256, .inr (.inl py))), (aon, .inl (cZ, 256, .inl on)), (aen, .inl (cI, 256, .inl en)), (afi, .inl (cJ, 6, .inr (.inl ((km_around px py on tc tn fi se bs fr to x y).2.2.1)))), (ase, .inl (cJ, 6, .inr (.inl ((km_around px py on tc tn fi se bs fr to x y).2.2.2))))] [(cJ, .long), (cZ, .boolean), (cI, .int)] [.ref h0, .int bs, .int fr, .int to, .long x, .long y] := by
  intro sz
  refine Met.ofW (cc := b_M_around) (maxL := 25) (ret := none) (by decide) rfl ?_
  intro p e s m args below meth c s₁ B hml hv
  obtain ⟨hargs, hsz, hP, hK, hD0⟩ := hv
  have hx := B.exec
  have hb := B.bytes
  have hr := B.returns
  have hts : ∀ w ∈ lw_w, w.before args s = true := fun w h => atoms_spec (ws := w_M_around) B.pre w (List.mem_cons_of_mem _ h)
  have hown : s.vm.findClass R_M = some m.cls := findClass_of_methodNamed B.named
  have hlocks := B.notSynchronized
  subst hsz
  have hD := hD0.self (sz := s.heap.size)
  generalize hR : (headSpec w_M_around { frames := 6, cells := 0, slots := 0, locals := 209 }).room = R
  generalize hAe : va_A [(h0, .inr (2, [.int wd, .ref apx, .ref apy, .ref aon, .ref aen, .int cn, .int pn, .int tc, .int tn, .ref afi, .ref ase])), (apx, .inl (cJ, 256, .inr (.inl px))), (apy, .inl (cJ, 256, .inr (.inl py))), (aon, .inl (cZ, 256, .inl on)), (aen, .inl (cI, 256, .inl en)), (afi, .inl (cJ, 6, .inr (.inl fi))), (ase, .inl (cJ, 6, .inr (.inl se)))] s.heap.size = A at hD ⊢
  have hA : ∀ q : Nat, s.heap.size ≤ q → A q := fun q h => by rw [← hAe]; exact Or.inr h
  have hS : va_S A s.heap s.heap [] := va_S.rf
  generalize hRES : km_around px py on tc tn fi se bs fr to x y = RES
  have hres := hRES
  have hl := lv_entry [.ref h0, .int bs, .int fr, .int to, .long x, .long y] (n := 25) (Nat.le_of_ble_eq_true rfl)
  have hent : entryFrame m args 25 = F0 m 0 (lg_sl [.ref h0, .int bs, .int fr, .int to, .long x, .long y] ++ List.replicate (25 - (lg_sl [.ref h0, .int bs, .int fr, .int to, .long x, .long y]).length) Slot.unset).toArray [] := by rw [hargs]; exact lg_entry_eq m [.ref h0, .int bs, .int fr, .int to, .long x, .long y] 25
  rw [hent]
  clear hent
  generalize (lg_sl [.ref h0, .int bs, .int fr, .int to, .long x, .long y] ++ List.replicate (25 - (lg_sl [.ref h0, .int bs, .int fr, .int to, .long x, .long y]).length) Slot.unset).toArray = ls at hl ⊢
  have hl : lv_has ls 25 [(0, .ref h0), (1, .int bs), (2, .int fr), (3, .int to), (4, .long x), (6, .long y)] := hl
  have hP : va_P (dC, dI) cls9 [(h0, .inr (2, [.int wd, .ref apx, .ref apy, .ref aon, .ref aen, .int cn, .int pn, .int tc, .int tn, .ref afi, .ref ase])), (apx, .inl (cJ, 256, .inr (.inl px))), (apy, .inl (cJ, 256, .inr (.inl py))), (aon, .inl (cZ, 256, .inl on)), (aen, .inl (cI, 256, .inl en)), (afi, .inl (cJ, 6, .inr (.inl fi))), (ase, .inl (cJ, 6, .inr (.inl se)))] s.heap := hP
  have hD : va_D A [(h0, .inr (2, [.int wd, .ref apx, .ref apy, .ref aon, .ref aen, .int cn, .int pn, .int tc, .int tn, .ref afi, .ref ase])), (apx, .inl (cJ, 256, .inr (.inl px))), (apy, .inl (cJ, 256, .inr (.inl py))), (aon, .inl (cZ, 256, .inl on)), (aen, .inl (cI, 256, .inl en)), (afi, .inl (cJ, 6, .inr (.inl fi))), (ase, .inl (cJ, 6, .inr (.inl se)))] := hD
  clear hD0 hRES hAe
  unfold km_around at hres
  obtain ⟨A9, B9, hAB, hB, eA, eB⟩ := hrg
  generalize hQ : MQ below (va_Qv (fun (_ : Unit) => True) (fun _ t => va_P (dC, dI) cls9 [(h0, .inr (2, [.int wd, .ref apx, .ref apy, .ref aon, .ref aen, .int cn, .int pn, .int RES.1, .int RES.2.1, .ref afi, .ref ase])), (apx, .inl (cJ, 256, .inr (.inl px))), (apy, .inl (cJ, 256, .inr (.inl py))), (aon, .inl (cZ, 256, .inl on)), (aen, .inl (cI, 256, .inl en)), (afi, .inl (cJ, 6, .inr (.inl RES.2.2.1))), (ase, .inl (cJ, 6, .inr (.inl RES.2.2.2)))] t.heap ∧ va_K (dC, dI) cls9 [(cJ, .long), (cZ, .boolean), (cI, .int)] t ∧ va_D A [(h0, .inr (2, [.int wd, .ref apx, .ref apy, .ref aon, .ref aen, .int cn, .int pn, .int RES.1, .int RES.2.1, .ref afi, .ref ase])), (apx, .inl (cJ, 256, .inr (.inl px))), (apy, .inl (cJ, 256, .inr (.inl py))), (aon, .inl (cZ, 256, .inl on)), (aen, .inl (cI, 256, .inl en)), (afi, .inl (cJ, 6, .inr (.inl RES.2.2.1))), (ase, .inl (cJ, 6, .inr (.inl RES.2.2.2)))]) A) args s 0 0 A = Q
  replace hQ := hQ.symm
  refine lv_iload_n hx hb d_M_around_0 rfl (lv_at hl 3 rfl) ?_
  refine lv_iload_n hx hb d_M_around_1 rfl (lv_at hl 2 rfl) ?_
  refine lv_isub hx hb d_M_around_2 ?_
  refine lv_istore (lv' := [(8, .int (to - fr)), (0, .ref h0), (1, .int bs), (2, .int fr), (3, .int to), (4, .long x), (6, .long y)]) hx hb d_M_around_3 hl (by decide) rfl (fun ls hl => ?_)
  refine lv_iload hx hb d_M_around_5 (lv_at hl 0 rfl) ?_
  refine lv_iconst (v := 1) hx hb d_M_around_7 (by decide) ?_
  refine lv_icmp_ne (tgt := 41) hx hb d_M_around_8 rfl (fun h8 => ?_) (fun h8 => ?_)
  · rw [if_neg h8] at hres
    refine lv_iload_n hx hb d_M_around_41 rfl (lv_at hl 3 rfl) ?_
    refine lv_istore (lv' := [(9, .int fr), (8, .int (to - fr)), (0, .ref h0), (1, .int bs), (2, .int fr), (3, .int to), (4, .long x), (6, .long y)]) hx hb d_M_around_42 hl (by decide) rfl (fun ls hl => ?_)
    have L44 : ∀ (n : Nat) (st : Int32), (∃ j : Nat, A9 ≤ j ∧ j ≤ B9 ∧ st = nI j) → to.toNatClampNeg - st.toNatClampNeg < n → km_around_L44 px py on tc tn fi se fr to x y n st = RES → ∀ (ls : Array Slot) (H : Heap) (locs : List Loc), lv_has ls 25 [(9, .int st), (8, .int (to - fr)), (0, .ref h0), (2, .int fr), (3, .int to), (4, .long x), (6, .long y)] → va_P (dC, dI) cls9 [(h0, .inr (2, [.int wd, .ref apx, .ref apy, .ref aon, .ref aen, .int cn, .int pn, .int tc, .int tn, .ref afi, .ref ase])), (apx, .inl (cJ, 256, .inr (.inl px))), (apy, .inl (cJ, 256, .inr (.inl py))), (aon, .inl (cZ, 256, .inl on)), (aen, .inl (cI, 256, .inl en)), (afi, .inl (cJ, 6, .inr (.inl fi))), (ase, .inl (cJ, 6, .inr (.inl se)))] H → va_D A [(h0, .inr (2, [.int wd, .ref apx, .ref apy, .ref aon, .ref aen, .int cn, .int pn, .int tc, .int tn, .ref afi, .ref ase])), (apx, .inl (cJ, 256, .inr (.inl px))), (apy, .inl (cJ, 256, .inr (.inl py))), (aon, .inl (cZ, 256, .inl on)), (aen, .inl (cI, 256, .inl en)), (afi, .inl (cJ, 6, .inr (.inl fi))), (ase, .inl (cJ, 6, .inr (.inl se)))] → va_S A s.heap H locs → W p l e R s m args below meth c H locs 0 0 Q (F0 m 44 ls []) := by
      intro n
      induction n with
      | zero => intro st hinv hmu; exact absurd hmu (Nat.not_lt_zero _)
      | succ n ih =>
        intro st hinv hmu hres ls H locs hl hP hD hS
        rw [km_around_L44] at hres
        refine lv_iload hx hb d_M_around_44 (lv_at hl 0 rfl) ?_
        refine lv_iload_n hx hb d_M_around_46 rfl (lv_at hl 4 rfl) ?_
        have J66 : km_around_j66 px py on tc tn fi se fr to x y st = RES → ∀ (ls : Array Slot) (H : Heap) (locs : List Loc), lv_has ls 25 [(9, .int st), (8, .int (to - fr)), (0, .ref h0), (2, .int fr), (3, .int to), (4, .long x), (6, .long y)] → va_P (dC, dI) cls9 [(h0, .inr (2, [.int wd, .ref apx, .ref apy, .ref aon, .ref aen, .int cn, .int pn, .int tc, .int tn, .ref afi, .ref ase])), (apx, .inl (cJ, 256, .inr (.inl px))), (apy, .inl (cJ, 256, .inr (.inl py))), (aon, .inl (cZ, 256, .inl on)), (aen, .inl (cI, 256, .inl en)), (afi, .inl (cJ, 6, .inr (.inl fi))), (ase, .inl (cJ, 6, .inr (.inl se)))] H → va_D A [(h0, .inr (2, [.int wd, .ref apx, .ref apy, .ref aon, .ref aen, .int cn, .int pn, .int tc, .int tn, .ref afi, .ref ase])), (apx, .inl (cJ, 256, .inr (.inl px))), (apy, .inl (cJ, 256, .inr (.inl py))), (aon, .inl (cZ, 256, .inl on)), (aen, .inl (cI, 256, .inl en)), (afi, .inl (cJ, 6, .inr (.inl fi))), (ase, .inl (cJ, 6, .inr (.inl se)))] → va_S A s.heap H locs → W p l e R s m args below meth c H locs 0 0 Q (F0 m 66 ls []) := by
          intro  hres ls H locs hl hP hD hS
          unfold km_around_j66 at hres
          refine lv_iload hx hb d_M_around_66 (lv_at hl 0 rfl) ?_
          refine lv_iload_n hx hb d_M_around_68 rfl (lv_at hl 4 rfl) ?_
          have J77 : ∀ (t77_0 : Int32), (t77_0 = 0 → ¬ st = to) → km_around_j77 px py on tc tn fi se fr to x y st t77_0 = RES → ∀ (ls : Array Slot) (H : Heap) (locs : List Loc), lv_has ls 25 [(9, .int st), (8, .int (to - fr)), (0, .ref h0), (2, .int fr), (3, .int to), (4, .long x), (6, .long y)] → va_P (dC, dI) cls9 [(h0, .inr (2, [.int wd, .ref apx, .ref apy, .ref aon, .ref aen, .int cn, .int pn, .int tc, .int tn, .ref afi, .ref ase])), (apx, .inl (cJ, 256, .inr (.inl px))), (apy, .inl (cJ, 256, .inr (.inl py))), (aon, .inl (cZ, 256, .inl on)), (aen, .inl (cI, 256, .inl en)), (afi, .inl (cJ, 6, .inr (.inl fi))), (ase, .inl (cJ, 6, .inr (.inl se)))] H → va_D A [(h0, .inr (2, [.int wd, .ref apx, .ref apy, .ref aon, .ref aen, .int cn, .int pn, .int tc, .int tn, .ref afi, .ref ase])), (apx, .inl (cJ, 256, .inr (.inl px))), (apy, .inl (cJ, 256, .inr (.inl py))), (aon, .inl (cZ, 256, .inl on)), (aen, .inl (cI, 256, .inl en)), (afi, .inl (cJ, 6, .inr (.inl fi))), (ase, .inl (cJ, 6, .inr (.inl se)))] → va_S A s.heap H locs → W p l e R s m args below meth c H locs 0 0 Q (F0 m 77 ls [.int t77_0]) := by
            intro t77_0 hj77 hres ls H locs hl hP hD hS
            unfold km_around_j77 at hres
            refine lv_istore (lv' := [(10, .int t77_0), (9, .int st), (8, .int (to - fr)), (0, .ref h0), (2, .int fr), (3, .int to), (4, .long x), (6, .long y)]) hx hb d_M_around_77 hl (by decide) rfl (fun ls hl => ?_)
            refine lv_iload hx hb d_M_around_79 (lv_at hl 0 rfl) ?_
            have J87 : ∀ (t87_0 : Int32), (∃ s9 : Nat, A9 ≤ s9 ∧ s9 < B9 ∧ t87_0 = nI s9) → km_around_j87 px py on tc tn fi se fr to x y t77_0 t87_0 = RES → ∀ (ls : Array Slot) (H : Heap) (locs : List Loc), lv_has ls 25 [(10, .int t77_0), (9, .int t87_0), (8, .int (to - fr)), (0, .ref h0), (2, .int fr), (3, .int to), (4, .long x), (6, .long y)] → va_P (dC, dI) cls9 [(h0, .inr (2, [.int wd, .ref apx, .ref apy, .ref aon, .ref aen, .int cn, .int pn, .int tc, .int tn, .ref afi, .ref ase])), (apx, .inl (cJ, 256, .inr (.inl px))), (apy, .inl (cJ, 256, .inr (.inl py))), (aon, .inl (cZ, 256, .inl on)), (aen, .inl (cI, 256, .inl en)), (afi, .inl (cJ, 6, .inr (.inl fi))), (ase, .inl (cJ, 6, .inr (.inl se)))] H → va_D A [(h0, .inr (2, [.int wd, .ref apx, .ref apy, .ref aon, .ref aen, .int cn, .int pn, .int tc, .int tn, .ref afi, .ref ase])), (apx, .inl (cJ, 256, .inr (.inl px))), (apy, .inl (cJ, 256, .inr (.inl py))), (aon, .inl (cZ, 256, .inl on)), (aen, .inl (cI, 256, .inl en)), (afi, .inl (cJ, 6, .inr (.inl fi))), (ase, .inl (cJ, 6, .inr (.inl se)))] → va_S A s.heap H locs → W p l e R s m args below meth c H locs 0 0 Q (F0 m 87 ls []) := by
              intro t87_0 hj87 hres ls H locs hl hP hD hS
              unfold km_around_j87 at hres
              refine lv_iload hx hb d_M_around_87 (lv_at hl 1 rfl) ?_
              refine lv_iload_n hx hb d_M_around_89 rfl (lv_at hl 4 rfl) ?_
              have J103 : ∀ (t103_0 : Int32), (∃ b9 : Nat, b9 < B9 ∧ t103_0 = nI b9) → km_around_j103 px py on tc tn fi se fr to x y t77_0 t87_0 t103_0 = RES → ∀ (ls : Array Slot) (H : Heap) (locs : List Loc), lv_has ls 25 [(10, .int t77_0), (9, .int t87_0), (8, .int (to - fr)), (0, .ref h0), (2, .int fr), (4, .long x), (6, .long y)] → va_P (dC, dI) cls9 [(h0, .inr (2, [.int wd, .ref apx, .ref apy, .ref aon, .ref aen, .int cn, .int pn, .int tc, .int tn, .ref afi, .ref ase])), (apx, .inl (cJ, 256, .inr (.inl px))), (apy, .inl (cJ, 256, .inr (.inl py))), (aon, .inl (cZ, 256, .inl on)), (aen, .inl (cI, 256, .inl en)), (afi, .inl (cJ, 6, .inr (.inl fi))), (ase, .inl (cJ, 6, .inr (.inl se)))] H → va_D A [(h0, .inr (2, [.int wd, .ref apx, .ref apy, .ref aon, .ref aen, .int cn, .int pn, .int tc, .int tn, .ref afi, .ref ase])), (apx, .inl (cJ, 256, .inr (.inl px))), (apy, .inl (cJ, 256, .inr (.inl py))), (aon, .inl (cZ, 256, .inl on)), (aen, .inl (cI, 256, .inl en)), (afi, .inl (cJ, 6, .inr (.inl fi))), (ase, .inl (cJ, 6, .inr (.inl se)))] → va_S A s.heap H locs → W p l e R s m args below meth c H locs 0 0 Q (F0 m 103 ls [.int t103_0]) := by
                intro t103_0 hj103 hres ls H locs hl hP hD hS
                unfold km_around_j103 at hres
                refine lv_istore (lv' := [(11, .int t103_0), (10, .int t77_0), (9, .int t87_0), (8, .int (to - fr)), (0, .ref h0), (2, .int fr), (4, .long x), (6, .long y)]) hx hb d_M_around_103 hl (by decide) rfl (fun ls hl => ?_)
                refine lv_iload hx hb d_M_around_105 (lv_at hl 1 rfl) ?_
                have J145 : ∀ (t145_0 : Int64), km_around_j145 px py on tc tn fi se fr to x y t77_0 t87_0 t103_0 t145_0 = RES → ∀ (ls : Array Slot) (H : Heap) (locs : List Loc), lv_has ls 25 [(11, .int t103_0), (10, .int t77_0), (9, .int t87_0), (8, .int (to - fr)), (0, .ref h0), (2, .int fr), (4, .long x), (6, .long y)] → va_P (dC, dI) cls9 [(h0, .inr (2, [.int wd, .ref apx, .ref apy, .ref aon, .ref aen, .int cn, .int pn, .int tc, .int tn, .ref afi, .ref ase])), (apx, .inl (cJ, 256, .inr (.inl px))), (apy, .inl (cJ, 256, .inr (.inl py))), (aon, .inl (cZ, 256, .inl on)), (aen, .inl (cI, 256, .inl en)), (afi, .inl (cJ, 6, .inr (.inl fi))), (ase, .inl (cJ, 6, .inr (.inl se)))] H → va_D A [(h0, .inr (2, [.int wd, .ref apx, .ref apy, .ref aon, .ref aen, .int cn, .int pn, .int tc, .int tn, .ref afi, .ref ase])), (apx, .inl (cJ, 256, .inr (.inl px))), (apy, .inl (cJ, 256, .inr (.inl py))), (aon, .inl (cZ, 256, .inl on)), (aen, .inl (cI, 256, .inl en)), (afi, .inl (cJ, 6, .inr (.inl fi))), (ase, .inl (cJ, 6, .inr (.inl se)))] → va_S A s.heap H locs → W p l e R s m args below meth c H locs 0 0 Q (F0 m 145 ls [.long t145_0]) := by
                  intro t145_0 hres ls H locs hl hP hD hS
                  unfold km_around_j145 at hres
                  refine lv_lstore (lv' := [(12, .long t145_0), (11, .int t103_0), (10, .int t77_0), (9, .int t87_0), (8, .int (to - fr)), (0, .ref h0), (2, .int fr), (4, .long x), (6, .long y)]) hx hb d_M_around_145 hl (by decide) rfl (fun ls hl => ?_)
                  refine lv_iload hx hb d_M_around_147 (lv_at hl 2 rfl) ?_
                  have J187 : ∀ (t187_0 : Int64), km_around_j187 px py on tc tn fi se fr to x y t77_0 t87_0 t145_0 t187_0 = RES → ∀ (ls : Array Slot) (H : Heap) (locs : List Loc), lv_has ls 25 [(12, .long t145_0), (10, .int t77_0), (9, .int t87_0), (8, .int (to - fr)), (0, .ref h0), (2, .int fr), (4, .long x), (6, .long y)] → va_P (dC, dI) cls9 [(h0, .inr (2, [.int wd, .ref apx, .ref apy, .ref aon, .ref aen, .int cn, .int pn, .int tc, .int tn, .ref afi, .ref ase])), (apx, .inl (cJ, 256, .inr (.inl px))), (apy, .inl (cJ, 256, .inr (.inl py))), (aon, .inl (cZ, 256, .inl on)), (aen, .inl (cI, 256, .inl en)), (afi, .inl (cJ, 6, .inr (.inl fi))), (ase, .inl (cJ, 6, .inr (.inl se)))] H → va_D A [(h0, .inr (2, [.int wd, .ref apx, .ref apy, .ref aon, .ref aen, .int cn, .int pn, .int tc, .int tn, .ref afi, .ref ase])), (apx, .inl (cJ, 256, .inr (.inl px))), (apy, .inl (cJ, 256, .inr (.inl py))), (aon, .inl (cZ, 256, .inl on)), (aen, .inl (cI, 256, .inl en)), (afi, .inl (cJ, 6, .inr (.inl fi))), (ase, .inl (cJ, 6, .inr (.inl se)))] → va_S A s.heap H locs → W p l e R s m args below meth c H locs 0 0 Q (F0 m 187 ls [.long t187_0]) := by
                    intro t187_0 hres ls H locs hl hP hD hS
                    unfold km_around_j187 at hres
                    refine lv_lstore (lv' := [(14, .long t187_0), (12, .long t145_0), (10, .int t77_0), (9, .int t87_0), (8, .int (to - fr)), (0, .ref h0), (2, .int fr), (4, .long x), (6, .long y)]) hx hb d_M_around_187 hl (by decide) rfl (fun ls hl => ?_)
                    refine lv_iload hx hb d_M_around_189 (lv_at hl 2 rfl) ?_
                    have J199 : ∀ (t199_0 : Int32), (t199_0 = 0 ∨ t199_0 = 1) → km_around_j199 px py on tc tn fi se fr to x y t77_0 t87_0 t145_0 t187_0 t199_0 = RES → ∀ (ls : Array Slot) (H : Heap) (locs : List Loc), lv_has ls 25 [(14, .long t187_0), (12, .long t145_0), (10, .int t77_0), (9, .int t87_0), (8, .int (to - fr)), (0, .ref h0), (2, .int fr), (4, .long x), (6, .long y)] → va_P (dC, dI) cls9 [(h0, .inr (2, [.int wd, .ref apx, .ref apy, .ref aon, .ref aen, .int cn, .int pn, .int tc, .int tn, .ref afi, .ref ase])), (apx, .inl (cJ, 256, .inr (.inl px))), (apy, .inl (cJ, 256, .inr (.inl py))), (aon, .inl (cZ, 256, .inl on)), (aen, .inl (cI, 256, .inl en)), (afi, .inl (cJ, 6, .inr (.inl fi))), (ase, .inl (cJ, 6, .inr (.inl se)))] H → va_D A [(h0, .inr (2, [.int wd, .ref apx, .ref apy, .ref aon, .ref aen, .int cn, .int pn, .int tc, .int tn, .ref afi, .ref ase])), (apx, .inl (cJ, 256, .inr (.inl px))), (apy, .inl (cJ, 256, .inr (.inl py))), (aon, .inl (cZ, 256, .inl on)), (aen, .inl (cI, 256, .inl en)), (afi, .inl (cJ, 6, .inr (.inl fi))), (ase, .inl (cJ, 6, .inr (.inl se)))] → va_S A s.heap H locs → W p l e R s m args below meth c H locs 0 0 Q (F0 m 199 ls [.int t199_0]) := by
                      intro t199_0 hj199 hres ls H locs hl hP hD hS
                      unfold km_around_j199 at hres
                      refine lv_istore (lv' := [(16, .int t199_0), (14, .long t187_0), (12, .long t145_0), (10, .int t77_0), (9, .int t87_0), (8, .int (to - fr)), (0, .ref h0), (2, .int fr), (4, .long x), (6, .long y)]) hx hb d_M_around_199 hl (by decide) rfl (fun ls hl => ?_)
                      refine lv_iload hx hb d_M_around_201 (lv_at hl 3 rfl) ?_
                      have J215 : ∀ (t215_0 : Int32), (∃ S9 : Nat, S9 ≤ 257 ∧ t215_0 = nI S9) → km_around_j215 px py on tc tn fi se fr to x y t87_0 t145_0 t187_0 t199_0 t215_0 = RES → ∀ (ls : Array Slot) (H : Heap) (locs : List Loc), lv_has ls 25 [(16, .int t199_0), (14, .long t187_0), (12, .long t145_0), (9, .int t87_0), (8, .int (to - fr)), (0, .ref h0), (2, .int fr), (4, .long x), (6, .long y)] → va_P (dC, dI) cls9 [(h0, .inr (2, [.int wd, .ref apx, .ref apy, .ref aon, .ref aen, .int cn, .int pn, .int tc, .int tn, .ref afi, .ref ase])), (apx, .inl (cJ, 256, .inr (.inl px))), (apy, .inl (cJ, 256, .inr (.inl py))), (aon, .inl (cZ, 256, .inl on)), (aen, .inl (cI, 256, .inl en)), (afi, .inl (cJ, 6, .inr (.inl fi))), (ase, .inl (cJ, 6, .inr (.inl se)))] H → va_D A [(h0, .inr (2, [.int wd, .ref apx, .ref apy, .ref aon, .ref aen, .int cn, .int pn, .int tc, .int tn, .ref afi, .ref ase])), (apx, .inl (cJ, 256, .inr (.inl px))), (apy, .inl (cJ, 256, .inr (.inl py))), (aon, .inl (cZ, 256, .inl on)), (aen, .inl (cI, 256, .inl en)), (afi, .inl (cJ, 6, .inr (.inl fi))), (ase, .inl (cJ, 6, .inr (.inl se)))] → va_S A s.heap H locs → W p l e R s m args below meth c H locs 0 0 Q (F0 m 215 ls [.int t215_0]) := by
                        intro t215_0 hj215 hres ls H locs hl hP hD hS
                        unfold km_around_j215 at hres
                        refine lv_istore (lv' := [(17, .int t215_0), (16, .int t199_0), (14, .long t187_0), (12, .long t145_0), (9, .int t87_0), (8, .int (to - fr)), (0, .ref h0), (2, .int fr), (4, .long x), (6, .long y)]) hx hb d_M_around_215 hl (by decide) rfl (fun ls hl => ?_)
                        have L217 : ∀ (n : Nat) (k : Int32) (ax : Int64) (ay : Int64) (c1 : Int32) (n1 : Int32) (f1 : Nat → Int64) (s1 : Nat → Int64), (∃ kk : Nat, kk ≤ 259 ∧ k = nI kk) → 300 - k.toNatClampNeg < n → km_around_L217 px py on fr to x y t87_0 t215_0 n k ax ay c1 n1 f1 s1 = RES → ∀ (ls : Array Slot) (H : Heap) (locs : List Loc), lv_has ls 25 [(17, .int t215_0), (16, .int k), (14, .long ay), (12, .long ax), (9, .int t87_0), (8, .int (to - fr)), (0, .ref h0), (2, .int fr), (4, .long x), (6, .long y)] → va_P (dC, dI) cls9 [(h0, .inr (2, [.int wd, .ref apx, .ref apy, .ref aon, .ref aen, .int cn, .int pn, .int c1, .int n1, .ref afi, .ref ase])), (apx, .inl (cJ, 256, .inr (.inl px))), (apy, .inl (cJ, 256, .inr (.inl py))), (aon, .inl (cZ, 256, .inl on)), (aen, .inl (cI, 256, .inl en)), (afi, .inl (cJ, 6, .inr (.inl f1))), (ase, .inl (cJ, 6, .inr (.inl s1)))] H → va_D A [(h0, .inr (2, [.int wd, .ref apx, .ref apy, .ref aon, .ref aen, .int cn, .int pn, .int c1, .int n1, .ref afi, .ref ase])), (apx, .inl (cJ, 256, .inr (.inl px))), (apy, .inl (cJ, 256, .inr (.inl py))), (aon, .inl (cZ, 256, .inl on)), (aen, .inl (cI, 256, .inl en)), (afi, .inl (cJ, 6, .inr (.inl f1))), (ase, .inl (cJ, 6, .inr (.inl s1)))] → va_S A s.heap H locs → W p l e R s m args below meth c H locs 0 0 Q (F0 m 217 ls []) := by
                          intro n
                          induction n with
                          | zero => intro k ax ay c1 n1 f1 s1 hinv hmu; exact absurd hmu (Nat.not_lt_zero _)
                          | succ n ih =>
                            intro k ax ay c1 n1 f1 s1 hinv hmu hres ls H locs hl hP hD hS
                            rw [km_around_L217] at hres
                            refine lv_iload hx hb d_M_around_217 (lv_at hl 1 rfl) ?_
                            refine lv_iload hx hb d_M_around_219 (lv_at hl 0 rfl) ?_
                            refine lv_icmp_ge (tgt := 473) hx hb d_M_around_221 rfl (fun h221 => ?_) (fun h221 => ?_)
                            · rw [if_pos h221] at hres
                              rw [hQ]
                              subst hres
                              exact W.vret hx hb hr (fun t ht hW => ⟨⟨(), rfl, trivial, ⟨by rw [ht]; exact hP, va_K.moved hW.alike hK, hD⟩⟩, hS.F ht⟩) hS.2.2 d_M_around_473
                            · rw [if_neg h221] at hres
                              refine lv_iload_n hx hb d_M_around_224 rfl (lv_at hl 7 rfl) ?_
                              refine lv_iload hx hb d_M_around_225 (lv_at hl 4 rfl) ?_
                              refine lv_iload_n hx hb d_M_around_227 rfl (lv_at hl 7 rfl) ?_
                              refine lv_isub hx hb d_M_around_228 ?_
                              refine lv_iload hx hb d_M_around_229 (lv_at hl 1 rfl) ?_
                              refine lv_iadd hx hb d_M_around_231 ?_
                              refine lv_iload hx hb d_M_around_232 (lv_at hl 5 rfl) ?_
                              refine lv_irem hx hb d_M_around_234 (by rw [eA, eB, pk_sub (by omega)]; exact nI_ne0 (by omega) (by omega)) ?_
                              refine lv_iadd hx hb d_M_around_235 ?_
                              refine lv_istore (lv' := [(18, .int (fr + (((t87_0 - fr) + k) - ((t87_0 - fr) + k) / (to - fr) * (to - fr)))), (17, .int t215_0), (16, .int k), (14, .long ay), (12, .long ax), (9, .int t87_0), (8, .int (to - fr)), (0, .ref h0), (2, .int fr), (4, .long x), (6, .long y)]) hx hb d_M_around_236 hl (by decide) rfl (fun ls hl => ?_)
                              have K238 : ∀ (v238_l18 : Int32), (∃ P9 : Nat, P9 < B9 ∧ v238_l18 = nI P9) → km_around_k238 px py on fr to x y t87_0 k ax ay c1 n1 f1 s1 (km_around_L217 px py on fr to x y t87_0 t215_0 n) v238_l18 = RES → ∀ (ls : Array Slot) (H : Heap) (locs : List Loc), lv_has ls 25 [(18, .int v238_l18), (17, .int t215_0), (16, .int k), (14, .long ay), (12, .long ax), (9, .int t87_0), (8, .int (to - fr)), (0, .ref h0), (2, .int fr), (4, .long x), (6, .long y)] → va_P (dC, dI) cls9 [(h0, .inr (2, [.int wd, .ref apx, .ref apy, .ref aon, .ref aen, .int cn, .int pn, .int c1, .int n1, .ref afi, .ref ase])), (apx, .inl (cJ, 256, .inr (.inl px))), (apy, .inl (cJ, 256, .inr (.inl py))), (aon, .inl (cZ, 256, .inl on)), (aen, .inl (cI, 256, .inl en)), (afi, .inl (cJ, 6, .inr (.inl f1))), (ase, .inl (cJ, 6, .inr (.inl s1)))] H → va_D A [(h0, .inr (2, [.int wd, .ref apx, .ref apy, .ref aon, .ref aen, .int cn, .int pn, .int c1, .int n1, .ref afi, .ref ase])), (apx, .inl (cJ, 256, .inr (.inl px))), (apy, .inl (cJ, 256, .inr (.inl py))), (aon, .inl (cZ, 256, .inl on)), (aen, .inl (cI, 256, .inl en)), (afi, .inl (cJ, 6, .inr (.inl f1))), (ase, .inl (cJ, 6, .inr (.inl s1)))] → va_S A s.heap H locs → W p l e R s m args below meth c H locs 0 0 Q (F0 m 238 ls []) := by
                                intro v238_l18 hj238 hres ls H locs hl hP hD hS
                                unfold km_around_k238 at hres
                                refine lv_aload_n hx hb d_M_around_238 rfl (lv_at hl 7 rfl) ?_
                                refine va_get (D := (dC, dI)) (ci := 2) (v := .ref aon) (C := R_M) (T := F_M) (N := 11) hx hb hts in_M hown hK hP 0 rfl rfl 3 (by decide) (hts _ tw_282) (fun _ h9 => h9) rfl d_M_around_239 ?_
                                refine lv_iload hx hb d_M_around_242 (lv_at hl 0 rfl) ?_
                                refine va_zald hx hb hK hP 3 1 rfl rfl (by obtain ⟨P9, g1, e⟩ := hj238; rw [e]; exact vp_in_nI (by omega) (by decide)) d_M_around_244 ?_
                                refine lv_if_eq (tgt := 306) hx hb d_M_around_245 rfl (fun h245 => ?_) (fun h245 => ?_)
                                · rw [if_pos h245] at hres
                                  refine lv_iload_n hx hb d_M_around_306 rfl (lv_at hl 8 rfl) ?_
                                  refine lv_iload hx hb d_M_around_307 (lv_at hl 5 rfl) ?_
                                  refine lv_iload_n hx hb d_M_around_309 rfl (lv_at hl 8 rfl) ?_
                                  refine lv_isub hx hb d_M_around_310 ?_
                                  refine lv_iload hx hb d_M_around_311 (lv_at hl 2 rfl) ?_
                                  refine lv_iadd hx hb d_M_around_313 ?_
                                  refine lv_iconst (v := 1) hx hb d_M_around_314 (by decide) ?_
                                  refine lv_iadd hx hb d_M_around_315 ?_
                                  refine lv_iload hx hb d_M_around_316 (lv_at hl 6 rfl) ?_
                                  refine lv_irem hx hb d_M_around_318 (by rw [eA, eB, pk_sub (by omega)]; exact nI_ne0 (by omega) (by omega)) ?_
                                  refine lv_iadd hx hb d_M_around_319 ?_
                                  refine lv_istore (lv' := [(19, .int (fr + ((((t87_0 - fr) + k) + 1) - (((t87_0 - fr) + k) + 1) / (to - fr) * (to - fr)))), (18, .int v238_l18), (17, .int t215_0), (16, .int k), (14, .long ay), (12, .long ax), (9, .int t87_0), (8, .int (to - fr)), (0, .ref h0), (2, .int fr), (4, .long x), (6, .long y)]) hx hb d_M_around_320 hl (by decide) rfl (fun ls hl => ?_)
                                  have K322 : ∀ (v322_l19 : Int32), (∃ P9 : Nat, P9 < B9 ∧ v322_l19 = nI P9) → km_around_k322 px py on x y k ax ay c1 n1 f1 s1 (km_around_L217 px py on fr to x y t87_0 t215_0 n) v238_l18 v322_l19 = RES → ∀ (ls : Array Slot) (H : Heap) (locs : List Loc), lv_has ls 25 [(19, .int v322_l19), (18, .int v238_l18), (17, .int t215_0), (16, .int k), (14, .long ay), (12, .long ax), (9, .int t87_0), (8, .int (to - fr)), (0, .ref h0), (2, .int fr), (4, .long x), (6, .long y)] → va_P (dC, dI) cls9 [(h0, .inr (2, [.int wd, .ref apx, .ref apy, .ref aon, .ref aen, .int cn, .int pn, .int c1, .int n1, .ref afi, .ref ase])), (apx, .inl (cJ, 256, .inr (.inl px))), (apy, .inl (cJ, 256, .inr (.inl py))), (aon, .inl (cZ, 256, .inl on)), (aen, .inl (cI, 256, .inl en)), (afi, .inl (cJ, 6, .inr (.inl f1))), (ase, .inl (cJ, 6, .inr (.inl s1)))] H → va_D A [(h0, .inr (2, [.int wd, .ref apx, .ref apy, .ref aon, .ref aen, .int cn, .int pn, .int c1, .int n1, .ref afi, .ref ase])), (apx, .inl (cJ, 256, .inr (.inl px))), (apy, .inl (cJ, 256, .inr (.inl py))), (aon, .inl (cZ, 256, .inl on)), (aen, .inl (cI, 256, .inl en)), (afi, .inl (cJ, 6, .inr (.inl f1))), (ase, .inl (cJ, 6, .inr (.inl s1)))] → va_S A s.heap H locs → W p l e R s m args below meth c H locs 0 0 Q (F0 m 322 ls []) := by
                                    intro v322_l19 hj322 hres ls H locs hl hP hD hS
                                    unfold km_around_k322 at hres
                                    refine lv_aload_n hx hb d_M_around_322 rfl (lv_at hl 8 rfl) ?_
                                    refine va_get (D := (dC, dI)) (ci := 2) (v := .ref aon) (C := R_M) (T := F_M) (N := 11) hx hb hts in_M hown hK hP 0 rfl rfl 3 (by decide) (hts _ tw_282) (fun _ h9 => h9) rfl d_M_around_323 ?_
                                    refine lv_iload hx hb d_M_around_326 (lv_at hl 0 rfl) ?_
                                    refine va_zald hx hb hK hP 3 1 rfl rfl (by obtain ⟨P9, g1, e⟩ := hj322; rw [e]; exact vp_in_nI (by omega) (by decide)) d_M_around_328 ?_
                                    refine lv_istore (lv' := [(20, .int (on (Int32.toNatClampNeg v322_l19))), (19, .int v322_l19), (18, .int v238_l18), (17, .int t215_0), (16, .int k), (14, .long ay), (12, .long ax), (9, .int t87_0), (8, .int (to - fr)), (0, .ref h0), (2, .int fr), (4, .long x), (6, .long y)]) hx hb d_M_around_329 hl (by decide) rfl (fun ls hl => ?_)
                                    refine lv_iload hx hb d_M_around_331 (lv_at hl 0 rfl) ?_
                                    have J371 : ∀ (t371_0 : Int64), km_around_j371 px py on x y k ax ay c1 n1 f1 s1 (km_around_L217 px py on fr to x y t87_0 t215_0 n) v238_l18 v322_l19 t371_0 = RES → ∀ (ls : Array Slot) (H : Heap) (locs : List Loc), lv_has ls 25 [(20, .int (on (Int32.toNatClampNeg v322_l19))), (19, .int v322_l19), (18, .int v238_l18), (17, .int t215_0), (16, .int k), (14, .long ay), (12, .long ax), (9, .int t87_0), (8, .int (to - fr)), (0, .ref h0), (2, .int fr), (4, .long x), (6, .long y)] → va_P (dC, dI) cls9 [(h0, .inr (2, [.int wd, .ref apx, .ref apy, .ref aon, .ref aen, .int cn, .int pn, .int c1, .int n1, .ref afi, .ref ase])), (apx, .inl (cJ, 256, .inr (.inl px))), (apy, .inl (cJ, 256, .inr (.inl py))), (aon, .inl (cZ, 256, .inl on)), (aen, .inl (cI, 256, .inl en)), (afi, .inl (cJ, 6, .inr (.inl f1))), (ase, .inl (cJ, 6, .inr (.inl s1)))] H → va_D A [(h0, .inr (2, [.int wd, .ref apx, .ref apy, .ref aon, .ref aen, .int cn, .int pn, .int c1, .int n1, .ref afi, .ref ase])), (apx, .inl (cJ, 256, .inr (.inl px))), (apy, .inl (cJ, 256, .inr (.inl py))), (aon, .inl (cZ, 256, .inl on)), (aen, .inl (cI, 256, .inl en)), (afi, .inl (cJ, 6, .inr (.inl f1))), (ase, .inl (cJ, 6, .inr (.inl s1)))] → va_S A s.heap H locs → W p l e R s m args below meth c H locs 0 0 Q (F0 m 371 ls [.long t371_0]) := by
                                      intro t371_0 hres ls H locs hl hP hD hS
                                      unfold km_around_j371 at hres
                                      refine lv_lstore (lv' := [(21, .long t371_0), (20, .int (on (Int32.toNatClampNeg v322_l19))), (19, .int v322_l19), (18, .int v238_l18), (17, .int t215_0), (16, .int k), (14, .long ay), (12, .long ax), (9, .int t87_0), (8, .int (to - fr)), (0, .ref h0), (2, .int fr), (4, .long x), (6, .long y)]) hx hb d_M_around_371 hl (by decide) rfl (fun ls hl => ?_)
                                      refine lv_iload hx hb d_M_around_373 (lv_at hl 1 rfl) ?_
                                      have J413 : ∀ (t413_0 : Int64), km_around_j413 px py on x y k ax ay c1 n1 f1 s1 (km_around_L217 px py on fr to x y t87_0 t215_0 n) v238_l18 v322_l19 t371_0 t413_0 = RES → ∀ (ls : Array Slot) (H : Heap) (locs : List Loc), lv_has ls 25 [(21, .long t371_0), (20, .int (on (Int32.toNatClampNeg v322_l19))), (18, .int v238_l18), (17, .int t215_0), (16, .int k), (14, .long ay), (12, .long ax), (9, .int t87_0), (8, .int (to - fr)), (0, .ref h0), (2, .int fr), (4, .long x), (6, .long y)] → va_P (dC, dI) cls9 [(h0, .inr (2, [.int wd, .ref apx, .ref apy, .ref aon, .ref aen, .int cn, .int pn, .int c1, .int n1, .ref afi, .ref ase])), (apx, .inl (cJ, 256, .inr (.inl px))), (apy, .inl (cJ, 256, .inr (.inl py))), (aon, .inl (cZ, 256, .inl on)), (aen, .inl (cI, 256, .inl en)), (afi, .inl (cJ, 6, .inr (.inl f1))), (ase, .inl (cJ, 6, .inr (.inl s1)))] H → va_D A [(h0, .inr (2, [.int wd, .ref apx, .ref apy, .ref aon, .ref aen, .int cn, .int pn, .int c1, .int n1, .ref afi, .ref ase])), (apx, .inl (cJ, 256, .inr (.inl px))), (apy, .inl (cJ, 256, .inr (.inl py))), (aon, .inl (cZ, 256, .inl on)), (aen, .inl (cI, 256, .inl en)), (afi, .inl (cJ, 6, .inr (.inl f1))), (ase, .inl (cJ, 6, .inr (.inl s1)))] → va_S A s.heap H locs → W p l e R s m args below meth c H locs 0 0 Q (F0 m 413 ls [.long t413_0]) := by
                                        intro t413_0 hres ls H locs hl hP hD hS
                                        unfold km_around_j413 at hres
                                        refine lv_lstore (lv' := [(23, .long t413_0), (21, .long t371_0), (20, .int (on (Int32.toNatClampNeg v322_l19))), (18, .int v238_l18), (17, .int t215_0), (16, .int k), (14, .long ay), (12, .long ax), (9, .int t87_0), (8, .int (to - fr)), (0, .ref h0), (2, .int fr), (4, .long x), (6, .long y)]) hx hb d_M_around_413 hl (by decide) rfl (fun ls hl => ?_)
                                        refine lv_aload_n hx hb d_M_around_415 rfl (lv_at hl 10 rfl) ?_
                                        refine lv_lload hx hb d_M_around_416 (lv_at hl 7 rfl) ?_
                                        refine lv_lload hx hb d_M_around_418 (lv_at hl 6 rfl) ?_
                                        refine lv_aload_n hx hb d_M_around_420 rfl (lv_at hl 10 rfl) ?_
                                        refine va_get (D := (dC, dI)) (ci := 2) (v := .ref apx) (C := R_M) (T := F_M) (N := 11) hx hb hts in_M hown hK hP 0 rfl rfl 1 (by decide) (hts _ tw_280) (fun _ h9 => h9) rfl d_M_around_421 ?_
                                        refine lv_iload hx hb d_M_around_424 (lv_at hl 3 rfl) ?_
                                        refine va_lald hx hb hK hP 1 0 rfl rfl (by obtain ⟨P9, g1, e⟩ := hj238; rw [e]; exact vp_in_nI (by omega) (by decide)) d_M_around_426 ?_
                                        refine lv_lload hx hb d_M_around_427 (lv_at hl 12 rfl) ?_
                                        refine lv_lsub hx hb d_M_around_429 ?_
                                        refine lv_aload_n hx hb d_M_around_430 rfl (lv_at hl 10 rfl) ?_
                                        refine va_get (D := (dC, dI)) (ci := 2) (v := .ref apy) (C := R_M) (T := F_M) (N := 11) hx hb hts in_M hown hK hP 0 rfl rfl 2 (by decide) (hts _ tw_281) (fun _ h9 => h9) rfl d_M_around_431 ?_
                                        refine lv_iload hx hb d_M_around_434 (lv_at hl 3 rfl) ?_
                                        refine va_lald hx hb hK hP 2 0 rfl rfl (by obtain ⟨P9, g1, e⟩ := hj238; rw [e]; exact vp_in_nI (by omega) (by decide)) d_M_around_436 ?_
                                        refine lv_lload hx hb d_M_around_437 (lv_at hl 13 rfl) ?_
                                        refine lv_lsub hx hb d_M_around_439 ?_
                                        refine lv_lload hx hb d_M_around_440 (lv_at hl 1 rfl) ?_
                                        refine lv_lload hx hb d_M_around_442 (lv_at hl 0 rfl) ?_
                                        refine cm_v (wc := [(h0, .inr (2, [.int wd, .ref apx, .ref apy, .ref aon, .ref aen, .int cn, .int pn, .int c1, .int n1, .ref afi, .ref ase])), (apx, .inl (cJ, 256, .inr (.inl px))), (apy, .inl (cJ, 256, .inr (.inl py))), (aon, .inl (cZ, 256, .inl on)), (aen, .inl (cI, 256, .inl en)), (afi, .inl (cJ, 6, .inr (.inl f1))), (ase, .inl (cJ, 6, .inr (.inl s1)))]) (wr := []) (W1 := [(h0, .inr (2, [.int wd, .ref apx, .ref apy, .ref aon, .ref aen, .int cn, .int pn, .int ((km_curve c1 n1 f1 s1 ax ay ((px (Int32.toNatClampNeg v238_l18)) - x) ((py (Int32.toNatClampNeg v238_l18)) - y) t371_0 t413_0).1), .int ((km_curve c1 n1 f1 s1 ax ay ((px (Int32.toNatClampNeg v238_l18)) - x) ((py (Int32.toNatClampNeg v238_l18)) - y) t371_0 t413_0).2.1), .ref afi, .ref ase])), (apx, .inl (cJ, 256, .inr (.inl px))), (apy, .inl (cJ, 256, .inr (.inl py))), (aon, .inl (cZ, 256, .inl on)), (aen, .inl (cI, 256, .inl en)), (afi, .inl (cJ, 6, .inr (.inl ((km_curve c1 n1 f1 s1 ax ay ((px (Int32.toNatClampNeg v238_l18)) - x) ((py (Int32.toNatClampNeg v238_l18)) - y) t371_0 t413_0).2.2.1)))), (ase, .inl (cJ, 6, .inr (.inl ((km_curve c1 n1 f1 s1 ax ay ((px (Int32.toNatClampNeg v238_l18)) - x) ((py (Int32.toNatClampNeg v238_l18)) - y) t371_0 t413_0).2.2.2))))]) (w2 := [(h0, .inr (2, [.int wd, .ref apx, .ref apy, .ref aon, .ref aen, .int cn, .int pn, .int ((km_curve c1 n1 f1 s1 ax ay ((px (Int32.toNatClampNeg v238_l18)) - x) ((py (Int32.toNatClampNeg v238_l18)) - y) t371_0 t413_0).1), .int ((km_curve c1 n1 f1 s1 ax ay ((px (Int32.toNatClampNeg v238_l18)) - x) ((py (Int32.toNatClampNeg v238_l18)) - y) t371_0 t413_0).2.1), .ref afi, .ref ase])), (apx, .inl (cJ, 256, .inr (.inl px))), (apy, .inl (cJ, 256, .inr (.inl py))), (aon, .inl (cZ, 256, .inl on)), (aen, .inl (cI, 256, .inl en)), (afi, .inl (cJ, 6, .inr (.inl ((km_curve c1 n1 f1 s1 ax ay ((px (Int32.toNatClampNeg v238_l18)) - x) ((py (Int32.toNatClampNeg v238_l18)) - y) t371_0 t413_0).2.2.1)))), (ase, .inl (cJ, 6, .inr (.inl ((km_curve c1 n1 f1 s1 ax ay ((px (Int32.toNatClampNeg v238_l18)) - x) ((py (Int32.toNatClampNeg v238_l18)) - y) t371_0 t413_0).2.2.2))))]) (va_runV (g := F0 m 444 ls [.long t413_0, .long t371_0, .long ((py (Int32.toNatClampNeg v238_l18)) - y), .long ((px (Int32.toNatClampNeg v238_l18)) - x), .long ay, .long ax, .ref h0]) (As := [.long ax, .long ay, .long ((px (Int32.toNatClampNeg v238_l18)) - x), .long ((py (Int32.toNatClampNeg v238_l18)) - y), .long t371_0, .long t413_0]) (rest := []) ⟨hx, hb, hml, hown, hts⟩ (c_km_curve l dC dI h0 apx apy aon aen afi ase cJ cZ cI wd cn pn px py on en c1 n1 f1 s1 ax ay ((px (Int32.toNatClampNeg v238_l18)) - x) ((py (Int32.toNatClampNeg v238_l18)) - y) t371_0 t413_0  _) (cwV 6 hts (gi_V tw_357 tw_359 ts_14 tw_6 tw_360) rfl rfl rfl (by decide +kernel) ⟨(by rw [← hR]; exact Nat.le_of_ble_eq_true rfl), (by rw [← hR]; exact Nat.le_of_ble_eq_true rfl)⟩) ⟨mc_blind, va_recv (ci := 2) (q := (R_M, F_M, 11)) hK hP rfl (q0 := 0) rfl, mc_pre (hP.sub [0, 1, 2, 3, 4, 5, 6] rfl) (hK.sub [0, 1, 2] rfl) (hD.sub [0, 1, 2, 3, 4, 5, 6] (by decide) rfl)⟩ rfl rfl hl.1 rfl (lv_room (Nat.le_of_ble_eq_true rfl)) d_M_around_444 ⟨Nat.zero_le _, Nat.zero_le _⟩) hP hD hS hA [0, 1, 2, 3, 4, 5, 6] [] [0, 1, 2, 3, 4, 5, 6] rfl rfl (by decide) (by decide) rfl rfl (by decide) (fun H locs hP hD hS => ?_)
                                        have K447 : ∀ (x444 : Int32 × Int32 × (Nat → Int64) × (Nat → Int64)), km_around_k447 on k (km_around_L217 px py on fr to x y t87_0 t215_0 n) v322_l19 t371_0 t413_0 x444 = RES → ∀ (ls : Array Slot) (H : Heap) (locs : List Loc), lv_has ls 25 [(23, .long t413_0), (21, .long t371_0), (20, .int (on (Int32.toNatClampNeg v322_l19))), (18, .int v238_l18), (17, .int t215_0), (16, .int k), (14, .long ay), (12, .long ax), (9, .int t87_0), (8, .int (to - fr)), (0, .ref h0), (2, .int fr), (4, .long x), (6, .long y)] → va_P (dC, dI) cls9 [(h0, .inr (2, [.int wd, .ref apx, .ref apy, .ref aon, .ref aen, .int cn, .int pn, .int x444.1, .int x444.2.1, .ref afi, .ref ase])), (apx, .inl (cJ, 256, .inr (.inl px))), (apy, .inl (cJ, 256, .inr (.inl py))), (aon, .inl (cZ, 256, .inl on)), (aen, .inl (cI, 256, .inl en)), (afi, .inl (cJ, 6, .inr (.inl x444.2.2.1))), (ase, .inl (cJ, 6, .inr (.inl x444.2.2.2)))] H → va_D A [(h0, .inr (2, [.int wd, .ref apx, .ref apy, .ref aon, .ref aen, .int cn, .int pn, .int x444.1, .int x444.2.1, .ref afi, .ref ase])), (apx, .inl (cJ, 256, .inr (.inl px))), (apy, .inl (cJ, 256, .inr (.inl py))), (aon, .inl (cZ, 256, .inl on)), (aen, .inl (cI, 256, .inl en)), (afi, .inl (cJ, 6, .inr (.inl x444.2.2.1))), (ase, .inl (cJ, 6, .inr (.inl x444.2.2.2)))] → va_S A s.heap H locs → W p l e R s m args below meth c H locs 0 0 Q (F0 m 447 ls []) := by
                                          intro x444 hres ls H locs hl hP hD hS
                                          unfold km_around_k447 at hres
                                          refine lv_lload hx hb d_M_around_447 (lv_at hl 1 rfl) ?_
                                          refine lv_lstore (lv' := [(12, .long t371_0), (23, .long t413_0), (21, .long t371_0), (20, .int (on (Int32.toNatClampNeg v322_l19))), (18, .int v238_l18), (17, .int t215_0), (16, .int k), (14, .long ay), (9, .int t87_0), (8, .int (to - fr)), (0, .ref h0), (2, .int fr), (4, .long x), (6, .long y)]) hx hb d_M_around_449 hl (by decide) rfl (fun ls hl => ?_)
                                          refine lv_lload hx hb d_M_around_451 (lv_at hl 1 rfl) ?_
                                          refine lv_lstore (lv' := [(14, .long t413_0), (12, .long t371_0), (23, .long t413_0), (21, .long t371_0), (20, .int (on (Int32.toNatClampNeg v322_l19))), (18, .int v238_l18), (17, .int t215_0), (16, .int k), (9, .int t87_0), (8, .int (to - fr)), (0, .ref h0), (2, .int fr), (4, .long x), (6, .long y)]) hx hb d_M_around_453 hl (by decide) rfl (fun ls hl => ?_)
                                          refine lv_iload hx hb d_M_around_455 (lv_at hl 7 rfl) ?_
                                          refine lv_iload hx hb d_M_around_457 (lv_at hl 4 rfl) ?_
                                          have J467 : ∀ (t467_0 : Int32), (t467_0 = 1 ∨ t467_0 = 2) → km_around_j467 k (km_around_L217 px py on fr to x y t87_0 t215_0 n) t371_0 t413_0 x444 t467_0 = RES → ∀ (ls : Array Slot) (H : Heap) (locs : List Loc), lv_has ls 25 [(14, .long t413_0), (12, .long t371_0), (17, .int t215_0), (9, .int t87_0), (8, .int (to - fr)), (0, .ref h0), (2, .int fr), (4, .long x), (6, .long y)] → va_P (dC, dI) cls9 [(h0, .inr (2, [.int wd, .ref apx, .ref apy, .ref aon, .ref aen, .int cn, .int pn, .int x444.1, .int x444.2.1, .ref afi, .ref ase])), (apx, .inl (cJ, 256, .inr (.inl px))), (apy, .inl (cJ, 256, .inr (.inl py))), (aon, .inl (cZ, 256, .inl on)), (aen, .inl (cI, 256, .inl en)), (afi, .inl (cJ, 6, .inr (.inl x444.2.2.1))), (ase, .inl (cJ, 6, .inr (.inl x444.2.2.2)))] H → va_D A [(h0, .inr (2, [.int wd, .ref apx, .ref apy, .ref aon, .ref aen, .int cn, .int pn, .int x444.1, .int x444.2.1, .ref afi, .ref ase])), (apx, .inl (cJ, 256, .inr (.inl px))), (apy, .inl (cJ, 256, .inr (.inl py))), (aon, .inl (cZ, 256, .inl on)), (aen, .inl (cI, 256, .inl en)), (afi, .inl (cJ, 6, .inr (.inl x444.2.2.1))), (ase, .inl (cJ, 6, .inr (.inl x444.2.2.2)))] → va_S A s.heap H locs → W p l e R s m args below meth c H locs 0 0 Q (F0 m 467 ls [.int t467_0, .int k]) := by
                                            intro t467_0 hj467 hres ls H locs hl hP hD hS
                                            unfold km_around_j467 at hres
                                            refine lv_iadd hx hb d_M_around_467 ?_
                                            refine lv_istore (lv' := [(16, .int (k + t467_0)), (14, .long t413_0), (12, .long t371_0), (17, .int t215_0), (9, .int t87_0), (8, .int (to - fr)), (0, .ref h0), (2, .int fr), (4, .long x), (6, .long y)]) hx hb d_M_around_468 hl (by decide) rfl (fun ls hl => ?_)
                                            refine lv_goto (tgt := 217) hx hb d_M_around_470 rfl ?_
                                            exact ih (k + t467_0) t371_0 t413_0 x444.1 x444.2.1 x444.2.2.1 x444.2.2.2 (by obtain ⟨kk, g1, e⟩ := hinv; obtain ⟨S9, g2, e2⟩ := hj215; rw [e2, e] at h221; have h9 := nI_nle_lt (by omega) h221; first | exact ⟨kk + 1, by omega, by rw [e, nI_1]⟩ | exact hj467.elim (fun h => ⟨kk + 1, by omega, by rw [h, e]; exact nI_1 kk⟩) (fun h => ⟨kk + 2, by omega, by rw [h, e]; exact nI_add kk 2⟩)) (by obtain ⟨kk, g1, e⟩ := hinv; obtain ⟨S9, g2, e2⟩ := hj215; rw [e2, e] at h221; have h9 := nI_nle_lt (by omega) h221; rw [e, nI_clamp (by omega)] at hmu; first | (rw [e, nI_1, nI_clamp (by omega)]; omega) | exact hj467.elim (fun h => by rw [h, e, nI_1, nI_clamp (by omega)]; omega) (fun h => by rw [h, e, show nI kk + 2 = nI (kk + 2) from nI_add kk 2, nI_clamp (by omega)]; omega)) hres ls _ _ (lv_sub hl [3, 0, 1, 2, 4, 5, 6, 7, 8, 9] rfl) hP hD hS
                                          refine lv_if_eq (tgt := 466) hx hb d_M_around_459 rfl (fun h459 => ?_) (fun h459 => ?_)
                                          · rw [if_pos h459] at hres
                                            refine lv_iconst (v := 1) hx hb d_M_around_466 (by decide) ?_
                                            exact J467 1 (by decide) hres ls _ _ (lv_sub hl [0, 1, 6, 8, 9, 10, 11, 12, 13] rfl) hP hD hS
                                          · rw [if_neg h459] at hres
                                            refine lv_iconst (v := 2) hx hb d_M_around_462 (by decide) ?_
                                            refine lv_goto (tgt := 467) hx hb d_M_around_463 rfl ?_
                                            exact J467 2 (by decide) hres ls _ _ (lv_sub hl [0, 1, 6, 8, 9, 10, 11, 12, 13] rfl) hP hD hS
                                        exact K447 (km_curve c1 n1 f1 s1 ax ay ((px (Int32.toNatClampNeg v238_l18)) - x) ((py (Int32.toNatClampNeg v238_l18)) - y) t371_0 t413_0) hres ls _ _ (lv_sub hl [0, 1, 2, 3, 4, 5, 6, 7, 8, 9, 10, 11, 12, 13] rfl) hP hD hS
                                      refine lv_if_eq (tgt := 391) hx hb d_M_around_375 rfl (fun h375 => ?_) (fun h375 => ?_)
                                      · rw [if_pos h375] at hres
                                        refine lv_aload_n hx hb d_M_around_391 rfl (lv_at hl 10 rfl) ?_
                                        refine va_get (D := (dC, dI)) (ci := 2) (v := .ref apy) (C := R_M) (T := F_M) (N := 11) hx hb hts in_M hown hK hP 0 rfl rfl 2 (by decide) (hts _ tw_281) (fun _ h9 => h9) rfl d_M_around_392 ?_
                                        refine lv_iload hx hb d_M_around_395 (lv_at hl 3 rfl) ?_
                                        refine va_lald hx hb hK hP 2 0 rfl rfl (by obtain ⟨P9, g1, e⟩ := hj238; rw [e]; exact vp_in_nI (by omega) (by decide)) d_M_around_397 ?_
                                        refine lv_aload_n hx hb d_M_around_398 rfl (lv_at hl 10 rfl) ?_
                                        refine va_get (D := (dC, dI)) (ci := 2) (v := .ref apy) (C := R_M) (T := F_M) (N := 11) hx hb hts in_M hown hK hP 0 rfl rfl 2 (by decide) (hts _ tw_281) (fun _ h9 => h9) rfl d_M_around_399 ?_
                                        refine lv_iload hx hb d_M_around_402 (lv_at hl 2 rfl) ?_
                                        refine va_lald hx hb hK hP 2 0 rfl rfl (by obtain ⟨P9, g1, e⟩ := hj322; rw [e]; exact vp_in_nI (by omega) (by decide)) d_M_around_404 ?_
                                        refine lv_ladd hx hb d_M_around_405 ?_
                                        refine lv_ldc2 (v := 2) hx hb hown (hts _ tw_321) d_M_around_406 ?_
                                        refine lv_ldiv hx hb d_M_around_409 (by decide) ?_
                                        refine lv_lload hx hb d_M_around_410 (lv_at hl 13 rfl) ?_
                                        refine lv_lsub hx hb d_M_around_412 ?_
                                        exact J413 ((((py (Int32.toNatClampNeg v238_l18)) + (py (Int32.toNatClampNeg v322_l19))) / 2) - y) hres ls _ _ (lv_sub hl [0, 1, 3, 4, 5, 6, 7, 8, 9, 10, 11, 12, 13] rfl) hP hD hS
                                      · rw [if_neg h375] at hres
                                        refine lv_aload_n hx hb d_M_around_378 rfl (lv_at hl 10 rfl) ?_
                                        refine va_get (D := (dC, dI)) (ci := 2) (v := .ref apy) (C := R_M) (T := F_M) (N := 11) hx hb hts in_M hown hK hP 0 rfl rfl 2 (by decide) (hts _ tw_281) (fun _ h9 => h9) rfl d_M_around_379 ?_
                                        refine lv_iload hx hb d_M_around_382 (lv_at hl 2 rfl) ?_
                                        refine va_lald hx hb hK hP 2 0 rfl rfl (by obtain ⟨P9, g1, e⟩ := hj322; rw [e]; exact vp_in_nI (by omega) (by decide)) d_M_around_384 ?_
                                        refine lv_lload hx hb d_M_around_385 (lv_at hl 13 rfl) ?_
                                        refine lv_lsub hx hb d_M_around_387 ?_
                                        refine lv_goto (tgt := 413) hx hb d_M_around_388 rfl ?_
                                        exact J413 ((py (Int32.toNatClampNeg v322_l19)) - y) hres ls _ _ (lv_sub hl [0, 1, 3, 4, 5, 6, 7, 8, 9, 10, 11, 12, 13] rfl) hP hD hS
                                    refine lv_if_eq (tgt := 349) hx hb d_M_around_333 rfl (fun h333 => ?_) (fun h333 => ?_)
                                    · rw [if_pos h333] at hres
                                      refine lv_aload_n hx hb d_M_around_349 rfl (lv_at hl 9 rfl) ?_
                                      refine va_get (D := (dC, dI)) (ci := 2) (v := .ref apx) (C := R_M) (T := F_M) (N := 11) hx hb hts in_M hown hK hP 0 rfl rfl 1 (by decide) (hts _ tw_280) (fun _ h9 => h9) rfl d_M_around_350 ?_
                                      refine lv_iload hx hb d_M_around_353 (lv_at hl 2 rfl) ?_
                                      refine va_lald hx hb hK hP 1 0 rfl rfl (by obtain ⟨P9, g1, e⟩ := hj238; rw [e]; exact vp_in_nI (by omega) (by decide)) d_M_around_355 ?_
                                      refine lv_aload_n hx hb d_M_around_356 rfl (lv_at hl 9 rfl) ?_
                                      refine va_get (D := (dC, dI)) (ci := 2) (v := .ref apx) (C := R_M) (T := F_M) (N := 11) hx hb hts in_M hown hK hP 0 rfl rfl 1 (by decide) (hts _ tw_280) (fun _ h9 => h9) rfl d_M_around_357 ?_
                                      refine lv_iload hx hb d_M_around_360 (lv_at hl 1 rfl) ?_
                                      refine va_lald hx hb hK hP 1 0 rfl rfl (by obtain ⟨P9, g1, e⟩ := hj322; rw [e]; exact vp_in_nI (by omega) (by decide)) d_M_around_362 ?_
                                      refine lv_ladd hx hb d_M_around_363 ?_
                                      refine lv_ldc2 (v := 2) hx hb hown (hts _ tw_321) d_M_around_364 ?_
                                      refine lv_ldiv hx hb d_M_around_367 (by decide) ?_
                                      refine lv_lload hx hb d_M_around_368 (lv_at hl 11 rfl) ?_
                                      refine lv_lsub hx hb d_M_around_370 ?_
                                      exact J371 ((((px (Int32.toNatClampNeg v238_l18)) + (px (Int32.toNatClampNeg v322_l19))) / 2) - x) hres ls _ _ (lv_sub hl [0, 1, 2, 3, 4, 5, 6, 7, 8, 9, 10, 11, 12] rfl) hP hD hS
                                    · rw [if_neg h333] at hres
                                      refine lv_aload_n hx hb d_M_around_336 rfl (lv_at hl 9 rfl) ?_
                                      refine va_get (D := (dC, dI)) (ci := 2) (v := .ref apx) (C := R_M) (T := F_M) (N := 11) hx hb hts in_M hown hK hP 0 rfl rfl 1 (by decide) (hts _ tw_280) (fun _ h9 => h9) rfl d_M_around_337 ?_
                                      refine lv_iload hx hb d_M_around_340 (lv_at hl 1 rfl) ?_
                                      refine va_lald hx hb hK hP 1 0 rfl rfl (by obtain ⟨P9, g1, e⟩ := hj322; rw [e]; exact vp_in_nI (by omega) (by decide)) d_M_around_342 ?_
                                      refine lv_lload hx hb d_M_around_343 (lv_at hl 11 rfl) ?_
                                      refine lv_lsub hx hb d_M_around_345 ?_
                                      refine lv_goto (tgt := 371) hx hb d_M_around_346 rfl ?_
                                      exact J371 ((px (Int32.toNatClampNeg v322_l19)) - x) hres ls _ _ (lv_sub hl [0, 1, 2, 3, 4, 5, 6, 7, 8, 9, 10, 11, 12] rfl) hP hD hS
                                  exact K322 (fr + ((((t87_0 - fr) + k) + 1) - (((t87_0 - fr) + k) + 1) / (to - fr) * (to - fr))) (by obtain ⟨kk, g1, e⟩ := hinv; obtain ⟨s9, g2, g3, e3⟩ := hj87; exact ⟨A9 + (s9 - A9 + (kk + 1)) % (B9 - A9), ar_lt hAB, by rw [eA, eB, e, e3, Int32.add_assoc (nI s9 - nI A9), nI_1]; exact ar_idx g2 g3 hB (by omega)⟩) hres ls _ _ (lv_sub hl [0, 1, 2, 3, 4, 5, 6, 7, 8, 9, 10, 11] rfl) hP hD hS
                                · rw [if_neg h245] at hres
                                  refine lv_aload_n hx hb d_M_around_248 rfl (lv_at hl 7 rfl) ?_
                                  refine lv_lload hx hb d_M_around_249 (lv_at hl 4 rfl) ?_
                                  refine lv_lload hx hb d_M_around_251 (lv_at hl 3 rfl) ?_
                                  refine lv_aload_n hx hb d_M_around_253 rfl (lv_at hl 7 rfl) ?_
                                  refine va_get (D := (dC, dI)) (ci := 2) (v := .ref apx) (C := R_M) (T := F_M) (N := 11) hx hb hts in_M hown hK hP 0 rfl rfl 1 (by decide) (hts _ tw_280) (fun _ h9 => h9) rfl d_M_around_254 ?_
                                  refine lv_iload hx hb d_M_around_257 (lv_at hl 0 rfl) ?_
                                  refine va_lald hx hb hK hP 1 0 rfl rfl (by obtain ⟨P9, g1, e⟩ := hj238; rw [e]; exact vp_in_nI (by omega) (by decide)) d_M_around_259 ?_
                                  refine lv_lload hx hb d_M_around_260 (lv_at hl 9 rfl) ?_
                                  refine lv_lsub hx hb d_M_around_262 ?_
                                  refine lv_aload_n hx hb d_M_around_263 rfl (lv_at hl 7 rfl) ?_
                                  refine va_get (D := (dC, dI)) (ci := 2) (v := .ref apy) (C := R_M) (T := F_M) (N := 11) hx hb hts in_M hown hK hP 0 rfl rfl 2 (by decide) (hts _ tw_281) (fun _ h9 => h9) rfl d_M_around_264 ?_
                                  refine lv_iload hx hb d_M_around_267 (lv_at hl 0 rfl) ?_
                                  refine va_lald hx hb hK hP 2 0 rfl rfl (by obtain ⟨P9, g1, e⟩ := hj238; rw [e]; exact vp_in_nI (by omega) (by decide)) d_M_around_269 ?_
                                  refine lv_lload hx hb d_M_around_270 (lv_at hl 10 rfl) ?_
                                  refine lv_lsub hx hb d_M_around_272 ?_
                                  refine cm_v (wc := [(h0, .inr (2, [.int wd, .ref apx, .ref apy, .ref aon, .ref aen, .int cn, .int pn, .int c1, .int n1, .ref afi, .ref ase])), (apx, .inl (cJ, 256, .inr (.inl px))), (apy, .inl (cJ, 256, .inr (.inl py))), (aon, .inl (cZ, 256, .inl on)), (aen, .inl (cI, 256, .inl en)), (afi, .inl (cJ, 6, .inr (.inl f1))), (ase, .inl (cJ, 6, .inr (.inl s1)))]) (wr := []) (W1 := [(h0, .inr (2, [.int wd, .ref apx, .ref apy, .ref aon, .ref aen, .int cn, .int pn, .int ((km_line c1 n1 ax ay ((px (Int32.toNatClampNeg v238_l18)) - x) ((py (Int32.toNatClampNeg v238_l18)) - y)).1), .int ((km_line c1 n1 ax ay ((px (Int32.toNatClampNeg v238_l18)) - x) ((py (Int32.toNatClampNeg v238_l18)) - y)).2), .ref afi, .ref ase])), (apx, .inl (cJ, 256, .inr (.inl px))), (apy, .inl (cJ, 256, .inr (.inl py))), (aon, .inl (cZ, 256, .inl on)), (aen, .inl (cI, 256, .inl en)), (afi, .inl (cJ, 6, .inr (.inl f1))), (ase, .inl (cJ, 6, .inr (.inl s1)))]) (w2 := [(h0, .inr (2, [.int wd, .ref apx, .ref apy, .ref aon, .ref aen, .int cn, .int pn, .int ((km_line c1 n1 ax ay ((px (Int32.toNatClampNeg v238_l18)) - x) ((py (Int32.toNatClampNeg v238_l18)) - y)).1), .int ((km_line c1 n1 ax ay ((px (Int32.toNatClampNeg v238_l18)) - x) ((py (Int32.toNatClampNeg v238_l18)) - y)).2), .ref afi, .ref ase])), (apx, .inl (cJ, 256, .inr (.inl px))), (apy, .inl (cJ, 256, .inr (.inl py))), (aon, .inl (cZ, 256, .inl on)), (aen, .inl (cI, 256, .inl en)), (afi, .inl (cJ, 6, .inr (.inl f1))), (ase, .inl (cJ, 6, .inr (.inl s1)))]) (va_runV (g := F0 m 273 ls [.long ((py (Int32.toNatClampNeg v238_l18)) - y), .long ((px (Int32.toNatClampNeg v238_l18)) - x), .long ay, .long ax, .ref h0]) (As := [.long ax, .long ay, .long ((px (Int32.toNatClampNeg v238_l18)) - x), .long ((py (Int32.toNatClampNeg v238_l18)) - y)]) (rest := []) ⟨hx, hb, hml, hown, hts⟩ (c_km_line l dC dI h0 apx apy aon aen afi ase cJ cZ cI wd cn pn px py on en f1 s1 c1 n1 ax ay ((px (Int32.toNatClampNeg v238_l18)) - x) ((py (Int32.toNatClampNeg v238_l18)) - y)  _) (cwV 4 hts (gi_V tw_346 tw_348 ts_12 tw_6 tw_349) rfl rfl rfl (by decide +kernel) ⟨(by rw [← hR]; exact Nat.le_of_ble_eq_true rfl), (by rw [← hR]; exact Nat.le_of_ble_eq_true rfl)⟩) ⟨mc_blind, va_recv (ci := 2) (q := (R_M, F_M, 11)) hK hP rfl (q0 := 0) rfl, mc_pre (hP.sub [0, 1, 2, 3, 4, 5, 6] rfl) (hK.sub [0, 1, 2] rfl) (hD.sub [0, 1, 2, 3, 4, 5, 6] (by decide) rfl)⟩ rfl rfl hl.1 rfl (lv_room (Nat.le_of_ble_eq_true rfl)) d_M_around_273 ⟨Nat.zero_le _, Nat.zero_le _⟩) hP hD hS hA [0, 1, 2, 3, 4, 5, 6] [] [0, 1, 2, 3, 4, 5, 6] rfl rfl (by decide) (by decide) rfl rfl (by decide) (fun H locs hP hD hS => ?_)
                                  have K276 : ∀ (x273 : Int32 × Int32), km_around_k276 px py x y k f1 s1 (km_around_L217 px py on fr to x y t87_0 t215_0 n) v238_l18 x273 = RES → ∀ (ls : Array Slot) (H : Heap) (locs : List Loc), lv_has ls 25 [(18, .int v238_l18), (17, .int t215_0), (16, .int k), (14, .long ay), (12, .long ax), (9, .int t87_0), (8, .int (to - fr)), (0, .ref h0), (2, .int fr), (4, .long x), (6, .long y)] → va_P (dC, dI) cls9 [(h0, .inr (2, [.int wd, .ref apx, .ref apy, .ref aon, .ref aen, .int cn, .int pn, .int x273.1, .int x273.2, .ref afi, .ref ase])), (apx, .inl (cJ, 256, .inr (.inl px))), (apy, .inl (cJ, 256, .inr (.inl py))), (aon, .inl (cZ, 256, .inl on)), (aen, .inl (cI, 256, .inl en)), (afi, .inl (cJ, 6, .inr (.inl f1))), (ase, .inl (cJ, 6, .inr (.inl s1)))] H → va_D A [(h0, .inr (2, [.int wd, .ref apx, .ref apy, .ref aon, .ref aen, .int cn, .int pn, .int x273.1, .int x273.2, .ref afi, .ref ase])), (apx, .inl (cJ, 256, .inr (.inl px))), (apy, .inl (cJ, 256, .inr (.inl py))), (aon, .inl (cZ, 256, .inl on)), (aen, .inl (cI, 256, .inl en)), (afi, .inl (cJ, 6, .inr (.inl f1))), (ase, .inl (cJ, 6, .inr (.inl s1)))] → va_S A s.heap H locs → W p l e R s m args below meth c H locs 0 0 Q (F0 m 276 ls []) := by
                                    intro x273 hres ls H locs hl hP hD hS
                                    unfold km_around_k276 at hres
                                    refine lv_aload_n hx hb d_M_around_276 rfl (lv_at hl 7 rfl) ?_
                                    refine va_get (D := (dC, dI)) (ci := 2) (v := .ref apx) (C := R_M) (T := F_M) (N := 11) hx hb hts in_M hown hK hP 0 rfl rfl 1 (by decide) (hts _ tw_280) (fun _ h9 => h9) rfl d_M_around_277 ?_
                                    refine lv_iload hx hb d_M_around_280 (lv_at hl 0 rfl) ?_
                                    refine va_lald hx hb hK hP 1 0 rfl rfl (by obtain ⟨P9, g1, e⟩ := hj238; rw [e]; exact vp_in_nI (by omega) (by decide)) d_M_around_282 ?_
                                    refine lv_lload hx hb d_M_around_283 (lv_at hl 9 rfl) ?_
                                    refine lv_lsub hx hb d_M_around_285 ?_
                                    refine lv_lstore (lv' := [(12, .long ((px (Int32.toNatClampNeg v238_l18)) - x)), (18, .int v238_l18), (17, .int t215_0), (16, .int k), (14, .long ay), (9, .int t87_0), (8, .int (to - fr)), (0, .ref h0), (2, .int fr), (4, .long x), (6, .long y)]) hx hb d_M_around_286 hl (by decide) rfl (fun ls hl => ?_)
                                    refine lv_aload_n hx hb d_M_around_288 rfl (lv_at hl 7 rfl) ?_
                                    refine va_get (D := (dC, dI)) (ci := 2) (v := .ref apy) (C := R_M) (T := F_M) (N := 11) hx hb hts in_M hown hK hP 0 rfl rfl 2 (by decide) (hts _ tw_281) (fun _ h9 => h9) rfl d_M_around_289 ?_
                                    refine lv_iload hx hb d_M_around_292 (lv_at hl 1 rfl) ?_
                                    refine va_lald hx hb hK hP 2 0 rfl rfl (by obtain ⟨P9, g1, e⟩ := hj238; rw [e]; exact vp_in_nI (by omega) (by decide)) d_M_around_294 ?_
                                    refine lv_lload hx hb d_M_around_295 (lv_at hl 10 rfl) ?_
                                    refine lv_lsub hx hb d_M_around_297 ?_
                                    refine lv_lstore (lv' := [(14, .long ((py (Int32.toNatClampNeg v238_l18)) - y)), (12, .long ((px (Int32.toNatClampNeg v238_l18)) - x)), (18, .int v238_l18), (17, .int t215_0), (16, .int k), (9, .int t87_0), (8, .int (to - fr)), (0, .ref h0), (2, .int fr), (4, .long x), (6, .long y)]) hx hb d_M_around_298 hl (by decide) rfl (fun ls hl => ?_)
                                    refine lv_iinc (k := 4) (v := k + 1) (lv' := [(16, .int (k + 1)), (14, .long ((py (Int32.toNatClampNeg v238_l18)) - y)), (12, .long ((px (Int32.toNatClampNeg v238_l18)) - x)), (18, .int v238_l18), (17, .int t215_0), (9, .int t87_0), (8, .int (to - fr)), (0, .ref h0), (2, .int fr), (4, .long x), (6, .long y)]) hx hb d_M_around_300 hl rfl rfl (by decide) rfl (fun ls hl => ?_)
                                    refine lv_goto (tgt := 217) hx hb d_M_around_303 rfl ?_
                                    exact ih (k + 1) ((px (Int32.toNatClampNeg v238_l18)) - x) ((py (Int32.toNatClampNeg v238_l18)) - y) x273.1 x273.2 f1 s1 (by obtain ⟨kk, g1, e⟩ := hinv; obtain ⟨S9, g2, e2⟩ := hj215; rw [e2, e] at h221; have h9 := nI_nle_lt (by omega) h221; first | exact ⟨kk + 1, by omega, by rw [e, nI_1]⟩ | exact hj467.elim (fun h => ⟨kk + 1, by omega, by rw [h, e]; exact nI_1 kk⟩) (fun h => ⟨kk + 2, by omega, by rw [h, e]; exact nI_add kk 2⟩)) (by obtain ⟨kk, g1, e⟩ := hinv; obtain ⟨S9, g2, e2⟩ := hj215; rw [e2, e] at h221; have h9 := nI_nle_lt (by omega) h221; rw [e, nI_clamp (by omega)] at hmu; first | (rw [e, nI_1, nI_clamp (by omega)]; omega) | exact hj467.elim (fun h => by rw [h, e, nI_1, nI_clamp (by omega)]; omega) (fun h => by rw [h, e, show nI kk + 2 = nI (kk + 2) from nI_add kk 2, nI_clamp (by omega)]; omega)) hres ls _ _ (lv_sub hl [4, 0, 1, 2, 5, 6, 7, 8, 9, 10] rfl) hP hD hS
                                  exact K276 (km_line c1 n1 ax ay ((px (Int32.toNatClampNeg v238_l18)) - x) ((py (Int32.toNatClampNeg v238_l18)) - y)) hres ls _ _ (lv_sub hl [0, 1, 2, 3, 4, 5, 6, 7, 8, 9, 10] rfl) hP hD hS
                              exact K238 (fr + (((t87_0 - fr) + k) - ((t87_0 - fr) + k) / (to - fr) * (to - fr))) (by obtain ⟨kk, g1, e⟩ := hinv; obtain ⟨s9, g2, g3, e3⟩ := hj87; exact ⟨A9 + (s9 - A9 + kk) % (B9 - A9), ar_lt hAB, by rw [eA, eB, e, e3]; exact ar_idx g2 g3 hB (by omega)⟩) hres ls _ _ (lv_sub hl [0, 1, 2, 3, 4, 5, 6, 7, 8, 9, 10] rfl) hP hD hS
                        exact L217 301 t199_0 t145_0 t187_0 tc tn fi se (by exact hj199.elim (fun h => ⟨0, by omega, by rw [h]; rfl⟩) (fun h => ⟨1, by omega, by rw [h]; rfl⟩)) (by omega) hres ls _ _ (lv_sub hl [0, 1, 2, 3, 4, 5, 6, 7, 8, 9] rfl) hP hD hS
                      refine lv_if_eq (tgt := 211) hx hb d_M_around_203 rfl (fun h203 => ?_) (fun h203 => ?_)
                      · rw [if_pos h203] at hres
                        refine lv_iload hx hb d_M_around_211 (lv_at hl 5 rfl) ?_
                        refine lv_iconst (v := 1) hx hb d_M_around_213 (by decide) ?_
                        refine lv_iadd hx hb d_M_around_214 ?_
                        exact J215 ((to - fr) + 1) (by first | exact ⟨B9 - A9, by omega, by rw [eA, eB]; exact pk_sub (by omega)⟩ | exact ⟨B9 - A9 + 1, by omega, by rw [eA, eB, pk_sub (by omega), nI_1]⟩) hres ls _ _ (lv_sub hl [0, 1, 2, 4, 5, 6, 7, 8, 9] rfl) hP hD hS
                      · rw [if_neg h203] at hres
                        refine lv_iload hx hb d_M_around_206 (lv_at hl 5 rfl) ?_
                        refine lv_goto (tgt := 215) hx hb d_M_around_208 rfl ?_
                        exact J215 (to - fr) (by first | exact ⟨B9 - A9, by omega, by rw [eA, eB]; exact pk_sub (by omega)⟩ | exact ⟨B9 - A9 + 1, by omega, by rw [eA, eB, pk_sub (by omega), nI_1]⟩) hres ls _ _ (lv_sub hl [0, 1, 2, 4, 5, 6, 7, 8, 9] rfl) hP hD hS
                    refine lv_if_eq (tgt := 198) hx hb d_M_around_191 rfl (fun h191 => ?_) (fun h191 => ?_)
                    · rw [if_pos h191] at hres
                      refine lv_iconst (v := 1) hx hb d_M_around_198 (by decide) ?_
                      exact J199 1 (by decide) hres ls _ _ (lv_sub hl [0, 1, 2, 3, 4, 5, 6, 7, 8] rfl) hP hD hS
                    · rw [if_neg h191] at hres
                      refine lv_iconst (v := 0) hx hb d_M_around_194 (by decide) ?_
                      refine lv_goto (tgt := 199) hx hb d_M_around_195 rfl ?_
                      exact J199 0 (by decide) hres ls _ _ (lv_sub hl [0, 1, 2, 3, 4, 5, 6, 7, 8] rfl) hP hD hS
                  refine lv_if_eq (tgt := 177) hx hb d_M_around_149 rfl (fun h149 => ?_) (fun h149 => ?_)
                  · rw [if_pos h149] at hres
                    refine lv_aload_n hx hb d_M_around_177 rfl (lv_at hl 5 rfl) ?_
                    refine va_get (D := (dC, dI)) (ci := 2) (v := .ref apy) (C := R_M) (T := F_M) (N := 11) hx hb hts in_M hown hK hP 0 rfl rfl 2 (by decide) (hts _ tw_281) (fun _ h9 => h9) rfl d_M_around_178 ?_
                    refine lv_iload hx hb d_M_around_181 (lv_at hl 3 rfl) ?_
                    refine va_lald hx hb hK hP 2 0 rfl rfl (by obtain ⟨s9, g1, g2, e⟩ := hj87; rw [e]; exact vp_in_nI (by omega) (by decide)) d_M_around_183 ?_
                    refine lv_lload hx hb d_M_around_184 (lv_at hl 8 rfl) ?_
                    refine lv_lsub hx hb d_M_around_186 ?_
                    exact J187 ((py (Int32.toNatClampNeg t87_0)) - y) hres ls _ _ (lv_sub hl [0, 2, 3, 4, 5, 6, 7, 8] rfl) hP hD hS
                  · rw [if_neg h149] at hres
                    refine lv_aload_n hx hb d_M_around_152 rfl (lv_at hl 5 rfl) ?_
                    refine va_get (D := (dC, dI)) (ci := 2) (v := .ref apy) (C := R_M) (T := F_M) (N := 11) hx hb hts in_M hown hK hP 0 rfl rfl 2 (by decide) (hts _ tw_281) (fun _ h9 => h9) rfl d_M_around_153 ?_
                    refine lv_iload hx hb d_M_around_156 (lv_at hl 1 rfl) ?_
                    refine va_lald hx hb hK hP 2 0 rfl rfl (by obtain ⟨b9, g1, e⟩ := hj103; rw [e]; exact vp_in_nI (by omega) (by decide)) d_M_around_158 ?_
                    refine lv_aload_n hx hb d_M_around_159 rfl (lv_at hl 5 rfl) ?_
                    refine va_get (D := (dC, dI)) (ci := 2) (v := .ref apy) (C := R_M) (T := F_M) (N := 11) hx hb hts in_M hown hK hP 0 rfl rfl 2 (by decide) (hts _ tw_281) (fun _ h9 => h9) rfl d_M_around_160 ?_
                    refine lv_iload hx hb d_M_around_163 (lv_at hl 3 rfl) ?_
                    refine va_lald hx hb hK hP 2 0 rfl rfl (by obtain ⟨s9, g1, g2, e⟩ := hj87; rw [e]; exact vp_in_nI (by omega) (by decide)) d_M_around_165 ?_
                    refine lv_ladd hx hb d_M_around_166 ?_
                    refine lv_ldc2 (v := 2) hx hb hown (hts _ tw_321) d_M_around_167 ?_
                    refine lv_ldiv hx hb d_M_around_170 (by decide) ?_
                    refine lv_lload hx hb d_M_around_171 (lv_at hl 8 rfl) ?_
                    refine lv_lsub hx hb d_M_around_173 ?_
                    refine lv_goto (tgt := 187) hx hb d_M_around_174 rfl ?_
                    exact J187 ((((py (Int32.toNatClampNeg t103_0)) + (py (Int32.toNatClampNeg t87_0))) / 2) - y) hres ls _ _ (lv_sub hl [0, 2, 3, 4, 5, 6, 7, 8] rfl) hP hD hS
                refine lv_if_eq (tgt := 135) hx hb d_M_around_107 rfl (fun h107 => ?_) (fun h107 => ?_)
                · rw [if_pos h107] at hres
                  refine lv_aload_n hx hb d_M_around_135 rfl (lv_at hl 4 rfl) ?_
                  refine va_get (D := (dC, dI)) (ci := 2) (v := .ref apx) (C := R_M) (T := F_M) (N := 11) hx hb hts in_M hown hK hP 0 rfl rfl 1 (by decide) (hts _ tw_280) (fun _ h9 => h9) rfl d_M_around_136 ?_
                  refine lv_iload hx hb d_M_around_139 (lv_at hl 2 rfl) ?_
                  refine va_lald hx hb hK hP 1 0 rfl rfl (by obtain ⟨s9, g1, g2, e⟩ := hj87; rw [e]; exact vp_in_nI (by omega) (by decide)) d_M_around_141 ?_
                  refine lv_lload hx hb d_M_around_142 (lv_at hl 6 rfl) ?_
                  refine lv_lsub hx hb d_M_around_144 ?_
                  exact J145 ((px (Int32.toNatClampNeg t87_0)) - x) hres ls _ _ (lv_sub hl [0, 1, 2, 3, 4, 5, 6, 7] rfl) hP hD hS
                · rw [if_neg h107] at hres
                  refine lv_aload_n hx hb d_M_around_110 rfl (lv_at hl 4 rfl) ?_
                  refine va_get (D := (dC, dI)) (ci := 2) (v := .ref apx) (C := R_M) (T := F_M) (N := 11) hx hb hts in_M hown hK hP 0 rfl rfl 1 (by decide) (hts _ tw_280) (fun _ h9 => h9) rfl d_M_around_111 ?_
                  refine lv_iload hx hb d_M_around_114 (lv_at hl 0 rfl) ?_
                  refine va_lald hx hb hK hP 1 0 rfl rfl (by obtain ⟨b9, g1, e⟩ := hj103; rw [e]; exact vp_in_nI (by omega) (by decide)) d_M_around_116 ?_
                  refine lv_aload_n hx hb d_M_around_117 rfl (lv_at hl 4 rfl) ?_
                  refine va_get (D := (dC, dI)) (ci := 2) (v := .ref apx) (C := R_M) (T := F_M) (N := 11) hx hb hts in_M hown hK hP 0 rfl rfl 1 (by decide) (hts _ tw_280) (fun _ h9 => h9) rfl d_M_around_118 ?_
                  refine lv_iload hx hb d_M_around_121 (lv_at hl 2 rfl) ?_
                  refine va_lald hx hb hK hP 1 0 rfl rfl (by obtain ⟨s9, g1, g2, e⟩ := hj87; rw [e]; exact vp_in_nI (by omega) (by decide)) d_M_around_123 ?_
                  refine lv_ladd hx hb d_M_around_124 ?_
                  refine lv_ldc2 (v := 2) hx hb hown (hts _ tw_321) d_M_around_125 ?_
                  refine lv_ldiv hx hb d_M_around_128 (by decide) ?_
                  refine lv_lload hx hb d_M_around_129 (lv_at hl 6 rfl) ?_
                  refine lv_lsub hx hb d_M_around_131 ?_
                  refine lv_goto (tgt := 145) hx hb d_M_around_132 rfl ?_
                  exact J145 ((((px (Int32.toNatClampNeg t103_0)) + (px (Int32.toNatClampNeg t87_0))) / 2) - x) hres ls _ _ (lv_sub hl [0, 1, 2, 3, 4, 5, 6, 7] rfl) hP hD hS
              refine lv_icmp_ne (tgt := 99) hx hb d_M_around_90 rfl (fun h90 => ?_) (fun h90 => ?_)
              · rw [if_neg h90] at hres
                refine lv_iload hx hb d_M_around_99 (lv_at hl 1 rfl) ?_
                refine lv_iconst (v := 1) hx hb d_M_around_101 (by decide) ?_
                refine lv_isub hx hb d_M_around_102 ?_
                exact J103 (t87_0 - 1) (by first | (exact ⟨B9 - 1, by omega, by rw [eB]; have h9 := nI_pred (B9 - 1); rw [Nat.sub_add_cancel (by omega)] at h9; exact h9⟩) | (obtain ⟨s9, g1, g2, e⟩ := hj87; have h8 : s9 ≠ A9 := fun z => h90 (by rw [e, eA, z]); exact ⟨s9 - 1, by omega, by rw [e]; have h9 := nI_pred (s9 - 1); rw [Nat.sub_add_cancel (by omega)] at h9; exact h9⟩)) hres ls _ _ (lv_sub hl [0, 1, 2, 3, 4, 6, 7] rfl) hP hD hS
              · rw [if_pos h90] at hres
                refine lv_iload_n hx hb d_M_around_93 rfl (lv_at hl 5 rfl) ?_
                refine lv_iconst (v := 1) hx hb d_M_around_94 (by decide) ?_
                refine lv_isub hx hb d_M_around_95 ?_
                refine lv_goto (tgt := 103) hx hb d_M_around_96 rfl ?_
                exact J103 (to - 1) (by first | (exact ⟨B9 - 1, by omega, by rw [eB]; have h9 := nI_pred (B9 - 1); rw [Nat.sub_add_cancel (by omega)] at h9; exact h9⟩) | (obtain ⟨s9, g1, g2, e⟩ := hj87; have h8 : s9 ≠ A9 := fun z => h90 (by rw [e, eA, z]); exact ⟨s9 - 1, by omega, by rw [e]; have h9 := nI_pred (s9 - 1); rw [Nat.sub_add_cancel (by omega)] at h9; exact h9⟩)) hres ls _ _ (lv_sub hl [0, 1, 2, 3, 4, 6, 7] rfl) hP hD hS
            refine lv_if_eq (tgt := 87) hx hb d_M_around_81 rfl (fun h81 => ?_) (fun h81 => ?_)
            · rw [if_pos h81] at hres
              exact J87 st (by first | exact ⟨A9, Nat.le_refl _, hAB, eA⟩ | (obtain ⟨j, g1, g2, e⟩ := hinv; exact ⟨j, g1, Nat.lt_of_le_of_ne g2 (fun z => hj77 h81 (by rw [e, eB, z])), e⟩)) hres ls _ _ (lv_sub hl [0, 1, 2, 3, 4, 5, 6, 7] rfl) hP hD hS
            · rw [if_neg h81] at hres
              refine lv_iload_n hx hb d_M_around_84 rfl (lv_at hl 4 rfl) ?_
              refine lv_istore (lv' := [(9, .int fr), (10, .int t77_0), (8, .int (to - fr)), (0, .ref h0), (2, .int fr), (3, .int to), (4, .long x), (6, .long y)]) hx hb d_M_around_85 hl (by decide) rfl (fun ls hl => ?_)
              exact J87 fr (by first | exact ⟨A9, Nat.le_refl _, hAB, eA⟩ | (obtain ⟨j, g1, g2, e⟩ := hinv; exact ⟨j, g1, Nat.lt_of_le_of_ne g2 (fun z => hj77 h81 (by rw [e, eB, z])), e⟩)) hres ls _ _ (lv_sub hl [1, 0, 2, 3, 4, 5, 6, 7] rfl) hP hD hS
          refine lv_icmp_ne (tgt := 76) hx hb d_M_around_69 rfl (fun h69 => ?_) (fun h69 => ?_)
          · rw [if_neg h69] at hres
            refine lv_iconst (v := 0) hx hb d_M_around_76 (by decide) ?_
            exact J77 0 (by first | exact fun _ => h69 | exact fun h => absurd h (by decide)) hres ls _ _ (lv_sub hl [0, 1, 2, 3, 4, 5, 6] rfl) hP hD hS
          · rw [if_pos h69] at hres
            refine lv_iconst (v := 1) hx hb d_M_around_72 (by decide) ?_
            refine lv_goto (tgt := 77) hx hb d_M_around_73 rfl ?_
            exact J77 1 (by first | exact fun _ => h69 | exact fun h => absurd h (by decide)) hres ls _ _ (lv_sub hl [0, 1, 2, 3, 4, 5, 6] rfl) hP hD hS
        refine lv_icmp_ge (tgt := 66) hx hb d_M_around_47 rfl (fun h47 => ?_) (fun h47 => ?_)
        · rw [if_pos h47] at hres
          exact J66  hres ls _ _ (lv_sub hl [0, 1, 2, 3, 4, 5, 6] rfl) hP hD hS
        · rw [if_neg h47] at hres
          refine lv_aload_n hx hb d_M_around_50 rfl (lv_at hl 2 rfl) ?_
          refine va_get (D := (dC, dI)) (ci := 2) (v := .ref aon) (C := R_M) (T := F_M) (N := 11) hx hb hts in_M hown hK hP 0 rfl rfl 3 (by decide) (hts _ tw_282) (fun _ h9 => h9) rfl d_M_around_51 ?_
          refine lv_iload hx hb d_M_around_54 (lv_at hl 0 rfl) ?_
          refine va_zald hx hb hK hP 3 1 rfl rfl (by obtain ⟨j, g1, g2, e⟩ := hinv; rw [eB, e] at h47; have h9 := nI_nle_lt (by omega) h47; rw [e]; exact vp_in_nI (by omega) (by decide)) d_M_around_56 ?_
          refine lv_if_ne (tgt := 66) hx hb d_M_around_57 rfl (fun h57 => ?_) (fun h57 => ?_)
          · rw [if_neg h57] at hres
            exact J66  hres ls _ _ (lv_sub hl [0, 1, 2, 3, 4, 5, 6] rfl) hP hD hS
          · rw [if_pos h57] at hres
            refine lv_iinc (k := 0) (v := st + 1) (lv' := [(9, .int (st + 1)), (8, .int (to - fr)), (0, .ref h0), (2, .int fr), (3, .int to), (4, .long x), (6, .long y)]) hx hb d_M_around_60 hl rfl rfl (by decide) rfl (fun ls hl => ?_)
            refine lv_goto (tgt := 44) hx hb d_M_around_63 rfl ?_
            exact ih (st + 1) (by obtain ⟨j, g1, g2, e⟩ := hinv; rw [eB, e] at h47; have h9 := nI_nle_lt (by omega) h47; exact ⟨j + 1, by omega, by omega, by rw [e, nI_1]⟩) (by obtain ⟨j, g1, g2, e⟩ := hinv; rw [eB, e] at h47; have h9 := nI_nle_lt (by omega) h47; rw [e, eB, nI_clamp (by omega), nI_clamp (by omega)] at hmu; rw [e, eB, nI_1, nI_clamp (by omega), nI_clamp (by omega)]; omega) hres ls _ _ (lv_sub hl [0, 1, 2, 3, 4, 5, 6] rfl) hP hD hS
    exact L44 257 fr (by exact ⟨A9, Nat.le_refl _, by omega, eA⟩) (by rw [eA, eB, nI_clamp (by omega), nI_clamp (by omega)]; omega) hres ls _ _ (lv_sub hl [0, 1, 2, 4, 5, 6, 7] rfl) hP hD hS
  · rw [if_pos h8] at hres
    refine lv_aload_n hx hb d_M_around_11 rfl (lv_at hl 1 rfl) ?_
    refine va_get (D := (dC, dI)) (ci := 2) (v := .ref apx) (C := R_M) (T := F_M) (N := 11) hx hb hts in_M hown hK hP 0 rfl rfl 1 (by decide) (hts _ tw_280) (fun _ h9 => h9) rfl d_M_around_12 ?_
    refine lv_iload_n hx hb d_M_around_15 rfl (lv_at hl 3 rfl) ?_
    refine va_lald hx hb hK hP 1 0 rfl rfl (by rw [eA]; exact vp_in_nI (by omega) (by decide)) d_M_around_16 ?_
    refine lv_lload hx hb d_M_around_17 (lv_at hl 5 rfl) ?_
    refine W.lcmp hx hb d_M_around_19 ?_
    have J40 : ∀ (t40_0 : Int32), km_around_j40 tn fi se t40_0 = RES → ∀ (ls : Array Slot) (H : Heap) (locs : List Loc), lv_has ls 25 [] → va_P (dC, dI) cls9 [(h0, .inr (2, [.int wd, .ref apx, .ref apy, .ref aon, .ref aen, .int cn, .int pn, .int t40_0, .int tn, .ref afi, .ref ase])), (apx, .inl (cJ, 256, .inr (.inl px))), (apy, .inl (cJ, 256, .inr (.inl py))), (aon, .inl (cZ, 256, .inl on)), (aen, .inl (cI, 256, .inl en)), (afi, .inl (cJ, 6, .inr (.inl fi))), (ase, .inl (cJ, 6, .inr (.inl se)))] H → va_D A [(h0, .inr (2, [.int wd, .ref apx, .ref apy, .ref aon, .ref aen, .int cn, .int pn, .int t40_0, .int tn, .ref afi, .ref ase])), (apx, .inl (cJ, 256, .inr (.inl px))), (apy, .inl (cJ, 256, .inr (.inl py))), (aon, .inl (cZ, 256, .inl on)), (aen, .inl (cI, 256, .inl en)), (afi, .inl (cJ, 6, .inr (.inl fi))), (ase, .inl (cJ, 6, .inr (.inl se)))] → va_S A s.heap H locs → W p l e R s m args below meth c H locs 0 0 Q (F0 m 40 ls []) := by
      intro t40_0 hres ls H locs hl hP hD hS
      unfold km_around_j40 at hres
      rw [hQ]
      subst hres
      exact W.vret hx hb hr (fun t ht hW => ⟨⟨(), rfl, trivial, ⟨by rw [ht]; exact hP, va_K.moved hW.alike hK, hD⟩⟩, hS.F ht⟩) hS.2.2 d_M_around_40
    refine lv_if_ne (tgt := 40) hx hb d_M_around_20 rfl (fun h20 => ?_) (fun h20 => ?_)
    · rw [if_neg h20] at hres
      exact J40 tc hres ls _ _ (lv_sub hl [] rfl) hP hD hS
    · rw [if_pos h20] at hres
      refine lv_aload_n hx hb d_M_around_23 rfl (lv_at hl 1 rfl) ?_
      refine va_get (D := (dC, dI)) (ci := 2) (v := .ref apy) (C := R_M) (T := F_M) (N := 11) hx hb hts in_M hown hK hP 0 rfl rfl 2 (by decide) (hts _ tw_281) (fun _ h9 => h9) rfl d_M_around_24 ?_
      refine lv_iload_n hx hb d_M_around_27 rfl (lv_at hl 3 rfl) ?_
      refine va_lald hx hb hK hP 2 0 rfl rfl (by rw [eA]; exact vp_in_nI (by omega) (by decide)) d_M_around_28 ?_
      refine lv_lload hx hb d_M_around_29 (lv_at hl 6 rfl) ?_
      refine W.lcmp hx hb d_M_around_31 ?_
      refine lv_if_ne (tgt := 40) hx hb d_M_around_32 rfl (fun h32 => ?_) (fun h32 => ?_)
      · rw [if_neg h32] at hres
        exact J40 tc hres ls _ _ (lv_sub hl [] rfl) hP hD hS
      · rw [if_pos h32] at hres
        refine lv_aload_n hx hb d_M_around_35 rfl (lv_at hl 1 rfl) ?_
        refine lv_iconst (v := 1) hx hb d_M_around_36 (by decide) ?_
        refine va_put (D := (dC, dI)) (ci := 2) (v := .int 1) (ty := .boolean) (C := R_M) (T := F_M) (N := 11) hx hb hts in_M tf_M tok_M n_M hown hK hP hD hS 0 rfl rfl 7 (by decide) (hts _ tw_286) (fun _ h9 => h9) rfl (by decide +kernel) (by rfl) (by rfl) (Nat.le_of_ble_eq_true rfl) d_M_around_37 (fun H locs hP hD hS => ?_)
        have hP : va_P (dC, dI) cls9 [(h0, .inr (2, [.int wd, .ref apx, .ref apy, .ref aon, .ref aen, .int cn, .int pn, .int 1, .int tn, .ref afi, .ref ase])), (apx, .inl (cJ, 256, .inr (.inl px))), (apy, .inl (cJ, 256, .inr (.inl py))), (aon, .inl (cZ, 256, .inl on)), (aen, .inl (cI, 256, .inl en)), (afi, .inl (cJ, 6, .inr (.inl fi))), (ase, .inl (cJ, 6, .inr (.inl se)))] H := hP
        have hD : va_D A [(h0, .inr (2, [.int wd, .ref apx, .ref apy, .ref aon, .ref aen, .int cn, .int pn, .int 1, .int tn, .ref afi, .ref ase])), (apx, .inl (cJ, 256, .inr (.inl px))), (apy, .inl (cJ, 256, .inr (.inl py))), (aon, .inl (cZ, 256, .inl on)), (aen, .inl (cI, 256, .inl en)), (afi, .inl (cJ, 6, .inr (.inl fi))), (ase, .inl (cJ, 6, .inr (.inl se)))] := hD
        exact J40 1 hres ls _ _ (lv_sub hl [] rfl) hP hD hS
end
