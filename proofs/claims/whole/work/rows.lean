section
-- ===== PART A: goes FIRST, ahead of the names: the tables' words, and 'selects' of the private methods out of them =====
/-- a private method of a class that the tables say can be made, by its rows of tables_1 -/
def lw_okq (q : MethodName × Nat) : Prop := (q.1.cls ≠ "java/lang/invoke/MethodHandle" ∧ q.1.cls ≠ "java/lang/invoke/VarHandle") ∧ Cond.instantiable q.1.cls q.2 ∈ tables_1 ∧ Cond.privateMethod q.1 ∈ tables_1 ∧ Cond.instanceMethod q.1 ∈ tables_1
theorem lw_p0 : lw_okq (⟨"PostDrawer$Drawing", "greaterHalf", "()I"⟩, 5) := ⟨⟨by decide +kernel, by decide +kernel⟩, List.mem_of_getElem? (i := 16) (by decide +kernel), List.mem_of_getElem? (i := 109) (by decide +kernel), List.mem_of_getElem? (i := 110) (by decide +kernel)⟩
theorem lw_p1 : lw_okq (⟨"PostDrawer$Drawing", "countAbove", "(I)I"⟩, 5) := ⟨⟨by decide +kernel, by decide +kernel⟩, List.mem_of_getElem? (i := 16) (by decide +kernel), List.mem_of_getElem? (i := 113) (by decide +kernel), List.mem_of_getElem? (i := 114) (by decide +kernel)⟩
theorem lw_p2 : lw_okq (⟨"PostDrawer$Drawing", "isAbove", "(II)Z"⟩, 5) := ⟨⟨by decide +kernel, by decide +kernel⟩, List.mem_of_getElem? (i := 16) (by decide +kernel), List.mem_of_getElem? (i := 117) (by decide +kernel), List.mem_of_getElem? (i := 118) (by decide +kernel)⟩
theorem lw_p3 : lw_okq (⟨"PostDrawer$Verdicts", "find", "(I)I"⟩, 3) := ⟨⟨by decide +kernel, by decide +kernel⟩, List.mem_of_getElem? (i := 43) (by decide +kernel), List.mem_of_getElem? (i := 178) (by decide +kernel), List.mem_of_getElem? (i := 179) (by decide +kernel)⟩
theorem lw_p4 : lw_okq (⟨"PostDrawer", "leaveOutAll", "()V"⟩, 6) := ⟨⟨by decide +kernel, by decide +kernel⟩, List.mem_of_getElem? (i := 8) (by decide +kernel), List.mem_of_getElem? (i := 190) (by decide +kernel), List.mem_of_getElem? (i := 191) (by decide +kernel)⟩
theorem lw_p5 : lw_okq (⟨"PostDrawer", "goThrough", "()V"⟩, 6) := ⟨⟨by decide +kernel, by decide +kernel⟩, List.mem_of_getElem? (i := 8) (by decide +kernel), List.mem_of_getElem? (i := 194) (by decide +kernel), List.mem_of_getElem? (i := 195) (by decide +kernel)⟩
theorem lw_p6 : lw_okq (⟨"PostDrawer", "canLeaveOut", "(I)Z"⟩, 6) := ⟨⟨by decide +kernel, by decide +kernel⟩, List.mem_of_getElem? (i := 8) (by decide +kernel), List.mem_of_getElem? (i := 198) (by decide +kernel), List.mem_of_getElem? (i := 199) (by decide +kernel)⟩
theorem lw_p7 : lw_okq (⟨"PostDrawerModel", "placeOf", "(I)I"⟩, 10) := ⟨⟨by decide +kernel, by decide +kernel⟩, List.mem_of_getElem? (i := 230) (by decide +kernel), List.mem_of_getElem? (i := 311) (by decide +kernel), List.mem_of_getElem? (i := 312) (by decide +kernel)⟩
theorem lw_p8 : lw_okq (⟨"PostDrawerModel", "stays", "(I)Z"⟩, 10) := ⟨⟨by decide +kernel, by decide +kernel⟩, List.mem_of_getElem? (i := 230) (by decide +kernel), List.mem_of_getElem? (i := 319) (by decide +kernel), List.mem_of_getElem? (i := 320) (by decide +kernel)⟩
theorem lw_p9 : lw_okq (⟨"PostDrawerModel", "without", "(II)I"⟩, 10) := ⟨⟨by decide +kernel, by decide +kernel⟩, List.mem_of_getElem? (i := 230) (by decide +kernel), List.mem_of_getElem? (i := 323) (by decide +kernel), List.mem_of_getElem? (i := 324) (by decide +kernel)⟩
def lw_privs_1 : List (MethodName × Nat) := [(⟨"PostDrawer$Drawing", "greaterHalf", "()I"⟩, 5), (⟨"PostDrawer$Drawing", "countAbove", "(I)I"⟩, 5), (⟨"PostDrawer$Drawing", "isAbove", "(II)Z"⟩, 5), (⟨"PostDrawer$Verdicts", "find", "(I)I"⟩, 3), (⟨"PostDrawer", "leaveOutAll", "()V"⟩, 6), (⟨"PostDrawer", "goThrough", "()V"⟩, 6), (⟨"PostDrawer", "canLeaveOut", "(I)Z"⟩, 6), (⟨"PostDrawerModel", "placeOf", "(I)I"⟩, 10), (⟨"PostDrawerModel", "stays", "(I)Z"⟩, 10), (⟨"PostDrawerModel", "without", "(II)I"⟩, 10)]
theorem lw_r1 : ∀ q ∈ lw_privs_1, lw_okq q := List.forall_mem_cons.mpr ⟨lw_p0, List.forall_mem_cons.mpr ⟨lw_p1, List.forall_mem_cons.mpr ⟨lw_p2, List.forall_mem_cons.mpr ⟨lw_p3, List.forall_mem_cons.mpr ⟨lw_p4, List.forall_mem_cons.mpr ⟨lw_p5, List.forall_mem_cons.mpr ⟨lw_p6, List.forall_mem_cons.mpr ⟨lw_p7, List.forall_mem_cons.mpr ⟨lw_p8, List.forall_mem_cons.mpr ⟨lw_p9, fun _ h => absurd h List.not_mem_nil⟩⟩⟩⟩⟩⟩⟩⟩⟩⟩
def lw_privs : List (MethodName × Nat) := lw_privs_1
def lw_tbl : List Cond := k2_sels lw_privs ++ tables_1
theorem lw_privs_ok : ∀ q ∈ lw_privs, lw_okq q := lw_r1
end
section
def R_P : String := "PostDrawer"
def F_P : u_T := fun k => match k with
  | 0 => ("PostDrawer", "drawn", "LPostDrawer$Drawing;", true)
  | 1 => ("PostDrawer", "verdicts", "LPostDrawer$Verdicts;", true)
  | 2 => ("PostDrawer", "ours", "LPostDrawer$Drawing;", true)
  | 3 => ("PostDrawer", "theirs", "LPostDrawer$Drawing;", true)
  | 4 => ("PostDrawer", "nextSeed", "J", false)
  | _ => ("PostDrawer", "leftBits", "I", false)
def t_P : Nat → FieldType := fun k => match k with
  | 0 => .object "PostDrawer$Drawing"
  | 1 => .object "PostDrawer$Verdicts"
  | 2 => .object "PostDrawer$Drawing"
  | 3 => .object "PostDrawer$Drawing"
  | 4 => .long
  | _ => .int
theorem n_P : ∀ a, a < 6 → ∀ b, b < 6 → a ≠ b → (F_P a).2.1 ≠ (F_P b).2.1 := by decide +kernel
theorem tk_P : ∀ k, k < 6 → parseFieldDescriptor (F_P k).2.2.1 = some (t_P k) := by decide +kernel
def R_D : String := "PostDrawer$Drawing"
def F_D : u_T := fun k => match k with
  | 0 => ("PostDrawer$Drawing", "numbers", "[J", true)
  | 1 => ("PostDrawer$Drawing", "seed", "J", false)
  | 2 => ("PostDrawer$Drawing", "kind", "I", false)
  | 3 => ("PostDrawer$Drawing", "count", "I", false)
  | _ => ("PostDrawer$Drawing", "faultBits", "I", false)
def t_D : Nat → FieldType := fun k => match k with
  | 0 => .array .long
  | 1 => .long
  | 2 => .int
  | 3 => .int
  | _ => .int
theorem n_D : ∀ a, a < 5 → ∀ b, b < 5 → a ≠ b → (F_D a).2.1 ≠ (F_D b).2.1 := by decide +kernel
theorem tk_D : ∀ k, k < 5 → parseFieldDescriptor (F_D k).2.2.1 = some (t_D k) := by decide +kernel
def R_V : String := "PostDrawer$Verdicts"
def F_V : u_T := fun k => match k with
  | 0 => ("PostDrawer$Verdicts", "sets", "[I", true)
  | 1 => ("PostDrawer$Verdicts", "stays", "[Z", true)
  | _ => ("PostDrawer$Verdicts", "count", "I", false)
def t_V : Nat → FieldType := fun k => match k with
  | 0 => .array .int
  | 1 => .array .boolean
  | _ => .int
theorem n_V : ∀ a, a < 3 → ∀ b, b < 3 → a ≠ b → (F_V a).2.1 ≠ (F_V b).2.1 := by decide +kernel
theorem tk_V : ∀ k, k < 3 → parseFieldDescriptor (F_V k).2.2.1 = some (t_V k) := by decide +kernel
def R_M : String := "PostDrawerModel"
def F_M : u_T := fun k => match k with
  | 0 => ("PostDrawerModel", "thrown", "I", false)
  | 1 => ("PostDrawerModel", "seed", "J", false)
  | 2 => ("PostDrawerModel", "drawnBy", "J", false)
  | 3 => ("PostDrawerModel", "parts", "I", false)
  | 4 => ("PostDrawerModel", "kind", "I", false)
  | 5 => ("PostDrawerModel", "leftBits", "I", false)
  | 6 => ("PostDrawerModel", "sets", "I", false)
  | 7 => ("PostDrawerModel", "set", "[I", true)
  | 8 => ("PostDrawerModel", "staying", "[Z", true)
  | _ => ("PostDrawerModel", "inks", "[I", true)
def t_M : Nat → FieldType := fun k => match k with
  | 0 => .int
  | 1 => .long
  | 2 => .long
  | 3 => .int
  | 4 => .int
  | 5 => .int
  | 6 => .int
  | 7 => .array .int
  | 8 => .array .boolean
  | _ => .array .int
theorem n_M : ∀ a, a < 10 → ∀ b, b < 10 → a ≠ b → (F_M a).2.1 ≠ (F_M b).2.1 := by decide +kernel
theorem tk_M : ∀ k, k < 10 → parseFieldDescriptor (F_M k).2.2.1 = some (t_M k) := by decide +kernel
def R_L : String := "PostDrawerLaw"
def R_J : String := "java/lang/Integer"
abbrev classes : List vw_C := [(R_P, F_P, 6), (R_D, F_D, 5), (R_V, F_V, 3), (R_M, F_M, 10)]
abbrev b_P_init : ByteArray := prog_1_method_1_code
def y_P_init : MethodName := ⟨R_P, "<init>", "(I)V"⟩
abbrev b_P_seed : ByteArray := prog_1_method_2_code
def y_P_seed : MethodName := ⟨R_P, "seed", "(J)J"⟩
abbrev b_P_draw : ByteArray := prog_1_method_3_code
def y_P_draw : MethodName := ⟨R_P, "draw", "(II)I"⟩
abbrev b_P_part : ByteArray := prog_1_method_4_code
def y_P_part : MethodName := ⟨R_P, "part", "(II)I"⟩
abbrev b_P_point : ByteArray := prog_1_method_5_code
def y_P_point : MethodName := ⟨R_P, "point", "(III)I"⟩
abbrev b_P_verdict : ByteArray := prog_1_method_6_code
def y_P_verdict : MethodName := ⟨R_P, "verdict", "(IZ)I"⟩
abbrev b_P_shorter : ByteArray := prog_1_method_7_code
def y_P_shorter : MethodName := ⟨R_P, "shorter", "()I"⟩
abbrev b_P_left : ByteArray := prog_1_method_8_code
def y_P_left : MethodName := ⟨R_P, "left", "(I)I"⟩
abbrev b_P_minimal : ByteArray := prog_1_method_9_code
def y_P_minimal : MethodName := ⟨R_P, "minimal", "()Z"⟩
abbrev b_P_faultless : ByteArray := prog_1_method_10_code
def y_P_faultless : MethodName := ⟨R_P, "faultless", "(I)Z"⟩
abbrev b_P_same : ByteArray := prog_1_method_11_code
def y_P_same : MethodName := ⟨R_P, "same", "(JII)Z"⟩
abbrev b_P_isDrawable : ByteArray := prog_1_method_12_code
def y_P_isDrawable : MethodName := ⟨R_P, "isDrawable", "(II)Z"⟩
abbrev b_P_leaveOutAll : ByteArray := prog_1_method_13_code
def y_P_leaveOutAll : MethodName := ⟨R_P, "leaveOutAll", "()V"⟩
abbrev b_P_goThrough : ByteArray := prog_1_method_14_code
def y_P_goThrough : MethodName := ⟨R_P, "goThrough", "()V"⟩
abbrev b_P_canLeaveOut : ByteArray := prog_1_method_15_code
def y_P_canLeaveOut : MethodName := ⟨R_P, "canLeaveOut", "(I)Z"⟩
abbrev b_P_isInked : ByteArray := prog_1_method_16_code
def y_P_isInked : MethodName := ⟨R_P, "isInked", "(III)Z"⟩
abbrev b_P_noise : ByteArray := prog_1_method_17_code
def y_P_noise : MethodName := ⟨R_P, "noise", "(JIII)I"⟩
abbrev b_P_number : ByteArray := prog_1_method_18_code
def y_P_number : MethodName := ⟨R_P, "number", "(JII)J"⟩
abbrev b_P_haveSameParts : ByteArray := prog_1_method_19_code
def y_P_haveSameParts : MethodName := ⟨R_P, "haveSameParts", "(LPostDrawer$Drawing;LPostDrawer$Drawing;)Z"⟩
abbrev b_D_init : ByteArray := prog_2_method_1_code
def y_D_init : MethodName := ⟨R_D, "<init>", "()V"⟩
abbrev b_D_fill : ByteArray := prog_2_method_2_code
def y_D_fill : MethodName := ⟨R_D, "fill", "(JII)V"⟩
abbrev b_D_isEmpty : ByteArray := prog_2_method_3_code
def y_D_isEmpty : MethodName := ⟨R_D, "isEmpty", "()Z"⟩
abbrev b_D_has : ByteArray := prog_2_method_4_code
def y_D_has : MethodName := ⟨R_D, "has", "(I)Z"⟩
abbrev b_D_allBits : ByteArray := prog_2_method_5_code
def y_D_allBits : MethodName := ⟨R_D, "allBits", "()I"⟩
abbrev b_D_hasFaults : ByteArray := prog_2_method_6_code
def y_D_hasFaults : MethodName := ⟨R_D, "hasFaults", "(I)Z"⟩
abbrev b_D_fact : ByteArray := prog_2_method_7_code
def y_D_fact : MethodName := ⟨R_D, "fact", "(II)I"⟩
abbrev b_D_greaterHalf : ByteArray := prog_2_method_8_code
def y_D_greaterHalf : MethodName := ⟨R_D, "greaterHalf", "()I"⟩
abbrev b_D_countAbove : ByteArray := prog_2_method_9_code
def y_D_countAbove : MethodName := ⟨R_D, "countAbove", "(I)I"⟩
abbrev b_D_isAbove : ByteArray := prog_2_method_10_code
def y_D_isAbove : MethodName := ⟨R_D, "isAbove", "(II)Z"⟩
abbrev b_V_init : ByteArray := prog_3_method_1_code
def y_V_init : MethodName := ⟨R_V, "<init>", "()V"⟩
abbrev b_V_forget : ByteArray := prog_3_method_2_code
def y_V_forget : MethodName := ⟨R_V, "forget", "()V"⟩
abbrev b_V_tell : ByteArray := prog_3_method_3_code
def y_V_tell : MethodName := ⟨R_V, "tell", "(IZ)Z"⟩
abbrev b_V_stayFor : ByteArray := prog_3_method_4_code
def y_V_stayFor : MethodName := ⟨R_V, "stayFor", "(I)Z"⟩
abbrev b_V_find : ByteArray := prog_3_method_5_code
def y_V_find : MethodName := ⟨R_V, "find", "(I)I"⟩
abbrev b_M_init : ByteArray := prog_5_method_1_code
def y_M_init : MethodName := ⟨R_M, "<init>", "(I)V"⟩
abbrev b_M_in : ByteArray := prog_5_method_3_code
def y_M_in : MethodName := ⟨R_M, "in", "(III)Z"⟩
abbrev b_M_number : ByteArray := prog_5_method_4_code
def y_M_number : MethodName := ⟨R_M, "number", "(JII)J"⟩
abbrev b_M_rest : ByteArray := prog_5_method_5_code
def y_M_rest : MethodName := ⟨R_M, "rest", "(JI)I"⟩
abbrev b_M_isLess : ByteArray := prog_5_method_6_code
def y_M_isLess : MethodName := ⟨R_M, "isLess", "(JJ)Z"⟩
abbrev b_M_fact : ByteArray := prog_5_method_7_code
def y_M_fact : MethodName := ⟨R_M, "fact", "(JI)I"⟩
abbrev b_M_hasFaults : ByteArray := prog_5_method_8_code
def y_M_hasFaults : MethodName := ⟨R_M, "hasFaults", "(JIII)Z"⟩
abbrev b_M_seed : ByteArray := prog_5_method_9_code
def y_M_seed : MethodName := ⟨R_M, "seed", "(J)J"⟩
abbrev b_M_draw : ByteArray := prog_5_method_10_code
def y_M_draw : MethodName := ⟨R_M, "draw", "(II)I"⟩
abbrev b_M_part : ByteArray := prog_5_method_11_code
def y_M_part : MethodName := ⟨R_M, "part", "(II)I"⟩
abbrev b_M_point : ByteArray := prog_5_method_12_code
def y_M_point : MethodName := ⟨R_M, "point", "(III)I"⟩
abbrev b_M_placeOf : ByteArray := prog_5_method_13_code
def y_M_placeOf : MethodName := ⟨R_M, "placeOf", "(I)I"⟩
abbrev b_M_stays : ByteArray := prog_5_method_14_code
def y_M_stays : MethodName := ⟨R_M, "stays", "(I)Z"⟩
abbrev b_M_verdict : ByteArray := prog_5_method_15_code
def y_M_verdict : MethodName := ⟨R_M, "verdict", "(IZ)I"⟩
abbrev b_M_countOf : ByteArray := prog_5_method_16_code
def y_M_countOf : MethodName := ⟨R_M, "countOf", "(I)I"⟩
abbrev b_M_without : ByteArray := prog_5_method_17_code
def y_M_without : MethodName := ⟨R_M, "without", "(II)I"⟩
abbrev b_M_shorter : ByteArray := prog_5_method_18_code
def y_M_shorter : MethodName := ⟨R_M, "shorter", "()I"⟩
abbrev b_M_left : ByteArray := prog_5_method_19_code
def y_M_left : MethodName := ⟨R_M, "left", "(I)I"⟩
abbrev b_M_minimal : ByteArray := prog_5_method_20_code
def y_M_minimal : MethodName := ⟨R_M, "minimal", "()Z"⟩
abbrev b_M_faultless : ByteArray := prog_5_method_21_code
def y_M_faultless : MethodName := ⟨R_M, "faultless", "(I)Z"⟩
abbrev b_M_same : ByteArray := prog_5_method_22_code
def y_M_same : MethodName := ⟨R_M, "same", "(JII)Z"⟩
abbrev b_L_cell : ByteArray := method_2_code
def y_L_cell : MethodName := ⟨R_L, "cell", "([II)I"⟩
abbrev b_J_bitCount : ByteArray := prog_6_method_49_code
def y_J_bitCount : MethodName := ⟨R_J, "bitCount", "(I)I"⟩
abbrev b_L_law : ByteArray := code
end
section
theorem d_P_init_0 : decode b_P_init 0 = .ok (.aload_n 0, 1) := by decide +kernel
theorem d_P_init_1 : decode b_P_init 1 = .ok (.invokespecial 1, 3) := by decide +kernel
theorem d_P_init_4 : decode b_P_init 4 = .ok (.aload_n 0, 1) := by decide +kernel
theorem d_P_init_5 : decode b_P_init 5 = .ok (.iload_n 1, 1) := by decide +kernel
theorem d_P_init_6 : decode b_P_init 6 = .ok (.i2l, 1) := by decide +kernel
theorem d_P_init_7 : decode b_P_init 7 = .ok (.putfield 7, 3) := by decide +kernel
theorem d_P_init_10 : decode b_P_init 10 = .ok (.aload_n 0, 1) := by decide +kernel
theorem d_P_init_11 : decode b_P_init 11 = .ok (.iconst 0, 1) := by decide +kernel
theorem d_P_init_12 : decode b_P_init 12 = .ok (.putfield 13, 3) := by decide +kernel
theorem d_P_init_15 : decode b_P_init 15 = .ok (.aload_n 0, 1) := by decide +kernel
theorem d_P_init_16 : decode b_P_init 16 = .ok (.new 17, 3) := by decide +kernel
theorem d_P_init_19 : decode b_P_init 19 = .ok (.dup, 1) := by decide +kernel
theorem d_P_init_20 : decode b_P_init 20 = .ok (.invokespecial 19, 3) := by decide +kernel
theorem d_P_init_23 : decode b_P_init 23 = .ok (.putfield 20, 3) := by decide +kernel
theorem d_P_init_26 : decode b_P_init 26 = .ok (.aload_n 0, 1) := by decide +kernel
theorem d_P_init_27 : decode b_P_init 27 = .ok (.new 17, 3) := by decide +kernel
theorem d_P_init_30 : decode b_P_init 30 = .ok (.dup, 1) := by decide +kernel
theorem d_P_init_31 : decode b_P_init 31 = .ok (.invokespecial 19, 3) := by decide +kernel
theorem d_P_init_34 : decode b_P_init 34 = .ok (.putfield 24, 3) := by decide +kernel
theorem d_P_init_37 : decode b_P_init 37 = .ok (.aload_n 0, 1) := by decide +kernel
theorem d_P_init_38 : decode b_P_init 38 = .ok (.new 17, 3) := by decide +kernel
theorem d_P_init_41 : decode b_P_init 41 = .ok (.dup, 1) := by decide +kernel
theorem d_P_init_42 : decode b_P_init 42 = .ok (.invokespecial 19, 3) := by decide +kernel
theorem d_P_init_45 : decode b_P_init 45 = .ok (.putfield 27, 3) := by decide +kernel
theorem d_P_init_48 : decode b_P_init 48 = .ok (.aload_n 0, 1) := by decide +kernel
theorem d_P_init_49 : decode b_P_init 49 = .ok (.new 30, 3) := by decide +kernel
theorem d_P_init_52 : decode b_P_init 52 = .ok (.dup, 1) := by decide +kernel
theorem d_P_init_53 : decode b_P_init 53 = .ok (.invokespecial 32, 3) := by decide +kernel
theorem d_P_init_56 : decode b_P_init 56 = .ok (.putfield 33, 3) := by decide +kernel
theorem d_P_init_59 : decode b_P_init 59 = .ok (.return_, 1) := by decide +kernel
theorem d_P_seed_0 : decode b_P_seed 0 = .ok (.aload_n 0, 1) := by decide +kernel
theorem d_P_seed_1 : decode b_P_seed 1 = .ok (.getfield 7, 3) := by decide +kernel
theorem d_P_seed_4 : decode b_P_seed 4 = .ok (.lstore_n 3, 1) := by decide +kernel
theorem d_P_seed_5 : decode b_P_seed 5 = .ok (.aload_n 0, 1) := by decide +kernel
theorem d_P_seed_6 : decode b_P_seed 6 = .ok (.lload_n 1, 1) := by decide +kernel
theorem d_P_seed_7 : decode b_P_seed 7 = .ok (.putfield 7, 3) := by decide +kernel
theorem d_P_seed_10 : decode b_P_seed 10 = .ok (.lload_n 3, 1) := by decide +kernel
theorem d_P_seed_11 : decode b_P_seed 11 = .ok (.lreturn, 1) := by decide +kernel
theorem d_P_draw_0 : decode b_P_draw 0 = .ok (.iload_n 1, 1) := by decide +kernel
theorem d_P_draw_1 : decode b_P_draw 1 = .ok (.iload_n 2, 1) := by decide +kernel
theorem d_P_draw_2 : decode b_P_draw 2 = .ok (.invokestatic 37, 3) := by decide +kernel
theorem d_P_draw_5 : decode b_P_draw 5 = .ok (.ifCond .ne 6, 3) := by decide +kernel
theorem d_P_draw_8 : decode b_P_draw 8 = .ok (.bipush (-12), 2) := by decide +kernel
theorem d_P_draw_10 : decode b_P_draw 10 = .ok (.ireturn, 1) := by decide +kernel
theorem d_P_draw_11 : decode b_P_draw 11 = .ok (.aload_n 0, 1) := by decide +kernel
theorem d_P_draw_12 : decode b_P_draw 12 = .ok (.getfield 20, 3) := by decide +kernel
theorem d_P_draw_15 : decode b_P_draw 15 = .ok (.aload_n 0, 1) := by decide +kernel
theorem d_P_draw_16 : decode b_P_draw 16 = .ok (.getfield 7, 3) := by decide +kernel
theorem d_P_draw_19 : decode b_P_draw 19 = .ok (.iload_n 1, 1) := by decide +kernel
theorem d_P_draw_20 : decode b_P_draw 20 = .ok (.iload_n 2, 1) := by decide +kernel
theorem d_P_draw_21 : decode b_P_draw 21 = .ok (.iconst 1, 1) := by decide +kernel
theorem d_P_draw_22 : decode b_P_draw 22 = .ok (.iadd, 1) := by decide +kernel
theorem d_P_draw_23 : decode b_P_draw 23 = .ok (.invokevirtual 41, 3) := by decide +kernel
theorem d_P_draw_26 : decode b_P_draw 26 = .ok (.aload_n 0, 1) := by decide +kernel
theorem d_P_draw_27 : decode b_P_draw 27 = .ok (.aload_n 0, 1) := by decide +kernel
theorem d_P_draw_28 : decode b_P_draw 28 = .ok (.getfield 20, 3) := by decide +kernel
theorem d_P_draw_31 : decode b_P_draw 31 = .ok (.invokevirtual 45, 3) := by decide +kernel
theorem d_P_draw_34 : decode b_P_draw 34 = .ok (.putfield 13, 3) := by decide +kernel
theorem d_P_draw_37 : decode b_P_draw 37 = .ok (.aload_n 0, 1) := by decide +kernel
theorem d_P_draw_38 : decode b_P_draw 38 = .ok (.getfield 33, 3) := by decide +kernel
theorem d_P_draw_41 : decode b_P_draw 41 = .ok (.invokevirtual 49, 3) := by decide +kernel
theorem d_P_draw_44 : decode b_P_draw 44 = .ok (.aload_n 0, 1) := by decide +kernel
theorem d_P_draw_45 : decode b_P_draw 45 = .ok (.getfield 20, 3) := by decide +kernel
theorem d_P_draw_48 : decode b_P_draw 48 = .ok (.getfield 52, 3) := by decide +kernel
theorem d_P_draw_51 : decode b_P_draw 51 = .ok (.ireturn, 1) := by decide +kernel
theorem d_P_part_0 : decode b_P_part 0 = .ok (.aload_n 0, 1) := by decide +kernel
theorem d_P_part_1 : decode b_P_part 1 = .ok (.getfield 20, 3) := by decide +kernel
theorem d_P_part_4 : decode b_P_part 4 = .ok (.iload_n 1, 1) := by decide +kernel
theorem d_P_part_5 : decode b_P_part 5 = .ok (.invokevirtual 55, 3) := by decide +kernel
theorem d_P_part_8 : decode b_P_part 8 = .ok (.ifCond .ne 5, 3) := by decide +kernel
theorem d_P_part_11 : decode b_P_part 11 = .ok (.iconst (-1), 1) := by decide +kernel
theorem d_P_part_12 : decode b_P_part 12 = .ok (.ireturn, 1) := by decide +kernel
theorem d_P_part_13 : decode b_P_part 13 = .ok (.iload_n 2, 1) := by decide +kernel
theorem d_P_part_14 : decode b_P_part 14 = .ok (.ifCond .lt 8, 3) := by decide +kernel
theorem d_P_part_17 : decode b_P_part 17 = .ok (.iload_n 2, 1) := by decide +kernel
theorem d_P_part_18 : decode b_P_part 18 = .ok (.iconst 4, 1) := by decide +kernel
theorem d_P_part_19 : decode b_P_part 19 = .ok (.if_icmp .le 6, 3) := by decide +kernel
theorem d_P_part_22 : decode b_P_part 22 = .ok (.bipush (-12), 2) := by decide +kernel
theorem d_P_part_24 : decode b_P_part 24 = .ok (.ireturn, 1) := by decide +kernel
theorem d_P_part_25 : decode b_P_part 25 = .ok (.iload_n 2, 1) := by decide +kernel
theorem d_P_part_26 : decode b_P_part 26 = .ok (.ifCond .ne 20, 3) := by decide +kernel
theorem d_P_part_29 : decode b_P_part 29 = .ok (.aload_n 0, 1) := by decide +kernel
theorem d_P_part_30 : decode b_P_part 30 = .ok (.getfield 20, 3) := by decide +kernel
theorem d_P_part_33 : decode b_P_part 33 = .ok (.iload_n 1, 1) := by decide +kernel
theorem d_P_part_34 : decode b_P_part 34 = .ok (.invokevirtual 59, 3) := by decide +kernel
theorem d_P_part_37 : decode b_P_part 37 = .ok (.ifCond .eq 7, 3) := by decide +kernel
theorem d_P_part_40 : decode b_P_part 40 = .ok (.iconst 1, 1) := by decide +kernel
theorem d_P_part_41 : decode b_P_part 41 = .ok (.goto 4, 3) := by decide +kernel
theorem d_P_part_44 : decode b_P_part 44 = .ok (.iconst 0, 1) := by decide +kernel
theorem d_P_part_45 : decode b_P_part 45 = .ok (.ireturn, 1) := by decide +kernel
theorem d_P_part_46 : decode b_P_part 46 = .ok (.aload_n 0, 1) := by decide +kernel
theorem d_P_part_47 : decode b_P_part 47 = .ok (.getfield 20, 3) := by decide +kernel
theorem d_P_part_50 : decode b_P_part 50 = .ok (.iload_n 1, 1) := by decide +kernel
theorem d_P_part_51 : decode b_P_part 51 = .ok (.iload_n 2, 1) := by decide +kernel
theorem d_P_part_52 : decode b_P_part 52 = .ok (.invokevirtual 62, 3) := by decide +kernel
theorem d_P_part_55 : decode b_P_part 55 = .ok (.ireturn, 1) := by decide +kernel
theorem d_P_point_0 : decode b_P_point 0 = .ok (.aload_n 0, 1) := by decide +kernel
theorem d_P_point_1 : decode b_P_point 1 = .ok (.getfield 20, 3) := by decide +kernel
theorem d_P_point_4 : decode b_P_point 4 = .ok (.getfield 66, 3) := by decide +kernel
theorem d_P_point_7 : decode b_P_point 7 = .ok (.iconst 1, 1) := by decide +kernel
theorem d_P_point_8 : decode b_P_point 8 = .ok (.if_icmp .ne 14, 3) := by decide +kernel
theorem d_P_point_11 : decode b_P_point 11 = .ok (.aload_n 0, 1) := by decide +kernel
theorem d_P_point_12 : decode b_P_point 12 = .ok (.getfield 20, 3) := by decide +kernel
theorem d_P_point_15 : decode b_P_point 15 = .ok (.iload_n 1, 1) := by decide +kernel
theorem d_P_point_16 : decode b_P_point 16 = .ok (.invokevirtual 55, 3) := by decide +kernel
theorem d_P_point_19 : decode b_P_point 19 = .ok (.ifCond .ne 5, 3) := by decide +kernel
theorem d_P_point_22 : decode b_P_point 22 = .ok (.iconst (-1), 1) := by decide +kernel
theorem d_P_point_23 : decode b_P_point 23 = .ok (.ireturn, 1) := by decide +kernel
theorem d_P_point_24 : decode b_P_point 24 = .ok (.iload_n 2, 1) := by decide +kernel
theorem d_P_point_25 : decode b_P_point 25 = .ok (.ifCond .lt 19, 3) := by decide +kernel
theorem d_P_point_28 : decode b_P_point 28 = .ok (.iload_n 2, 1) := by decide +kernel
theorem d_P_point_29 : decode b_P_point 29 = .ok (.bipush 12, 2) := by decide +kernel
theorem d_P_point_31 : decode b_P_point 31 = .ok (.if_icmp .ge 13, 3) := by decide +kernel
theorem d_P_point_34 : decode b_P_point 34 = .ok (.iload_n 3, 1) := by decide +kernel
theorem d_P_point_35 : decode b_P_point 35 = .ok (.ifCond .lt 9, 3) := by decide +kernel
theorem d_P_point_38 : decode b_P_point 38 = .ok (.iload_n 3, 1) := by decide +kernel
theorem d_P_point_39 : decode b_P_point 39 = .ok (.bipush 20, 2) := by decide +kernel
theorem d_P_point_41 : decode b_P_point 41 = .ok (.if_icmp .lt 5, 3) := by decide +kernel
theorem d_P_point_44 : decode b_P_point 44 = .ok (.iconst (-1), 1) := by decide +kernel
theorem d_P_point_45 : decode b_P_point 45 = .ok (.ireturn, 1) := by decide +kernel
theorem d_P_point_46 : decode b_P_point 46 = .ok (.aload_n 0, 1) := by decide +kernel
theorem d_P_point_47 : decode b_P_point 47 = .ok (.getfield 20, 3) := by decide +kernel
theorem d_P_point_50 : decode b_P_point 50 = .ok (.iload_n 1, 1) := by decide +kernel
theorem d_P_point_51 : decode b_P_point 51 = .ok (.iconst 1, 1) := by decide +kernel
theorem d_P_point_52 : decode b_P_point 52 = .ok (.invokevirtual 62, 3) := by decide +kernel
theorem d_P_point_55 : decode b_P_point 55 = .ok (.bipush 10, 2) := by decide +kernel
theorem d_P_point_57 : decode b_P_point 57 = .ok (.irem, 1) := by decide +kernel
theorem d_P_point_58 : decode b_P_point 58 = .ok (.iload_n 2, 1) := by decide +kernel
theorem d_P_point_59 : decode b_P_point 59 = .ok (.iload_n 3, 1) := by decide +kernel
theorem d_P_point_60 : decode b_P_point 60 = .ok (.invokestatic 69, 3) := by decide +kernel
theorem d_P_point_63 : decode b_P_point 63 = .ok (.ifCond .eq 8, 3) := by decide +kernel
theorem d_P_point_66 : decode b_P_point 66 = .ok (.bipush 40, 2) := by decide +kernel
theorem d_P_point_68 : decode b_P_point 68 = .ok (.goto 6, 3) := by decide +kernel
theorem d_P_point_71 : decode b_P_point 71 = .ok (.sipush 200, 3) := by decide +kernel
theorem d_P_point_74 : decode b_P_point 74 = .ok (.istore 4, 2) := by decide +kernel
theorem d_P_point_76 : decode b_P_point 76 = .ok (.iload 4, 2) := by decide +kernel
theorem d_P_point_78 : decode b_P_point 78 = .ok (.aload_n 0, 1) := by decide +kernel
theorem d_P_point_79 : decode b_P_point 79 = .ok (.getfield 20, 3) := by decide +kernel
theorem d_P_point_82 : decode b_P_point 82 = .ok (.getfield 73, 3) := by decide +kernel
theorem d_P_point_85 : decode b_P_point 85 = .ok (.iload_n 1, 1) := by decide +kernel
theorem d_P_point_86 : decode b_P_point 86 = .ok (.iload_n 2, 1) := by decide +kernel
theorem d_P_point_87 : decode b_P_point 87 = .ok (.iload_n 3, 1) := by decide +kernel
theorem d_P_point_88 : decode b_P_point 88 = .ok (.invokestatic 76, 3) := by decide +kernel
theorem d_P_point_91 : decode b_P_point 91 = .ok (.iadd, 1) := by decide +kernel
theorem d_P_point_92 : decode b_P_point 92 = .ok (.ireturn, 1) := by decide +kernel
theorem d_P_verdict_0 : decode b_P_verdict 0 = .ok (.aload_n 0, 1) := by decide +kernel
theorem d_P_verdict_1 : decode b_P_verdict 1 = .ok (.getfield 20, 3) := by decide +kernel
theorem d_P_verdict_4 : decode b_P_verdict 4 = .ok (.invokevirtual 80, 3) := by decide +kernel
theorem d_P_verdict_7 : decode b_P_verdict 7 = .ok (.ifCond .eq 6, 3) := by decide +kernel
theorem d_P_verdict_10 : decode b_P_verdict 10 = .ok (.bipush (-13), 2) := by decide +kernel
theorem d_P_verdict_12 : decode b_P_verdict 12 = .ok (.ireturn, 1) := by decide +kernel
theorem d_P_verdict_13 : decode b_P_verdict 13 = .ok (.iload_n 1, 1) := by decide +kernel
theorem d_P_verdict_14 : decode b_P_verdict 14 = .ok (.ifCond .eq 17, 3) := by decide +kernel
theorem d_P_verdict_17 : decode b_P_verdict 17 = .ok (.iload_n 1, 1) := by decide +kernel
theorem d_P_verdict_18 : decode b_P_verdict 18 = .ok (.aload_n 0, 1) := by decide +kernel
theorem d_P_verdict_19 : decode b_P_verdict 19 = .ok (.getfield 20, 3) := by decide +kernel
theorem d_P_verdict_22 : decode b_P_verdict 22 = .ok (.invokevirtual 45, 3) := by decide +kernel
theorem d_P_verdict_25 : decode b_P_verdict 25 = .ok (.iconst (-1), 1) := by decide +kernel
theorem d_P_verdict_26 : decode b_P_verdict 26 = .ok (.ixor, 1) := by decide +kernel
theorem d_P_verdict_27 : decode b_P_verdict 27 = .ok (.iand, 1) := by decide +kernel
theorem d_P_verdict_28 : decode b_P_verdict 28 = .ok (.ifCond .eq 6, 3) := by decide +kernel
theorem d_P_verdict_31 : decode b_P_verdict 31 = .ok (.bipush (-12), 2) := by decide +kernel
theorem d_P_verdict_33 : decode b_P_verdict 33 = .ok (.ireturn, 1) := by decide +kernel
theorem d_P_verdict_34 : decode b_P_verdict 34 = .ok (.aload_n 0, 1) := by decide +kernel
theorem d_P_verdict_35 : decode b_P_verdict 35 = .ok (.getfield 33, 3) := by decide +kernel
theorem d_P_verdict_38 : decode b_P_verdict 38 = .ok (.iload_n 1, 1) := by decide +kernel
theorem d_P_verdict_39 : decode b_P_verdict 39 = .ok (.iload_n 2, 1) := by decide +kernel
theorem d_P_verdict_40 : decode b_P_verdict 40 = .ok (.invokevirtual 84, 3) := by decide +kernel
theorem d_P_verdict_43 : decode b_P_verdict 43 = .ok (.ifCond .eq 13, 3) := by decide +kernel
theorem d_P_verdict_46 : decode b_P_verdict 46 = .ok (.aload_n 0, 1) := by decide +kernel
theorem d_P_verdict_47 : decode b_P_verdict 47 = .ok (.getfield 33, 3) := by decide +kernel
theorem d_P_verdict_50 : decode b_P_verdict 50 = .ok (.getfield 88, 3) := by decide +kernel
theorem d_P_verdict_53 : decode b_P_verdict 53 = .ok (.goto 5, 3) := by decide +kernel
theorem d_P_verdict_56 : decode b_P_verdict 56 = .ok (.bipush (-14), 2) := by decide +kernel
theorem d_P_verdict_58 : decode b_P_verdict 58 = .ok (.ireturn, 1) := by decide +kernel
theorem d_P_shorter_0 : decode b_P_shorter 0 = .ok (.aload_n 0, 1) := by decide +kernel
theorem d_P_shorter_1 : decode b_P_shorter 1 = .ok (.getfield 20, 3) := by decide +kernel
theorem d_P_shorter_4 : decode b_P_shorter 4 = .ok (.invokevirtual 80, 3) := by decide +kernel
theorem d_P_shorter_7 : decode b_P_shorter 7 = .ok (.ifCond .eq 6, 3) := by decide +kernel
theorem d_P_shorter_10 : decode b_P_shorter 10 = .ok (.bipush (-13), 2) := by decide +kernel
theorem d_P_shorter_12 : decode b_P_shorter 12 = .ok (.ireturn, 1) := by decide +kernel
theorem d_P_shorter_13 : decode b_P_shorter 13 = .ok (.aload_n 0, 1) := by decide +kernel
theorem d_P_shorter_14 : decode b_P_shorter 14 = .ok (.aload_n 0, 1) := by decide +kernel
theorem d_P_shorter_15 : decode b_P_shorter 15 = .ok (.getfield 20, 3) := by decide +kernel
theorem d_P_shorter_18 : decode b_P_shorter 18 = .ok (.invokevirtual 45, 3) := by decide +kernel
theorem d_P_shorter_21 : decode b_P_shorter 21 = .ok (.putfield 13, 3) := by decide +kernel
theorem d_P_shorter_24 : decode b_P_shorter 24 = .ok (.aload_n 0, 1) := by decide +kernel
theorem d_P_shorter_25 : decode b_P_shorter 25 = .ok (.getfield 33, 3) := by decide +kernel
theorem d_P_shorter_28 : decode b_P_shorter 28 = .ok (.aload_n 0, 1) := by decide +kernel
theorem d_P_shorter_29 : decode b_P_shorter 29 = .ok (.getfield 13, 3) := by decide +kernel
theorem d_P_shorter_32 : decode b_P_shorter 32 = .ok (.invokevirtual 89, 3) := by decide +kernel
theorem d_P_shorter_35 : decode b_P_shorter 35 = .ok (.ifCond .eq 7, 3) := by decide +kernel
theorem d_P_shorter_38 : decode b_P_shorter 38 = .ok (.aload_n 0, 1) := by decide +kernel
theorem d_P_shorter_39 : decode b_P_shorter 39 = .ok (.invokevirtual 92, 3) := by decide +kernel
theorem d_P_shorter_42 : decode b_P_shorter 42 = .ok (.aload_n 0, 1) := by decide +kernel
theorem d_P_shorter_43 : decode b_P_shorter 43 = .ok (.getfield 13, 3) := by decide +kernel
theorem d_P_shorter_46 : decode b_P_shorter 46 = .ok (.invokestatic 95, 3) := by decide +kernel
theorem d_P_shorter_49 : decode b_P_shorter 49 = .ok (.ireturn, 1) := by decide +kernel
theorem d_P_left_0 : decode b_P_left 0 = .ok (.iconst 0, 1) := by decide +kernel
theorem d_P_left_1 : decode b_P_left 1 = .ok (.istore_n 2, 1) := by decide +kernel
theorem d_P_left_2 : decode b_P_left 2 = .ok (.iconst 0, 1) := by decide +kernel
theorem d_P_left_3 : decode b_P_left 3 = .ok (.istore_n 3, 1) := by decide +kernel
theorem d_P_left_4 : decode b_P_left 4 = .ok (.iload_n 3, 1) := by decide +kernel
theorem d_P_left_5 : decode b_P_left 5 = .ok (.bipush 16, 2) := by decide +kernel
theorem d_P_left_7 : decode b_P_left 7 = .ok (.if_icmp .ge 30, 3) := by decide +kernel
theorem d_P_left_10 : decode b_P_left 10 = .ok (.aload_n 0, 1) := by decide +kernel
theorem d_P_left_11 : decode b_P_left 11 = .ok (.getfield 13, 3) := by decide +kernel
theorem d_P_left_14 : decode b_P_left 14 = .ok (.iconst 1, 1) := by decide +kernel
theorem d_P_left_15 : decode b_P_left 15 = .ok (.iload_n 3, 1) := by decide +kernel
theorem d_P_left_16 : decode b_P_left 16 = .ok (.ishl, 1) := by decide +kernel
theorem d_P_left_17 : decode b_P_left 17 = .ok (.iand, 1) := by decide +kernel
theorem d_P_left_18 : decode b_P_left 18 = .ok (.ifCond .eq 13, 3) := by decide +kernel
theorem d_P_left_21 : decode b_P_left 21 = .ok (.iload_n 2, 1) := by decide +kernel
theorem d_P_left_22 : decode b_P_left 22 = .ok (.iload_n 1, 1) := by decide +kernel
theorem d_P_left_23 : decode b_P_left 23 = .ok (.if_icmp .ne 5, 3) := by decide +kernel
theorem d_P_left_26 : decode b_P_left 26 = .ok (.iload_n 3, 1) := by decide +kernel
theorem d_P_left_27 : decode b_P_left 27 = .ok (.ireturn, 1) := by decide +kernel
theorem d_P_left_28 : decode b_P_left 28 = .ok (.iinc 2 1, 3) := by decide +kernel
theorem d_P_left_31 : decode b_P_left 31 = .ok (.iinc 3 1, 3) := by decide +kernel
theorem d_P_left_34 : decode b_P_left 34 = .ok (.goto (-30), 3) := by decide +kernel
theorem d_P_left_37 : decode b_P_left 37 = .ok (.iconst (-1), 1) := by decide +kernel
theorem d_P_left_38 : decode b_P_left 38 = .ok (.ireturn, 1) := by decide +kernel
theorem d_P_minimal_0 : decode b_P_minimal 0 = .ok (.aload_n 0, 1) := by decide +kernel
theorem d_P_minimal_1 : decode b_P_minimal 1 = .ok (.getfield 20, 3) := by decide +kernel
theorem d_P_minimal_4 : decode b_P_minimal 4 = .ok (.invokevirtual 80, 3) := by decide +kernel
theorem d_P_minimal_7 : decode b_P_minimal 7 = .ok (.ifCond .ne 17, 3) := by decide +kernel
theorem d_P_minimal_10 : decode b_P_minimal 10 = .ok (.aload_n 0, 1) := by decide +kernel
theorem d_P_minimal_11 : decode b_P_minimal 11 = .ok (.getfield 33, 3) := by decide +kernel
theorem d_P_minimal_14 : decode b_P_minimal 14 = .ok (.aload_n 0, 1) := by decide +kernel
theorem d_P_minimal_15 : decode b_P_minimal 15 = .ok (.getfield 13, 3) := by decide +kernel
theorem d_P_minimal_18 : decode b_P_minimal 18 = .ok (.invokevirtual 89, 3) := by decide +kernel
theorem d_P_minimal_21 : decode b_P_minimal 21 = .ok (.ifCond .ne 5, 3) := by decide +kernel
theorem d_P_minimal_24 : decode b_P_minimal 24 = .ok (.iconst 0, 1) := by decide +kernel
theorem d_P_minimal_25 : decode b_P_minimal 25 = .ok (.ireturn, 1) := by decide +kernel
theorem d_P_minimal_26 : decode b_P_minimal 26 = .ok (.iconst 0, 1) := by decide +kernel
theorem d_P_minimal_27 : decode b_P_minimal 27 = .ok (.istore_n 1, 1) := by decide +kernel
theorem d_P_minimal_28 : decode b_P_minimal 28 = .ok (.iload_n 1, 1) := by decide +kernel
theorem d_P_minimal_29 : decode b_P_minimal 29 = .ok (.bipush 16, 2) := by decide +kernel
theorem d_P_minimal_31 : decode b_P_minimal 31 = .ok (.if_icmp .ge 19, 3) := by decide +kernel
theorem d_P_minimal_34 : decode b_P_minimal 34 = .ok (.aload_n 0, 1) := by decide +kernel
theorem d_P_minimal_35 : decode b_P_minimal 35 = .ok (.iload_n 1, 1) := by decide +kernel
theorem d_P_minimal_36 : decode b_P_minimal 36 = .ok (.invokevirtual 101, 3) := by decide +kernel
theorem d_P_minimal_39 : decode b_P_minimal 39 = .ok (.ifCond .eq 5, 3) := by decide +kernel
theorem d_P_minimal_42 : decode b_P_minimal 42 = .ok (.iconst 0, 1) := by decide +kernel
theorem d_P_minimal_43 : decode b_P_minimal 43 = .ok (.ireturn, 1) := by decide +kernel
theorem d_P_minimal_44 : decode b_P_minimal 44 = .ok (.iinc 1 1, 3) := by decide +kernel
theorem d_P_minimal_47 : decode b_P_minimal 47 = .ok (.goto (-19), 3) := by decide +kernel
theorem d_P_minimal_50 : decode b_P_minimal 50 = .ok (.iconst 1, 1) := by decide +kernel
theorem d_P_minimal_51 : decode b_P_minimal 51 = .ok (.ireturn, 1) := by decide +kernel
theorem d_P_faultless_0 : decode b_P_faultless 0 = .ok (.aload_n 0, 1) := by decide +kernel
theorem d_P_faultless_1 : decode b_P_faultless 1 = .ok (.getfield 20, 3) := by decide +kernel
theorem d_P_faultless_4 : decode b_P_faultless 4 = .ok (.getfield 66, 3) := by decide +kernel
theorem d_P_faultless_7 : decode b_P_faultless 7 = .ok (.iconst 3, 1) := by decide +kernel
theorem d_P_faultless_8 : decode b_P_faultless 8 = .ok (.if_icmp .ne 29, 3) := by decide +kernel
theorem d_P_faultless_11 : decode b_P_faultless 11 = .ok (.aload_n 0, 1) := by decide +kernel
theorem d_P_faultless_12 : decode b_P_faultless 12 = .ok (.getfield 20, 3) := by decide +kernel
theorem d_P_faultless_15 : decode b_P_faultless 15 = .ok (.iload_n 1, 1) := by decide +kernel
theorem d_P_faultless_16 : decode b_P_faultless 16 = .ok (.invokevirtual 55, 3) := by decide +kernel
theorem d_P_faultless_19 : decode b_P_faultless 19 = .ok (.ifCond .eq 18, 3) := by decide +kernel
theorem d_P_faultless_22 : decode b_P_faultless 22 = .ok (.aload_n 0, 1) := by decide +kernel
theorem d_P_faultless_23 : decode b_P_faultless 23 = .ok (.getfield 20, 3) := by decide +kernel
theorem d_P_faultless_26 : decode b_P_faultless 26 = .ok (.iload_n 1, 1) := by decide +kernel
theorem d_P_faultless_27 : decode b_P_faultless 27 = .ok (.invokevirtual 59, 3) := by decide +kernel
theorem d_P_faultless_30 : decode b_P_faultless 30 = .ok (.ifCond .ne 7, 3) := by decide +kernel
theorem d_P_faultless_33 : decode b_P_faultless 33 = .ok (.iconst 1, 1) := by decide +kernel
theorem d_P_faultless_34 : decode b_P_faultless 34 = .ok (.goto 4, 3) := by decide +kernel
theorem d_P_faultless_37 : decode b_P_faultless 37 = .ok (.iconst 0, 1) := by decide +kernel
theorem d_P_faultless_38 : decode b_P_faultless 38 = .ok (.ireturn, 1) := by decide +kernel
theorem d_P_same_0 : decode b_P_same 0 = .ok (.iload_n 3, 1) := by decide +kernel
theorem d_P_same_1 : decode b_P_same 1 = .ok (.iload 4, 2) := by decide +kernel
theorem d_P_same_3 : decode b_P_same 3 = .ok (.invokestatic 37, 3) := by decide +kernel
theorem d_P_same_6 : decode b_P_same 6 = .ok (.ifCond .ne 5, 3) := by decide +kernel
theorem d_P_same_9 : decode b_P_same 9 = .ok (.iconst 0, 1) := by decide +kernel
theorem d_P_same_10 : decode b_P_same 10 = .ok (.ireturn, 1) := by decide +kernel
theorem d_P_same_11 : decode b_P_same 11 = .ok (.aload_n 0, 1) := by decide +kernel
theorem d_P_same_12 : decode b_P_same 12 = .ok (.getfield 24, 3) := by decide +kernel
theorem d_P_same_15 : decode b_P_same 15 = .ok (.aload_n 0, 1) := by decide +kernel
theorem d_P_same_16 : decode b_P_same 16 = .ok (.getfield 7, 3) := by decide +kernel
theorem d_P_same_19 : decode b_P_same 19 = .ok (.iload_n 3, 1) := by decide +kernel
theorem d_P_same_20 : decode b_P_same 20 = .ok (.iload 4, 2) := by decide +kernel
theorem d_P_same_22 : decode b_P_same 22 = .ok (.iconst 1, 1) := by decide +kernel
theorem d_P_same_23 : decode b_P_same 23 = .ok (.iadd, 1) := by decide +kernel
theorem d_P_same_24 : decode b_P_same 24 = .ok (.invokevirtual 41, 3) := by decide +kernel
theorem d_P_same_27 : decode b_P_same 27 = .ok (.aload_n 0, 1) := by decide +kernel
theorem d_P_same_28 : decode b_P_same 28 = .ok (.getfield 27, 3) := by decide +kernel
theorem d_P_same_31 : decode b_P_same 31 = .ok (.lload_n 1, 1) := by decide +kernel
theorem d_P_same_32 : decode b_P_same 32 = .ok (.iload_n 3, 1) := by decide +kernel
theorem d_P_same_33 : decode b_P_same 33 = .ok (.iload 4, 2) := by decide +kernel
theorem d_P_same_35 : decode b_P_same 35 = .ok (.iconst 1, 1) := by decide +kernel
theorem d_P_same_36 : decode b_P_same 36 = .ok (.iadd, 1) := by decide +kernel
theorem d_P_same_37 : decode b_P_same 37 = .ok (.invokevirtual 41, 3) := by decide +kernel
theorem d_P_same_40 : decode b_P_same 40 = .ok (.aload_n 0, 1) := by decide +kernel
theorem d_P_same_41 : decode b_P_same 41 = .ok (.getfield 24, 3) := by decide +kernel
theorem d_P_same_44 : decode b_P_same 44 = .ok (.aload_n 0, 1) := by decide +kernel
theorem d_P_same_45 : decode b_P_same 45 = .ok (.getfield 27, 3) := by decide +kernel
theorem d_P_same_48 : decode b_P_same 48 = .ok (.invokestatic 104, 3) := by decide +kernel
theorem d_P_same_51 : decode b_P_same 51 = .ok (.ireturn, 1) := by decide +kernel
theorem d_P_isDrawable_0 : decode b_P_isDrawable 0 = .ok (.iload_n 0, 1) := by decide +kernel
theorem d_P_isDrawable_1 : decode b_P_isDrawable 1 = .ok (.ifCond .lt 22, 3) := by decide +kernel
theorem d_P_isDrawable_4 : decode b_P_isDrawable 4 = .ok (.iload_n 0, 1) := by decide +kernel
theorem d_P_isDrawable_5 : decode b_P_isDrawable 5 = .ok (.iconst 4, 1) := by decide +kernel
theorem d_P_isDrawable_6 : decode b_P_isDrawable 6 = .ok (.if_icmp .gt 17, 3) := by decide +kernel
theorem d_P_isDrawable_9 : decode b_P_isDrawable 9 = .ok (.iload_n 1, 1) := by decide +kernel
theorem d_P_isDrawable_10 : decode b_P_isDrawable 10 = .ok (.ifCond .lt 13, 3) := by decide +kernel
theorem d_P_isDrawable_13 : decode b_P_isDrawable 13 = .ok (.iload_n 1, 1) := by decide +kernel
theorem d_P_isDrawable_14 : decode b_P_isDrawable 14 = .ok (.bipush 16, 2) := by decide +kernel
theorem d_P_isDrawable_16 : decode b_P_isDrawable 16 = .ok (.if_icmp .ge 7, 3) := by decide +kernel
theorem d_P_isDrawable_19 : decode b_P_isDrawable 19 = .ok (.iconst 1, 1) := by decide +kernel
theorem d_P_isDrawable_20 : decode b_P_isDrawable 20 = .ok (.goto 4, 3) := by decide +kernel
theorem d_P_isDrawable_23 : decode b_P_isDrawable 23 = .ok (.iconst 0, 1) := by decide +kernel
theorem d_P_isDrawable_24 : decode b_P_isDrawable 24 = .ok (.ireturn, 1) := by decide +kernel
theorem d_P_leaveOutAll_0 : decode b_P_leaveOutAll 0 = .ok (.iconst 0, 1) := by decide +kernel
theorem d_P_leaveOutAll_1 : decode b_P_leaveOutAll 1 = .ok (.istore_n 1, 1) := by decide +kernel
theorem d_P_leaveOutAll_2 : decode b_P_leaveOutAll 2 = .ok (.iload_n 1, 1) := by decide +kernel
theorem d_P_leaveOutAll_3 : decode b_P_leaveOutAll 3 = .ok (.bipush 16, 2) := by decide +kernel
theorem d_P_leaveOutAll_5 : decode b_P_leaveOutAll 5 = .ok (.if_icmp .ge 27, 3) := by decide +kernel
theorem d_P_leaveOutAll_8 : decode b_P_leaveOutAll 8 = .ok (.aload_n 0, 1) := by decide +kernel
theorem d_P_leaveOutAll_9 : decode b_P_leaveOutAll 9 = .ok (.getfield 13, 3) := by decide +kernel
theorem d_P_leaveOutAll_12 : decode b_P_leaveOutAll 12 = .ok (.istore_n 2, 1) := by decide +kernel
theorem d_P_leaveOutAll_13 : decode b_P_leaveOutAll 13 = .ok (.aload_n 0, 1) := by decide +kernel
theorem d_P_leaveOutAll_14 : decode b_P_leaveOutAll 14 = .ok (.invokevirtual 108, 3) := by decide +kernel
theorem d_P_leaveOutAll_17 : decode b_P_leaveOutAll 17 = .ok (.aload_n 0, 1) := by decide +kernel
theorem d_P_leaveOutAll_18 : decode b_P_leaveOutAll 18 = .ok (.getfield 13, 3) := by decide +kernel
theorem d_P_leaveOutAll_21 : decode b_P_leaveOutAll 21 = .ok (.iload_n 2, 1) := by decide +kernel
theorem d_P_leaveOutAll_22 : decode b_P_leaveOutAll 22 = .ok (.if_icmp .ne 4, 3) := by decide +kernel
theorem d_P_leaveOutAll_25 : decode b_P_leaveOutAll 25 = .ok (.return_, 1) := by decide +kernel
theorem d_P_leaveOutAll_26 : decode b_P_leaveOutAll 26 = .ok (.iinc 1 1, 3) := by decide +kernel
theorem d_P_leaveOutAll_29 : decode b_P_leaveOutAll 29 = .ok (.goto (-27), 3) := by decide +kernel
theorem d_P_leaveOutAll_32 : decode b_P_leaveOutAll 32 = .ok (.return_, 1) := by decide +kernel
theorem d_P_goThrough_0 : decode b_P_goThrough 0 = .ok (.iconst 0, 1) := by decide +kernel
theorem d_P_goThrough_1 : decode b_P_goThrough 1 = .ok (.istore_n 1, 1) := by decide +kernel
theorem d_P_goThrough_2 : decode b_P_goThrough 2 = .ok (.iload_n 1, 1) := by decide +kernel
theorem d_P_goThrough_3 : decode b_P_goThrough 3 = .ok (.bipush 16, 2) := by decide +kernel
theorem d_P_goThrough_5 : decode b_P_goThrough 5 = .ok (.if_icmp .ge 31, 3) := by decide +kernel
theorem d_P_goThrough_8 : decode b_P_goThrough 8 = .ok (.aload_n 0, 1) := by decide +kernel
theorem d_P_goThrough_9 : decode b_P_goThrough 9 = .ok (.iload_n 1, 1) := by decide +kernel
theorem d_P_goThrough_10 : decode b_P_goThrough 10 = .ok (.invokevirtual 101, 3) := by decide +kernel
theorem d_P_goThrough_13 : decode b_P_goThrough 13 = .ok (.ifCond .eq 17, 3) := by decide +kernel
theorem d_P_goThrough_16 : decode b_P_goThrough 16 = .ok (.aload_n 0, 1) := by decide +kernel
theorem d_P_goThrough_17 : decode b_P_goThrough 17 = .ok (.dup, 1) := by decide +kernel
theorem d_P_goThrough_18 : decode b_P_goThrough 18 = .ok (.getfield 13, 3) := by decide +kernel
theorem d_P_goThrough_21 : decode b_P_goThrough 21 = .ok (.iconst 1, 1) := by decide +kernel
theorem d_P_goThrough_22 : decode b_P_goThrough 22 = .ok (.iload_n 1, 1) := by decide +kernel
theorem d_P_goThrough_23 : decode b_P_goThrough 23 = .ok (.ishl, 1) := by decide +kernel
theorem d_P_goThrough_24 : decode b_P_goThrough 24 = .ok (.iconst (-1), 1) := by decide +kernel
theorem d_P_goThrough_25 : decode b_P_goThrough 25 = .ok (.ixor, 1) := by decide +kernel
theorem d_P_goThrough_26 : decode b_P_goThrough 26 = .ok (.iand, 1) := by decide +kernel
theorem d_P_goThrough_27 : decode b_P_goThrough 27 = .ok (.putfield 13, 3) := by decide +kernel
theorem d_P_goThrough_30 : decode b_P_goThrough 30 = .ok (.iinc 1 1, 3) := by decide +kernel
theorem d_P_goThrough_33 : decode b_P_goThrough 33 = .ok (.goto (-31), 3) := by decide +kernel
theorem d_P_goThrough_36 : decode b_P_goThrough 36 = .ok (.return_, 1) := by decide +kernel
theorem d_P_canLeaveOut_0 : decode b_P_canLeaveOut 0 = .ok (.iconst 1, 1) := by decide +kernel
theorem d_P_canLeaveOut_1 : decode b_P_canLeaveOut 1 = .ok (.iload_n 1, 1) := by decide +kernel
theorem d_P_canLeaveOut_2 : decode b_P_canLeaveOut 2 = .ok (.ishl, 1) := by decide +kernel
theorem d_P_canLeaveOut_3 : decode b_P_canLeaveOut 3 = .ok (.istore_n 2, 1) := by decide +kernel
theorem d_P_canLeaveOut_4 : decode b_P_canLeaveOut 4 = .ok (.aload_n 0, 1) := by decide +kernel
theorem d_P_canLeaveOut_5 : decode b_P_canLeaveOut 5 = .ok (.getfield 13, 3) := by decide +kernel
theorem d_P_canLeaveOut_8 : decode b_P_canLeaveOut 8 = .ok (.iload_n 2, 1) := by decide +kernel
theorem d_P_canLeaveOut_9 : decode b_P_canLeaveOut 9 = .ok (.iand, 1) := by decide +kernel
theorem d_P_canLeaveOut_10 : decode b_P_canLeaveOut 10 = .ok (.ifCond .eq 25, 3) := by decide +kernel
theorem d_P_canLeaveOut_13 : decode b_P_canLeaveOut 13 = .ok (.aload_n 0, 1) := by decide +kernel
theorem d_P_canLeaveOut_14 : decode b_P_canLeaveOut 14 = .ok (.getfield 33, 3) := by decide +kernel
theorem d_P_canLeaveOut_17 : decode b_P_canLeaveOut 17 = .ok (.aload_n 0, 1) := by decide +kernel
theorem d_P_canLeaveOut_18 : decode b_P_canLeaveOut 18 = .ok (.getfield 13, 3) := by decide +kernel
theorem d_P_canLeaveOut_21 : decode b_P_canLeaveOut 21 = .ok (.iload_n 2, 1) := by decide +kernel
theorem d_P_canLeaveOut_22 : decode b_P_canLeaveOut 22 = .ok (.iconst (-1), 1) := by decide +kernel
theorem d_P_canLeaveOut_23 : decode b_P_canLeaveOut 23 = .ok (.ixor, 1) := by decide +kernel
theorem d_P_canLeaveOut_24 : decode b_P_canLeaveOut 24 = .ok (.iand, 1) := by decide +kernel
theorem d_P_canLeaveOut_25 : decode b_P_canLeaveOut 25 = .ok (.invokevirtual 89, 3) := by decide +kernel
theorem d_P_canLeaveOut_28 : decode b_P_canLeaveOut 28 = .ok (.ifCond .eq 7, 3) := by decide +kernel
theorem d_P_canLeaveOut_31 : decode b_P_canLeaveOut 31 = .ok (.iconst 1, 1) := by decide +kernel
theorem d_P_canLeaveOut_32 : decode b_P_canLeaveOut 32 = .ok (.goto 4, 3) := by decide +kernel
theorem d_P_canLeaveOut_35 : decode b_P_canLeaveOut 35 = .ok (.iconst 0, 1) := by decide +kernel
theorem d_P_canLeaveOut_36 : decode b_P_canLeaveOut 36 = .ok (.ireturn, 1) := by decide +kernel
theorem d_P_isInked_0 : decode b_P_isInked 0 = .ok (.iload_n 0, 1) := by decide +kernel
theorem d_P_isInked_1 : decode b_P_isInked 1 = .ok (.ifCond .lt 11, 3) := by decide +kernel
theorem d_P_isInked_4 : decode b_P_isInked 4 = .ok (.iload_n 0, 1) := by decide +kernel
theorem d_P_isInked_5 : decode b_P_isInked 5 = .ok (.getstatic 111, 3) := by decide +kernel
theorem d_P_isInked_8 : decode b_P_isInked 8 = .ok (.arraylength, 1) := by decide +kernel
theorem d_P_isInked_9 : decode b_P_isInked 9 = .ok (.if_icmp .lt 5, 3) := by decide +kernel
theorem d_P_isInked_12 : decode b_P_isInked 12 = .ok (.iconst 0, 1) := by decide +kernel
theorem d_P_isInked_13 : decode b_P_isInked 13 = .ok (.ireturn, 1) := by decide +kernel
theorem d_P_isInked_14 : decode b_P_isInked 14 = .ok (.iconst 3, 1) := by decide +kernel
theorem d_P_isInked_15 : decode b_P_isInked 15 = .ok (.iload_n 2, 1) := by decide +kernel
theorem d_P_isInked_16 : decode b_P_isInked 16 = .ok (.iconst 4, 1) := by decide +kernel
theorem d_P_isInked_17 : decode b_P_isInked 17 = .ok (.idiv, 1) := by decide +kernel
theorem d_P_isInked_18 : decode b_P_isInked 18 = .ok (.imul, 1) := by decide +kernel
theorem d_P_isInked_19 : decode b_P_isInked 19 = .ok (.iload_n 1, 1) := by decide +kernel
theorem d_P_isInked_20 : decode b_P_isInked 20 = .ok (.iconst 4, 1) := by decide +kernel
theorem d_P_isInked_21 : decode b_P_isInked 21 = .ok (.idiv, 1) := by decide +kernel
theorem d_P_isInked_22 : decode b_P_isInked 22 = .ok (.iadd, 1) := by decide +kernel
theorem d_P_isInked_23 : decode b_P_isInked 23 = .ok (.istore_n 3, 1) := by decide +kernel
theorem d_P_isInked_24 : decode b_P_isInked 24 = .ok (.getstatic 111, 3) := by decide +kernel
theorem d_P_isInked_27 : decode b_P_isInked 27 = .ok (.iload_n 0, 1) := by decide +kernel
theorem d_P_isInked_28 : decode b_P_isInked 28 = .ok (.iaload, 1) := by decide +kernel
theorem d_P_isInked_29 : decode b_P_isInked 29 = .ok (.bipush 14, 2) := by decide +kernel
theorem d_P_isInked_31 : decode b_P_isInked 31 = .ok (.iload_n 3, 1) := by decide +kernel
theorem d_P_isInked_32 : decode b_P_isInked 32 = .ok (.isub, 1) := by decide +kernel
theorem d_P_isInked_33 : decode b_P_isInked 33 = .ok (.ishr, 1) := by decide +kernel
theorem d_P_isInked_34 : decode b_P_isInked 34 = .ok (.iconst 1, 1) := by decide +kernel
theorem d_P_isInked_35 : decode b_P_isInked 35 = .ok (.iand, 1) := by decide +kernel
theorem d_P_isInked_36 : decode b_P_isInked 36 = .ok (.ifCond .eq 7, 3) := by decide +kernel
theorem d_P_isInked_39 : decode b_P_isInked 39 = .ok (.iconst 1, 1) := by decide +kernel
theorem d_P_isInked_40 : decode b_P_isInked 40 = .ok (.goto 4, 3) := by decide +kernel
theorem d_P_isInked_43 : decode b_P_isInked 43 = .ok (.iconst 0, 1) := by decide +kernel
theorem d_P_isInked_44 : decode b_P_isInked 44 = .ok (.ireturn, 1) := by decide +kernel
theorem d_P_noise_0 : decode b_P_noise 0 = .ok (.lload_n 0, 1) := by decide +kernel
theorem d_P_noise_1 : decode b_P_noise 1 = .ok (.iconst 5, 1) := by decide +kernel
theorem d_P_noise_2 : decode b_P_noise 2 = .ok (.iload_n 2, 1) := by decide +kernel
theorem d_P_noise_3 : decode b_P_noise 3 = .ok (.iadd, 1) := by decide +kernel
theorem d_P_noise_4 : decode b_P_noise 4 = .ok (.bipush 12, 2) := by decide +kernel
theorem d_P_noise_6 : decode b_P_noise 6 = .ok (.iload 4, 2) := by decide +kernel
theorem d_P_noise_8 : decode b_P_noise 8 = .ok (.imul, 1) := by decide +kernel
theorem d_P_noise_9 : decode b_P_noise 9 = .ok (.iload_n 3, 1) := by decide +kernel
theorem d_P_noise_10 : decode b_P_noise 10 = .ok (.iadd, 1) := by decide +kernel
theorem d_P_noise_11 : decode b_P_noise 11 = .ok (.invokestatic 115, 3) := by decide +kernel
theorem d_P_noise_14 : decode b_P_noise 14 = .ok (.lstore 5, 2) := by decide +kernel
theorem d_P_noise_16 : decode b_P_noise 16 = .ok (.ldc2_w 119, 3) := by decide +kernel
theorem d_P_noise_19 : decode b_P_noise 19 = .ok (.lload 5, 2) := by decide +kernel
theorem d_P_noise_21 : decode b_P_noise 21 = .ok (.iconst 1, 1) := by decide +kernel
theorem d_P_noise_22 : decode b_P_noise 22 = .ok (.lushr, 1) := by decide +kernel
theorem d_P_noise_23 : decode b_P_noise 23 = .ok (.ldc2_w 121, 3) := by decide +kernel
theorem d_P_noise_26 : decode b_P_noise 26 = .ok (.lrem, 1) := by decide +kernel
theorem d_P_noise_27 : decode b_P_noise 27 = .ok (.lmul, 1) := by decide +kernel
theorem d_P_noise_28 : decode b_P_noise 28 = .ok (.lload 5, 2) := by decide +kernel
theorem d_P_noise_30 : decode b_P_noise 30 = .ok (.lconst 1, 1) := by decide +kernel
theorem d_P_noise_31 : decode b_P_noise 31 = .ok (.land, 1) := by decide +kernel
theorem d_P_noise_32 : decode b_P_noise 32 = .ok (.ladd, 1) := by decide +kernel
theorem d_P_noise_33 : decode b_P_noise 33 = .ok (.ldc2_w 121, 3) := by decide +kernel
theorem d_P_noise_36 : decode b_P_noise 36 = .ok (.lrem, 1) := by decide +kernel
theorem d_P_noise_37 : decode b_P_noise 37 = .ok (.lstore 7, 2) := by decide +kernel
theorem d_P_noise_39 : decode b_P_noise 39 = .ok (.lload 7, 2) := by decide +kernel
theorem d_P_noise_41 : decode b_P_noise 41 = .ok (.l2i, 1) := by decide +kernel
theorem d_P_noise_42 : decode b_P_noise 42 = .ok (.bipush 16, 2) := by decide +kernel
theorem d_P_noise_44 : decode b_P_noise 44 = .ok (.isub, 1) := by decide +kernel
theorem d_P_noise_45 : decode b_P_noise 45 = .ok (.ireturn, 1) := by decide +kernel
theorem d_P_number_0 : decode b_P_number 0 = .ok (.lload_n 0, 1) := by decide +kernel
theorem d_P_number_1 : decode b_P_number 1 = .ok (.lconst 1, 1) := by decide +kernel
theorem d_P_number_2 : decode b_P_number 2 = .ok (.iload_n 3, 1) := by decide +kernel
theorem d_P_number_3 : decode b_P_number 3 = .ok (.i2l, 1) := by decide +kernel
theorem d_P_number_4 : decode b_P_number 4 = .ok (.ladd, 1) := by decide +kernel
theorem d_P_number_5 : decode b_P_number 5 = .ok (.ldc2_w 123, 3) := by decide +kernel
theorem d_P_number_8 : decode b_P_number 8 = .ok (.iload_n 2, 1) := by decide +kernel
theorem d_P_number_9 : decode b_P_number 9 = .ok (.i2l, 1) := by decide +kernel
theorem d_P_number_10 : decode b_P_number 10 = .ok (.lmul, 1) := by decide +kernel
theorem d_P_number_11 : decode b_P_number 11 = .ok (.ladd, 1) := by decide +kernel
theorem d_P_number_12 : decode b_P_number 12 = .ok (.ldc2_w 125, 3) := by decide +kernel
theorem d_P_number_15 : decode b_P_number 15 = .ok (.lmul, 1) := by decide +kernel
theorem d_P_number_16 : decode b_P_number 16 = .ok (.ladd, 1) := by decide +kernel
theorem d_P_number_17 : decode b_P_number 17 = .ok (.lstore 4, 2) := by decide +kernel
theorem d_P_number_19 : decode b_P_number 19 = .ok (.lload 4, 2) := by decide +kernel
theorem d_P_number_21 : decode b_P_number 21 = .ok (.lload 4, 2) := by decide +kernel
theorem d_P_number_23 : decode b_P_number 23 = .ok (.bipush 30, 2) := by decide +kernel
theorem d_P_number_25 : decode b_P_number 25 = .ok (.lushr, 1) := by decide +kernel
theorem d_P_number_26 : decode b_P_number 26 = .ok (.lxor, 1) := by decide +kernel
theorem d_P_number_27 : decode b_P_number 27 = .ok (.ldc2_w 127, 3) := by decide +kernel
theorem d_P_number_30 : decode b_P_number 30 = .ok (.lmul, 1) := by decide +kernel
theorem d_P_number_31 : decode b_P_number 31 = .ok (.lstore 4, 2) := by decide +kernel
theorem d_P_number_33 : decode b_P_number 33 = .ok (.lload 4, 2) := by decide +kernel
theorem d_P_number_35 : decode b_P_number 35 = .ok (.lload 4, 2) := by decide +kernel
theorem d_P_number_37 : decode b_P_number 37 = .ok (.bipush 27, 2) := by decide +kernel
theorem d_P_number_39 : decode b_P_number 39 = .ok (.lushr, 1) := by decide +kernel
theorem d_P_number_40 : decode b_P_number 40 = .ok (.lxor, 1) := by decide +kernel
theorem d_P_number_41 : decode b_P_number 41 = .ok (.ldc2_w 129, 3) := by decide +kernel
theorem d_P_number_44 : decode b_P_number 44 = .ok (.lmul, 1) := by decide +kernel
theorem d_P_number_45 : decode b_P_number 45 = .ok (.lstore 4, 2) := by decide +kernel
theorem d_P_number_47 : decode b_P_number 47 = .ok (.lload 4, 2) := by decide +kernel
theorem d_P_number_49 : decode b_P_number 49 = .ok (.lload 4, 2) := by decide +kernel
theorem d_P_number_51 : decode b_P_number 51 = .ok (.bipush 31, 2) := by decide +kernel
theorem d_P_number_53 : decode b_P_number 53 = .ok (.lushr, 1) := by decide +kernel
theorem d_P_number_54 : decode b_P_number 54 = .ok (.lxor, 1) := by decide +kernel
theorem d_P_number_55 : decode b_P_number 55 = .ok (.lreturn, 1) := by decide +kernel
theorem d_P_haveSameParts_0 : decode b_P_haveSameParts 0 = .ok (.iconst 0, 1) := by decide +kernel
theorem d_P_haveSameParts_1 : decode b_P_haveSameParts 1 = .ok (.istore_n 2, 1) := by decide +kernel
theorem d_P_haveSameParts_2 : decode b_P_haveSameParts 2 = .ok (.iload_n 2, 1) := by decide +kernel
theorem d_P_haveSameParts_3 : decode b_P_haveSameParts 3 = .ok (.aload_n 0, 1) := by decide +kernel
theorem d_P_haveSameParts_4 : decode b_P_haveSameParts 4 = .ok (.getfield 52, 3) := by decide +kernel
theorem d_P_haveSameParts_7 : decode b_P_haveSameParts 7 = .ok (.if_icmp .ge 39, 3) := by decide +kernel
theorem d_P_haveSameParts_10 : decode b_P_haveSameParts 10 = .ok (.iconst 1, 1) := by decide +kernel
theorem d_P_haveSameParts_11 : decode b_P_haveSameParts 11 = .ok (.istore_n 3, 1) := by decide +kernel
theorem d_P_haveSameParts_12 : decode b_P_haveSameParts 12 = .ok (.iload_n 3, 1) := by decide +kernel
theorem d_P_haveSameParts_13 : decode b_P_haveSameParts 13 = .ok (.iconst 4, 1) := by decide +kernel
theorem d_P_haveSameParts_14 : decode b_P_haveSameParts 14 = .ok (.if_icmp .gt 26, 3) := by decide +kernel
theorem d_P_haveSameParts_17 : decode b_P_haveSameParts 17 = .ok (.aload_n 0, 1) := by decide +kernel
theorem d_P_haveSameParts_18 : decode b_P_haveSameParts 18 = .ok (.iload_n 2, 1) := by decide +kernel
theorem d_P_haveSameParts_19 : decode b_P_haveSameParts 19 = .ok (.iload_n 3, 1) := by decide +kernel
theorem d_P_haveSameParts_20 : decode b_P_haveSameParts 20 = .ok (.invokevirtual 62, 3) := by decide +kernel
theorem d_P_haveSameParts_23 : decode b_P_haveSameParts 23 = .ok (.aload_n 1, 1) := by decide +kernel
theorem d_P_haveSameParts_24 : decode b_P_haveSameParts 24 = .ok (.iload_n 2, 1) := by decide +kernel
theorem d_P_haveSameParts_25 : decode b_P_haveSameParts 25 = .ok (.iload_n 3, 1) := by decide +kernel
theorem d_P_haveSameParts_26 : decode b_P_haveSameParts 26 = .ok (.invokevirtual 62, 3) := by decide +kernel
theorem d_P_haveSameParts_29 : decode b_P_haveSameParts 29 = .ok (.if_icmp .eq 5, 3) := by decide +kernel
theorem d_P_haveSameParts_32 : decode b_P_haveSameParts 32 = .ok (.iconst 0, 1) := by decide +kernel
theorem d_P_haveSameParts_33 : decode b_P_haveSameParts 33 = .ok (.ireturn, 1) := by decide +kernel
theorem d_P_haveSameParts_34 : decode b_P_haveSameParts 34 = .ok (.iinc 3 1, 3) := by decide +kernel
theorem d_P_haveSameParts_37 : decode b_P_haveSameParts 37 = .ok (.goto (-25), 3) := by decide +kernel
theorem d_P_haveSameParts_40 : decode b_P_haveSameParts 40 = .ok (.iinc 2 1, 3) := by decide +kernel
theorem d_P_haveSameParts_43 : decode b_P_haveSameParts 43 = .ok (.goto (-41), 3) := by decide +kernel
theorem d_P_haveSameParts_46 : decode b_P_haveSameParts 46 = .ok (.aload_n 0, 1) := by decide +kernel
theorem d_P_haveSameParts_47 : decode b_P_haveSameParts 47 = .ok (.getfield 131, 3) := by decide +kernel
theorem d_P_haveSameParts_50 : decode b_P_haveSameParts 50 = .ok (.aload_n 1, 1) := by decide +kernel
theorem d_P_haveSameParts_51 : decode b_P_haveSameParts 51 = .ok (.getfield 131, 3) := by decide +kernel
theorem d_P_haveSameParts_54 : decode b_P_haveSameParts 54 = .ok (.if_icmp .ne 7, 3) := by decide +kernel
theorem d_P_haveSameParts_57 : decode b_P_haveSameParts 57 = .ok (.iconst 1, 1) := by decide +kernel
theorem d_P_haveSameParts_58 : decode b_P_haveSameParts 58 = .ok (.goto 4, 3) := by decide +kernel
theorem d_P_haveSameParts_61 : decode b_P_haveSameParts 61 = .ok (.iconst 0, 1) := by decide +kernel
theorem d_P_haveSameParts_62 : decode b_P_haveSameParts 62 = .ok (.ireturn, 1) := by decide +kernel
theorem d_D_init_0 : decode b_D_init 0 = .ok (.aload_n 0, 1) := by decide +kernel
theorem d_D_init_1 : decode b_D_init 1 = .ok (.invokespecial 3, 3) := by decide +kernel
theorem d_D_init_4 : decode b_D_init 4 = .ok (.aload_n 0, 1) := by decide +kernel
theorem d_D_init_5 : decode b_D_init 5 = .ok (.bipush 16, 2) := by decide +kernel
theorem d_D_init_7 : decode b_D_init 7 = .ok (.newarray .long, 2) := by decide +kernel
theorem d_D_init_9 : decode b_D_init 9 = .ok (.putfield 9, 3) := by decide +kernel
theorem d_D_init_12 : decode b_D_init 12 = .ok (.aload_n 0, 1) := by decide +kernel
theorem d_D_init_13 : decode b_D_init 13 = .ok (.lconst 0, 1) := by decide +kernel
theorem d_D_init_14 : decode b_D_init 14 = .ok (.putfield 15, 3) := by decide +kernel
theorem d_D_init_17 : decode b_D_init 17 = .ok (.aload_n 0, 1) := by decide +kernel
theorem d_D_init_18 : decode b_D_init 18 = .ok (.iconst (-1), 1) := by decide +kernel
theorem d_D_init_19 : decode b_D_init 19 = .ok (.putfield 19, 3) := by decide +kernel
theorem d_D_init_22 : decode b_D_init 22 = .ok (.aload_n 0, 1) := by decide +kernel
theorem d_D_init_23 : decode b_D_init 23 = .ok (.iconst 0, 1) := by decide +kernel
theorem d_D_init_24 : decode b_D_init 24 = .ok (.putfield 23, 3) := by decide +kernel
theorem d_D_init_27 : decode b_D_init 27 = .ok (.aload_n 0, 1) := by decide +kernel
theorem d_D_init_28 : decode b_D_init 28 = .ok (.iconst 0, 1) := by decide +kernel
theorem d_D_init_29 : decode b_D_init 29 = .ok (.putfield 26, 3) := by decide +kernel
theorem d_D_init_32 : decode b_D_init 32 = .ok (.return_, 1) := by decide +kernel
theorem d_D_fill_0 : decode b_D_fill 0 = .ok (.aload_n 0, 1) := by decide +kernel
theorem d_D_fill_1 : decode b_D_fill 1 = .ok (.lload_n 1, 1) := by decide +kernel
theorem d_D_fill_2 : decode b_D_fill 2 = .ok (.putfield 15, 3) := by decide +kernel
theorem d_D_fill_5 : decode b_D_fill 5 = .ok (.aload_n 0, 1) := by decide +kernel
theorem d_D_fill_6 : decode b_D_fill 6 = .ok (.iload_n 3, 1) := by decide +kernel
theorem d_D_fill_7 : decode b_D_fill 7 = .ok (.putfield 19, 3) := by decide +kernel
theorem d_D_fill_10 : decode b_D_fill 10 = .ok (.aload_n 0, 1) := by decide +kernel
theorem d_D_fill_11 : decode b_D_fill 11 = .ok (.iconst 0, 1) := by decide +kernel
theorem d_D_fill_12 : decode b_D_fill 12 = .ok (.iload 4, 2) := by decide +kernel
theorem d_D_fill_14 : decode b_D_fill 14 = .ok (.bipush 16, 2) := by decide +kernel
theorem d_D_fill_16 : decode b_D_fill 16 = .ok (.invokestatic 29, 3) := by decide +kernel
theorem d_D_fill_19 : decode b_D_fill 19 = .ok (.invokestatic 35, 3) := by decide +kernel
theorem d_D_fill_22 : decode b_D_fill 22 = .ok (.putfield 23, 3) := by decide +kernel
theorem d_D_fill_25 : decode b_D_fill 25 = .ok (.iconst 0, 1) := by decide +kernel
theorem d_D_fill_26 : decode b_D_fill 26 = .ok (.istore 5, 2) := by decide +kernel
theorem d_D_fill_28 : decode b_D_fill 28 = .ok (.iload 5, 2) := by decide +kernel
theorem d_D_fill_30 : decode b_D_fill 30 = .ok (.aload_n 0, 1) := by decide +kernel
theorem d_D_fill_31 : decode b_D_fill 31 = .ok (.getfield 23, 3) := by decide +kernel
theorem d_D_fill_34 : decode b_D_fill 34 = .ok (.if_icmp .ge 29, 3) := by decide +kernel
theorem d_D_fill_37 : decode b_D_fill 37 = .ok (.aload_n 0, 1) := by decide +kernel
theorem d_D_fill_38 : decode b_D_fill 38 = .ok (.getfield 9, 3) := by decide +kernel
theorem d_D_fill_41 : decode b_D_fill 41 = .ok (.iload 5, 2) := by decide +kernel
theorem d_D_fill_43 : decode b_D_fill 43 = .ok (.aload_n 0, 1) := by decide +kernel
theorem d_D_fill_44 : decode b_D_fill 44 = .ok (.getfield 15, 3) := by decide +kernel
theorem d_D_fill_47 : decode b_D_fill 47 = .ok (.aload_n 0, 1) := by decide +kernel
theorem d_D_fill_48 : decode b_D_fill 48 = .ok (.getfield 19, 3) := by decide +kernel
theorem d_D_fill_51 : decode b_D_fill 51 = .ok (.iload 5, 2) := by decide +kernel
theorem d_D_fill_53 : decode b_D_fill 53 = .ok (.invokestatic 38, 3) := by decide +kernel
theorem d_D_fill_56 : decode b_D_fill 56 = .ok (.lastore, 1) := by decide +kernel
theorem d_D_fill_57 : decode b_D_fill 57 = .ok (.iinc 5 1, 3) := by decide +kernel
theorem d_D_fill_60 : decode b_D_fill 60 = .ok (.goto (-32), 3) := by decide +kernel
theorem d_D_fill_63 : decode b_D_fill 63 = .ok (.aload_n 0, 1) := by decide +kernel
theorem d_D_fill_64 : decode b_D_fill 64 = .ok (.aload_n 0, 1) := by decide +kernel
theorem d_D_fill_65 : decode b_D_fill 65 = .ok (.getfield 19, 3) := by decide +kernel
theorem d_D_fill_68 : decode b_D_fill 68 = .ok (.iconst 3, 1) := by decide +kernel
theorem d_D_fill_69 : decode b_D_fill 69 = .ok (.if_icmp .ne 10, 3) := by decide +kernel
theorem d_D_fill_72 : decode b_D_fill 72 = .ok (.aload_n 0, 1) := by decide +kernel
theorem d_D_fill_73 : decode b_D_fill 73 = .ok (.invokevirtual 42, 3) := by decide +kernel
theorem d_D_fill_76 : decode b_D_fill 76 = .ok (.goto 4, 3) := by decide +kernel
theorem d_D_fill_79 : decode b_D_fill 79 = .ok (.iconst 0, 1) := by decide +kernel
theorem d_D_fill_80 : decode b_D_fill 80 = .ok (.putfield 26, 3) := by decide +kernel
theorem d_D_fill_83 : decode b_D_fill 83 = .ok (.return_, 1) := by decide +kernel
theorem d_D_isEmpty_0 : decode b_D_isEmpty 0 = .ok (.aload_n 0, 1) := by decide +kernel
theorem d_D_isEmpty_1 : decode b_D_isEmpty 1 = .ok (.getfield 23, 3) := by decide +kernel
theorem d_D_isEmpty_4 : decode b_D_isEmpty 4 = .ok (.ifCond .ne 7, 3) := by decide +kernel
theorem d_D_isEmpty_7 : decode b_D_isEmpty 7 = .ok (.iconst 1, 1) := by decide +kernel
theorem d_D_isEmpty_8 : decode b_D_isEmpty 8 = .ok (.goto 4, 3) := by decide +kernel
theorem d_D_isEmpty_11 : decode b_D_isEmpty 11 = .ok (.iconst 0, 1) := by decide +kernel
theorem d_D_isEmpty_12 : decode b_D_isEmpty 12 = .ok (.ireturn, 1) := by decide +kernel
theorem d_D_has_0 : decode b_D_has 0 = .ok (.iload_n 1, 1) := by decide +kernel
theorem d_D_has_1 : decode b_D_has 1 = .ok (.ifCond .lt 15, 3) := by decide +kernel
theorem d_D_has_4 : decode b_D_has 4 = .ok (.iload_n 1, 1) := by decide +kernel
theorem d_D_has_5 : decode b_D_has 5 = .ok (.aload_n 0, 1) := by decide +kernel
theorem d_D_has_6 : decode b_D_has 6 = .ok (.getfield 23, 3) := by decide +kernel
theorem d_D_has_9 : decode b_D_has 9 = .ok (.if_icmp .ge 7, 3) := by decide +kernel
theorem d_D_has_12 : decode b_D_has 12 = .ok (.iconst 1, 1) := by decide +kernel
theorem d_D_has_13 : decode b_D_has 13 = .ok (.goto 4, 3) := by decide +kernel
theorem d_D_has_16 : decode b_D_has 16 = .ok (.iconst 0, 1) := by decide +kernel
theorem d_D_has_17 : decode b_D_has 17 = .ok (.ireturn, 1) := by decide +kernel
theorem d_D_allBits_0 : decode b_D_allBits 0 = .ok (.iconst 1, 1) := by decide +kernel
theorem d_D_allBits_1 : decode b_D_allBits 1 = .ok (.aload_n 0, 1) := by decide +kernel
theorem d_D_allBits_2 : decode b_D_allBits 2 = .ok (.getfield 23, 3) := by decide +kernel
theorem d_D_allBits_5 : decode b_D_allBits 5 = .ok (.ishl, 1) := by decide +kernel
theorem d_D_allBits_6 : decode b_D_allBits 6 = .ok (.iconst 1, 1) := by decide +kernel
theorem d_D_allBits_7 : decode b_D_allBits 7 = .ok (.isub, 1) := by decide +kernel
theorem d_D_allBits_8 : decode b_D_allBits 8 = .ok (.ireturn, 1) := by decide +kernel
theorem d_D_hasFaults_0 : decode b_D_hasFaults 0 = .ok (.aload_n 0, 1) := by decide +kernel
theorem d_D_hasFaults_1 : decode b_D_hasFaults 1 = .ok (.iload_n 1, 1) := by decide +kernel
theorem d_D_hasFaults_2 : decode b_D_hasFaults 2 = .ok (.invokevirtual 46, 3) := by decide +kernel
theorem d_D_hasFaults_5 : decode b_D_hasFaults 5 = .ok (.ifCond .eq 18, 3) := by decide +kernel
theorem d_D_hasFaults_8 : decode b_D_hasFaults 8 = .ok (.aload_n 0, 1) := by decide +kernel
theorem d_D_hasFaults_9 : decode b_D_hasFaults 9 = .ok (.getfield 26, 3) := by decide +kernel
theorem d_D_hasFaults_12 : decode b_D_hasFaults 12 = .ok (.iload_n 1, 1) := by decide +kernel
theorem d_D_hasFaults_13 : decode b_D_hasFaults 13 = .ok (.ishr, 1) := by decide +kernel
theorem d_D_hasFaults_14 : decode b_D_hasFaults 14 = .ok (.iconst 1, 1) := by decide +kernel
theorem d_D_hasFaults_15 : decode b_D_hasFaults 15 = .ok (.iand, 1) := by decide +kernel
theorem d_D_hasFaults_16 : decode b_D_hasFaults 16 = .ok (.ifCond .eq 7, 3) := by decide +kernel
theorem d_D_hasFaults_19 : decode b_D_hasFaults 19 = .ok (.iconst 1, 1) := by decide +kernel
theorem d_D_hasFaults_20 : decode b_D_hasFaults 20 = .ok (.goto 4, 3) := by decide +kernel
theorem d_D_hasFaults_23 : decode b_D_hasFaults 23 = .ok (.iconst 0, 1) := by decide +kernel
theorem d_D_hasFaults_24 : decode b_D_hasFaults 24 = .ok (.ireturn, 1) := by decide +kernel
theorem d_D_fact_0 : decode b_D_fact 0 = .ok (.aload_n 0, 1) := by decide +kernel
theorem d_D_fact_1 : decode b_D_fact 1 = .ok (.iload_n 1, 1) := by decide +kernel
theorem d_D_fact_2 : decode b_D_fact 2 = .ok (.invokevirtual 46, 3) := by decide +kernel
theorem d_D_fact_5 : decode b_D_fact 5 = .ok (.ifCond .ne 5, 3) := by decide +kernel
theorem d_D_fact_8 : decode b_D_fact 8 = .ok (.iconst (-1), 1) := by decide +kernel
theorem d_D_fact_9 : decode b_D_fact 9 = .ok (.ireturn, 1) := by decide +kernel
theorem d_D_fact_10 : decode b_D_fact 10 = .ok (.aload_n 0, 1) := by decide +kernel
theorem d_D_fact_11 : decode b_D_fact 11 = .ok (.getfield 9, 3) := by decide +kernel
theorem d_D_fact_14 : decode b_D_fact 14 = .ok (.iload_n 1, 1) := by decide +kernel
theorem d_D_fact_15 : decode b_D_fact 15 = .ok (.laload, 1) := by decide +kernel
theorem d_D_fact_16 : decode b_D_fact 16 = .ok (.lstore_n 3, 1) := by decide +kernel
theorem d_D_fact_17 : decode b_D_fact 17 = .ok (.iload_n 2, 1) := by decide +kernel
theorem d_D_fact_18 : decode b_D_fact 18 = .ok (.tableswitch 77 1 4 #[30, 47, 57, 67], 30) := by decide +kernel
theorem d_D_fact_48 : decode b_D_fact 48 = .ok (.ldc2_w 50, 3) := by decide +kernel
theorem d_D_fact_51 : decode b_D_fact 51 = .ok (.lload_n 3, 1) := by decide +kernel
theorem d_D_fact_52 : decode b_D_fact 52 = .ok (.iconst 1, 1) := by decide +kernel
theorem d_D_fact_53 : decode b_D_fact 53 = .ok (.lushr, 1) := by decide +kernel
theorem d_D_fact_54 : decode b_D_fact 54 = .ok (.ldc2_w 52, 3) := by decide +kernel
theorem d_D_fact_57 : decode b_D_fact 57 = .ok (.lrem, 1) := by decide +kernel
theorem d_D_fact_58 : decode b_D_fact 58 = .ok (.lmul, 1) := by decide +kernel
theorem d_D_fact_59 : decode b_D_fact 59 = .ok (.lload_n 3, 1) := by decide +kernel
theorem d_D_fact_60 : decode b_D_fact 60 = .ok (.lconst 1, 1) := by decide +kernel
theorem d_D_fact_61 : decode b_D_fact 61 = .ok (.land, 1) := by decide +kernel
theorem d_D_fact_62 : decode b_D_fact 62 = .ok (.ladd, 1) := by decide +kernel
theorem d_D_fact_63 : decode b_D_fact 63 = .ok (.l2i, 1) := by decide +kernel
theorem d_D_fact_64 : decode b_D_fact 64 = .ok (.ireturn, 1) := by decide +kernel
theorem d_D_fact_65 : decode b_D_fact 65 = .ok (.lload_n 3, 1) := by decide +kernel
theorem d_D_fact_66 : decode b_D_fact 66 = .ok (.bipush 8, 2) := by decide +kernel
theorem d_D_fact_68 : decode b_D_fact 68 = .ok (.lushr, 1) := by decide +kernel
theorem d_D_fact_69 : decode b_D_fact 69 = .ok (.ldc2_w 54, 3) := by decide +kernel
theorem d_D_fact_72 : decode b_D_fact 72 = .ok (.lrem, 1) := by decide +kernel
theorem d_D_fact_73 : decode b_D_fact 73 = .ok (.l2i, 1) := by decide +kernel
theorem d_D_fact_74 : decode b_D_fact 74 = .ok (.ireturn, 1) := by decide +kernel
theorem d_D_fact_75 : decode b_D_fact 75 = .ok (.lload_n 3, 1) := by decide +kernel
theorem d_D_fact_76 : decode b_D_fact 76 = .ok (.bipush 24, 2) := by decide +kernel
theorem d_D_fact_78 : decode b_D_fact 78 = .ok (.lushr, 1) := by decide +kernel
theorem d_D_fact_79 : decode b_D_fact 79 = .ok (.ldc2_w 56, 3) := by decide +kernel
theorem d_D_fact_82 : decode b_D_fact 82 = .ok (.lrem, 1) := by decide +kernel
theorem d_D_fact_83 : decode b_D_fact 83 = .ok (.l2i, 1) := by decide +kernel
theorem d_D_fact_84 : decode b_D_fact 84 = .ok (.ireturn, 1) := by decide +kernel
theorem d_D_fact_85 : decode b_D_fact 85 = .ok (.lload_n 3, 1) := by decide +kernel
theorem d_D_fact_86 : decode b_D_fact 86 = .ok (.bipush 40, 2) := by decide +kernel
theorem d_D_fact_88 : decode b_D_fact 88 = .ok (.lushr, 1) := by decide +kernel
theorem d_D_fact_89 : decode b_D_fact 89 = .ok (.ldc2_w 50, 3) := by decide +kernel
theorem d_D_fact_92 : decode b_D_fact 92 = .ok (.lrem, 1) := by decide +kernel
theorem d_D_fact_93 : decode b_D_fact 93 = .ok (.l2i, 1) := by decide +kernel
theorem d_D_fact_94 : decode b_D_fact 94 = .ok (.ireturn, 1) := by decide +kernel
theorem d_D_fact_95 : decode b_D_fact 95 = .ok (.iconst (-1), 1) := by decide +kernel
theorem d_D_fact_96 : decode b_D_fact 96 = .ok (.ireturn, 1) := by decide +kernel
theorem d_D_greaterHalf_0 : decode b_D_greaterHalf 0 = .ok (.iconst 0, 1) := by decide +kernel
theorem d_D_greaterHalf_1 : decode b_D_greaterHalf 1 = .ok (.istore_n 1, 1) := by decide +kernel
theorem d_D_greaterHalf_2 : decode b_D_greaterHalf 2 = .ok (.iconst 0, 1) := by decide +kernel
theorem d_D_greaterHalf_3 : decode b_D_greaterHalf 3 = .ok (.istore_n 2, 1) := by decide +kernel
theorem d_D_greaterHalf_4 : decode b_D_greaterHalf 4 = .ok (.iload_n 2, 1) := by decide +kernel
theorem d_D_greaterHalf_5 : decode b_D_greaterHalf 5 = .ok (.aload_n 0, 1) := by decide +kernel
theorem d_D_greaterHalf_6 : decode b_D_greaterHalf 6 = .ok (.getfield 23, 3) := by decide +kernel
theorem d_D_greaterHalf_9 : decode b_D_greaterHalf 9 = .ok (.if_icmp .ge 29, 3) := by decide +kernel
theorem d_D_greaterHalf_12 : decode b_D_greaterHalf 12 = .ok (.aload_n 0, 1) := by decide +kernel
theorem d_D_greaterHalf_13 : decode b_D_greaterHalf 13 = .ok (.iload_n 2, 1) := by decide +kernel
theorem d_D_greaterHalf_14 : decode b_D_greaterHalf 14 = .ok (.invokevirtual 58, 3) := by decide +kernel
theorem d_D_greaterHalf_17 : decode b_D_greaterHalf 17 = .ok (.aload_n 0, 1) := by decide +kernel
theorem d_D_greaterHalf_18 : decode b_D_greaterHalf 18 = .ok (.getfield 23, 3) := by decide +kernel
theorem d_D_greaterHalf_21 : decode b_D_greaterHalf 21 = .ok (.iconst 2, 1) := by decide +kernel
theorem d_D_greaterHalf_22 : decode b_D_greaterHalf 22 = .ok (.idiv, 1) := by decide +kernel
theorem d_D_greaterHalf_23 : decode b_D_greaterHalf 23 = .ok (.if_icmp .ge 9, 3) := by decide +kernel
theorem d_D_greaterHalf_26 : decode b_D_greaterHalf 26 = .ok (.iload_n 1, 1) := by decide +kernel
theorem d_D_greaterHalf_27 : decode b_D_greaterHalf 27 = .ok (.iconst 1, 1) := by decide +kernel
theorem d_D_greaterHalf_28 : decode b_D_greaterHalf 28 = .ok (.iload_n 2, 1) := by decide +kernel
theorem d_D_greaterHalf_29 : decode b_D_greaterHalf 29 = .ok (.ishl, 1) := by decide +kernel
theorem d_D_greaterHalf_30 : decode b_D_greaterHalf 30 = .ok (.ior, 1) := by decide +kernel
theorem d_D_greaterHalf_31 : decode b_D_greaterHalf 31 = .ok (.istore_n 1, 1) := by decide +kernel
theorem d_D_greaterHalf_32 : decode b_D_greaterHalf 32 = .ok (.iinc 2 1, 3) := by decide +kernel
theorem d_D_greaterHalf_35 : decode b_D_greaterHalf 35 = .ok (.goto (-31), 3) := by decide +kernel
theorem d_D_greaterHalf_38 : decode b_D_greaterHalf 38 = .ok (.iload_n 1, 1) := by decide +kernel
theorem d_D_greaterHalf_39 : decode b_D_greaterHalf 39 = .ok (.ireturn, 1) := by decide +kernel
theorem d_D_countAbove_0 : decode b_D_countAbove 0 = .ok (.iconst 0, 1) := by decide +kernel
theorem d_D_countAbove_1 : decode b_D_countAbove 1 = .ok (.istore_n 2, 1) := by decide +kernel
theorem d_D_countAbove_2 : decode b_D_countAbove 2 = .ok (.iconst 0, 1) := by decide +kernel
theorem d_D_countAbove_3 : decode b_D_countAbove 3 = .ok (.istore_n 3, 1) := by decide +kernel
theorem d_D_countAbove_4 : decode b_D_countAbove 4 = .ok (.iload_n 3, 1) := by decide +kernel
theorem d_D_countAbove_5 : decode b_D_countAbove 5 = .ok (.aload_n 0, 1) := by decide +kernel
theorem d_D_countAbove_6 : decode b_D_countAbove 6 = .ok (.getfield 23, 3) := by decide +kernel
theorem d_D_countAbove_9 : decode b_D_countAbove 9 = .ok (.if_icmp .ge 21, 3) := by decide +kernel
theorem d_D_countAbove_12 : decode b_D_countAbove 12 = .ok (.aload_n 0, 1) := by decide +kernel
theorem d_D_countAbove_13 : decode b_D_countAbove 13 = .ok (.iload_n 3, 1) := by decide +kernel
theorem d_D_countAbove_14 : decode b_D_countAbove 14 = .ok (.iload_n 1, 1) := by decide +kernel
theorem d_D_countAbove_15 : decode b_D_countAbove 15 = .ok (.invokevirtual 62, 3) := by decide +kernel
theorem d_D_countAbove_18 : decode b_D_countAbove 18 = .ok (.ifCond .eq 6, 3) := by decide +kernel
theorem d_D_countAbove_21 : decode b_D_countAbove 21 = .ok (.iinc 2 1, 3) := by decide +kernel
theorem d_D_countAbove_24 : decode b_D_countAbove 24 = .ok (.iinc 3 1, 3) := by decide +kernel
theorem d_D_countAbove_27 : decode b_D_countAbove 27 = .ok (.goto (-23), 3) := by decide +kernel
theorem d_D_countAbove_30 : decode b_D_countAbove 30 = .ok (.iload_n 2, 1) := by decide +kernel
theorem d_D_countAbove_31 : decode b_D_countAbove 31 = .ok (.ireturn, 1) := by decide +kernel
theorem d_D_isAbove_0 : decode b_D_isAbove 0 = .ok (.aload_n 0, 1) := by decide +kernel
theorem d_D_isAbove_1 : decode b_D_isAbove 1 = .ok (.iload_n 1, 1) := by decide +kernel
theorem d_D_isAbove_2 : decode b_D_isAbove 2 = .ok (.invokevirtual 46, 3) := by decide +kernel
theorem d_D_isAbove_5 : decode b_D_isAbove 5 = .ok (.ifCond .eq 11, 3) := by decide +kernel
theorem d_D_isAbove_8 : decode b_D_isAbove 8 = .ok (.aload_n 0, 1) := by decide +kernel
theorem d_D_isAbove_9 : decode b_D_isAbove 9 = .ok (.iload_n 2, 1) := by decide +kernel
theorem d_D_isAbove_10 : decode b_D_isAbove 10 = .ok (.invokevirtual 46, 3) := by decide +kernel
theorem d_D_isAbove_13 : decode b_D_isAbove 13 = .ok (.ifCond .ne 5, 3) := by decide +kernel
theorem d_D_isAbove_16 : decode b_D_isAbove 16 = .ok (.iconst 0, 1) := by decide +kernel
theorem d_D_isAbove_17 : decode b_D_isAbove 17 = .ok (.ireturn, 1) := by decide +kernel
theorem d_D_isAbove_18 : decode b_D_isAbove 18 = .ok (.aload_n 0, 1) := by decide +kernel
theorem d_D_isAbove_19 : decode b_D_isAbove 19 = .ok (.getfield 9, 3) := by decide +kernel
theorem d_D_isAbove_22 : decode b_D_isAbove 22 = .ok (.iload_n 1, 1) := by decide +kernel
theorem d_D_isAbove_23 : decode b_D_isAbove 23 = .ok (.laload, 1) := by decide +kernel
theorem d_D_isAbove_24 : decode b_D_isAbove 24 = .ok (.ldc2_w 68, 3) := by decide +kernel
theorem d_D_isAbove_27 : decode b_D_isAbove 27 = .ok (.lxor, 1) := by decide +kernel
theorem d_D_isAbove_28 : decode b_D_isAbove 28 = .ok (.lstore_n 3, 1) := by decide +kernel
theorem d_D_isAbove_29 : decode b_D_isAbove 29 = .ok (.aload_n 0, 1) := by decide +kernel
theorem d_D_isAbove_30 : decode b_D_isAbove 30 = .ok (.getfield 9, 3) := by decide +kernel
theorem d_D_isAbove_33 : decode b_D_isAbove 33 = .ok (.iload_n 2, 1) := by decide +kernel
theorem d_D_isAbove_34 : decode b_D_isAbove 34 = .ok (.laload, 1) := by decide +kernel
theorem d_D_isAbove_35 : decode b_D_isAbove 35 = .ok (.ldc2_w 68, 3) := by decide +kernel
theorem d_D_isAbove_38 : decode b_D_isAbove 38 = .ok (.lxor, 1) := by decide +kernel
theorem d_D_isAbove_39 : decode b_D_isAbove 39 = .ok (.lstore 5, 2) := by decide +kernel
theorem d_D_isAbove_41 : decode b_D_isAbove 41 = .ok (.lload_n 3, 1) := by decide +kernel
theorem d_D_isAbove_42 : decode b_D_isAbove 42 = .ok (.lload 5, 2) := by decide +kernel
theorem d_D_isAbove_44 : decode b_D_isAbove 44 = .ok (.lcmp, 1) := by decide +kernel
theorem d_D_isAbove_45 : decode b_D_isAbove 45 = .ok (.ifCond .gt 15, 3) := by decide +kernel
theorem d_D_isAbove_48 : decode b_D_isAbove 48 = .ok (.lload_n 3, 1) := by decide +kernel
theorem d_D_isAbove_49 : decode b_D_isAbove 49 = .ok (.lload 5, 2) := by decide +kernel
theorem d_D_isAbove_51 : decode b_D_isAbove 51 = .ok (.lcmp, 1) := by decide +kernel
theorem d_D_isAbove_52 : decode b_D_isAbove 52 = .ok (.ifCond .ne 12, 3) := by decide +kernel
theorem d_D_isAbove_55 : decode b_D_isAbove 55 = .ok (.iload_n 1, 1) := by decide +kernel
theorem d_D_isAbove_56 : decode b_D_isAbove 56 = .ok (.iload_n 2, 1) := by decide +kernel
theorem d_D_isAbove_57 : decode b_D_isAbove 57 = .ok (.if_icmp .le 7, 3) := by decide +kernel
theorem d_D_isAbove_60 : decode b_D_isAbove 60 = .ok (.iconst 1, 1) := by decide +kernel
theorem d_D_isAbove_61 : decode b_D_isAbove 61 = .ok (.goto 4, 3) := by decide +kernel
theorem d_D_isAbove_64 : decode b_D_isAbove 64 = .ok (.iconst 0, 1) := by decide +kernel
theorem d_D_isAbove_65 : decode b_D_isAbove 65 = .ok (.ireturn, 1) := by decide +kernel
theorem d_V_init_0 : decode b_V_init 0 = .ok (.aload_n 0, 1) := by decide +kernel
theorem d_V_init_1 : decode b_V_init 1 = .ok (.invokespecial 3, 3) := by decide +kernel
theorem d_V_init_4 : decode b_V_init 4 = .ok (.aload_n 0, 1) := by decide +kernel
theorem d_V_init_5 : decode b_V_init 5 = .ok (.bipush 100, 2) := by decide +kernel
theorem d_V_init_7 : decode b_V_init 7 = .ok (.newarray .int, 2) := by decide +kernel
theorem d_V_init_9 : decode b_V_init 9 = .ok (.putfield 9, 3) := by decide +kernel
theorem d_V_init_12 : decode b_V_init 12 = .ok (.aload_n 0, 1) := by decide +kernel
theorem d_V_init_13 : decode b_V_init 13 = .ok (.bipush 100, 2) := by decide +kernel
theorem d_V_init_15 : decode b_V_init 15 = .ok (.newarray .boolean, 2) := by decide +kernel
theorem d_V_init_17 : decode b_V_init 17 = .ok (.putfield 15, 3) := by decide +kernel
theorem d_V_init_20 : decode b_V_init 20 = .ok (.aload_n 0, 1) := by decide +kernel
theorem d_V_init_21 : decode b_V_init 21 = .ok (.iconst 0, 1) := by decide +kernel
theorem d_V_init_22 : decode b_V_init 22 = .ok (.putfield 19, 3) := by decide +kernel
theorem d_V_init_25 : decode b_V_init 25 = .ok (.return_, 1) := by decide +kernel
theorem d_V_forget_0 : decode b_V_forget 0 = .ok (.aload_n 0, 1) := by decide +kernel
theorem d_V_forget_1 : decode b_V_forget 1 = .ok (.iconst 0, 1) := by decide +kernel
theorem d_V_forget_2 : decode b_V_forget 2 = .ok (.putfield 19, 3) := by decide +kernel
theorem d_V_forget_5 : decode b_V_forget 5 = .ok (.return_, 1) := by decide +kernel
theorem d_V_tell_0 : decode b_V_tell 0 = .ok (.aload_n 0, 1) := by decide +kernel
theorem d_V_tell_1 : decode b_V_tell 1 = .ok (.iload_n 1, 1) := by decide +kernel
theorem d_V_tell_2 : decode b_V_tell 2 = .ok (.invokevirtual 23, 3) := by decide +kernel
theorem d_V_tell_5 : decode b_V_tell 5 = .ok (.istore_n 3, 1) := by decide +kernel
theorem d_V_tell_6 : decode b_V_tell 6 = .ok (.iload_n 3, 1) := by decide +kernel
theorem d_V_tell_7 : decode b_V_tell 7 = .ok (.aload_n 0, 1) := by decide +kernel
theorem d_V_tell_8 : decode b_V_tell 8 = .ok (.getfield 19, 3) := by decide +kernel
theorem d_V_tell_11 : decode b_V_tell 11 = .ok (.if_icmp .ne 31, 3) := by decide +kernel
theorem d_V_tell_14 : decode b_V_tell 14 = .ok (.aload_n 0, 1) := by decide +kernel
theorem d_V_tell_15 : decode b_V_tell 15 = .ok (.getfield 19, 3) := by decide +kernel
theorem d_V_tell_18 : decode b_V_tell 18 = .ok (.bipush 100, 2) := by decide +kernel
theorem d_V_tell_20 : decode b_V_tell 20 = .ok (.if_icmp .lt 5, 3) := by decide +kernel
theorem d_V_tell_23 : decode b_V_tell 23 = .ok (.iconst 0, 1) := by decide +kernel
theorem d_V_tell_24 : decode b_V_tell 24 = .ok (.ireturn, 1) := by decide +kernel
theorem d_V_tell_25 : decode b_V_tell 25 = .ok (.aload_n 0, 1) := by decide +kernel
theorem d_V_tell_26 : decode b_V_tell 26 = .ok (.getfield 9, 3) := by decide +kernel
theorem d_V_tell_29 : decode b_V_tell 29 = .ok (.iload_n 3, 1) := by decide +kernel
theorem d_V_tell_30 : decode b_V_tell 30 = .ok (.iload_n 1, 1) := by decide +kernel
theorem d_V_tell_31 : decode b_V_tell 31 = .ok (.iastore, 1) := by decide +kernel
theorem d_V_tell_32 : decode b_V_tell 32 = .ok (.aload_n 0, 1) := by decide +kernel
theorem d_V_tell_33 : decode b_V_tell 33 = .ok (.dup, 1) := by decide +kernel
theorem d_V_tell_34 : decode b_V_tell 34 = .ok (.getfield 19, 3) := by decide +kernel
theorem d_V_tell_37 : decode b_V_tell 37 = .ok (.iconst 1, 1) := by decide +kernel
theorem d_V_tell_38 : decode b_V_tell 38 = .ok (.iadd, 1) := by decide +kernel
theorem d_V_tell_39 : decode b_V_tell 39 = .ok (.putfield 19, 3) := by decide +kernel
theorem d_V_tell_42 : decode b_V_tell 42 = .ok (.aload_n 0, 1) := by decide +kernel
theorem d_V_tell_43 : decode b_V_tell 43 = .ok (.getfield 15, 3) := by decide +kernel
theorem d_V_tell_46 : decode b_V_tell 46 = .ok (.iload_n 3, 1) := by decide +kernel
theorem d_V_tell_47 : decode b_V_tell 47 = .ok (.iload_n 2, 1) := by decide +kernel
theorem d_V_tell_48 : decode b_V_tell 48 = .ok (.bastore, 1) := by decide +kernel
theorem d_V_tell_49 : decode b_V_tell 49 = .ok (.iconst 1, 1) := by decide +kernel
theorem d_V_tell_50 : decode b_V_tell 50 = .ok (.ireturn, 1) := by decide +kernel
theorem d_V_stayFor_0 : decode b_V_stayFor 0 = .ok (.aload_n 0, 1) := by decide +kernel
theorem d_V_stayFor_1 : decode b_V_stayFor 1 = .ok (.iload_n 1, 1) := by decide +kernel
theorem d_V_stayFor_2 : decode b_V_stayFor 2 = .ok (.invokevirtual 23, 3) := by decide +kernel
theorem d_V_stayFor_5 : decode b_V_stayFor 5 = .ok (.istore_n 2, 1) := by decide +kernel
theorem d_V_stayFor_6 : decode b_V_stayFor 6 = .ok (.iload_n 2, 1) := by decide +kernel
theorem d_V_stayFor_7 : decode b_V_stayFor 7 = .ok (.aload_n 0, 1) := by decide +kernel
theorem d_V_stayFor_8 : decode b_V_stayFor 8 = .ok (.getfield 19, 3) := by decide +kernel
theorem d_V_stayFor_11 : decode b_V_stayFor 11 = .ok (.if_icmp .ge 16, 3) := by decide +kernel
theorem d_V_stayFor_14 : decode b_V_stayFor 14 = .ok (.aload_n 0, 1) := by decide +kernel
theorem d_V_stayFor_15 : decode b_V_stayFor 15 = .ok (.getfield 15, 3) := by decide +kernel
theorem d_V_stayFor_18 : decode b_V_stayFor 18 = .ok (.iload_n 2, 1) := by decide +kernel
theorem d_V_stayFor_19 : decode b_V_stayFor 19 = .ok (.baload, 1) := by decide +kernel
theorem d_V_stayFor_20 : decode b_V_stayFor 20 = .ok (.ifCond .eq 7, 3) := by decide +kernel
theorem d_V_stayFor_23 : decode b_V_stayFor 23 = .ok (.iconst 1, 1) := by decide +kernel
theorem d_V_stayFor_24 : decode b_V_stayFor 24 = .ok (.goto 4, 3) := by decide +kernel
theorem d_V_stayFor_27 : decode b_V_stayFor 27 = .ok (.iconst 0, 1) := by decide +kernel
theorem d_V_stayFor_28 : decode b_V_stayFor 28 = .ok (.ireturn, 1) := by decide +kernel
theorem d_V_find_0 : decode b_V_find 0 = .ok (.iconst 0, 1) := by decide +kernel
theorem d_V_find_1 : decode b_V_find 1 = .ok (.istore_n 2, 1) := by decide +kernel
theorem d_V_find_2 : decode b_V_find 2 = .ok (.iload_n 2, 1) := by decide +kernel
theorem d_V_find_3 : decode b_V_find 3 = .ok (.aload_n 0, 1) := by decide +kernel
theorem d_V_find_4 : decode b_V_find 4 = .ok (.getfield 19, 3) := by decide +kernel
theorem d_V_find_7 : decode b_V_find 7 = .ok (.if_icmp .ge 21, 3) := by decide +kernel
theorem d_V_find_10 : decode b_V_find 10 = .ok (.aload_n 0, 1) := by decide +kernel
theorem d_V_find_11 : decode b_V_find 11 = .ok (.getfield 9, 3) := by decide +kernel
theorem d_V_find_14 : decode b_V_find 14 = .ok (.iload_n 2, 1) := by decide +kernel
theorem d_V_find_15 : decode b_V_find 15 = .ok (.iaload, 1) := by decide +kernel
theorem d_V_find_16 : decode b_V_find 16 = .ok (.iload_n 1, 1) := by decide +kernel
theorem d_V_find_17 : decode b_V_find 17 = .ok (.if_icmp .ne 5, 3) := by decide +kernel
theorem d_V_find_20 : decode b_V_find 20 = .ok (.iload_n 2, 1) := by decide +kernel
theorem d_V_find_21 : decode b_V_find 21 = .ok (.ireturn, 1) := by decide +kernel
theorem d_V_find_22 : decode b_V_find 22 = .ok (.iinc 2 1, 3) := by decide +kernel
theorem d_V_find_25 : decode b_V_find 25 = .ok (.goto (-23), 3) := by decide +kernel
theorem d_V_find_28 : decode b_V_find 28 = .ok (.aload_n 0, 1) := by decide +kernel
theorem d_V_find_29 : decode b_V_find 29 = .ok (.getfield 19, 3) := by decide +kernel
theorem d_V_find_32 : decode b_V_find 32 = .ok (.ireturn, 1) := by decide +kernel
theorem d_J_bitCount_0 : decode b_J_bitCount 0 = .ok (.iload_n 0, 1) := by decide +kernel
theorem d_J_bitCount_1 : decode b_J_bitCount 1 = .ok (.iload_n 0, 1) := by decide +kernel
theorem d_J_bitCount_2 : decode b_J_bitCount 2 = .ok (.iconst 1, 1) := by decide +kernel
theorem d_J_bitCount_3 : decode b_J_bitCount 3 = .ok (.iushr, 1) := by decide +kernel
theorem d_J_bitCount_4 : decode b_J_bitCount 4 = .ok (.ldc_w 265, 3) := by decide +kernel
theorem d_J_bitCount_7 : decode b_J_bitCount 7 = .ok (.iand, 1) := by decide +kernel
theorem d_J_bitCount_8 : decode b_J_bitCount 8 = .ok (.isub, 1) := by decide +kernel
theorem d_J_bitCount_9 : decode b_J_bitCount 9 = .ok (.istore_n 0, 1) := by decide +kernel
theorem d_J_bitCount_10 : decode b_J_bitCount 10 = .ok (.iload_n 0, 1) := by decide +kernel
theorem d_J_bitCount_11 : decode b_J_bitCount 11 = .ok (.ldc_w 266, 3) := by decide +kernel
theorem d_J_bitCount_14 : decode b_J_bitCount 14 = .ok (.iand, 1) := by decide +kernel
theorem d_J_bitCount_15 : decode b_J_bitCount 15 = .ok (.iload_n 0, 1) := by decide +kernel
theorem d_J_bitCount_16 : decode b_J_bitCount 16 = .ok (.iconst 2, 1) := by decide +kernel
theorem d_J_bitCount_17 : decode b_J_bitCount 17 = .ok (.iushr, 1) := by decide +kernel
theorem d_J_bitCount_18 : decode b_J_bitCount 18 = .ok (.ldc_w 266, 3) := by decide +kernel
theorem d_J_bitCount_21 : decode b_J_bitCount 21 = .ok (.iand, 1) := by decide +kernel
theorem d_J_bitCount_22 : decode b_J_bitCount 22 = .ok (.iadd, 1) := by decide +kernel
theorem d_J_bitCount_23 : decode b_J_bitCount 23 = .ok (.istore_n 0, 1) := by decide +kernel
theorem d_J_bitCount_24 : decode b_J_bitCount 24 = .ok (.iload_n 0, 1) := by decide +kernel
theorem d_J_bitCount_25 : decode b_J_bitCount 25 = .ok (.iload_n 0, 1) := by decide +kernel
theorem d_J_bitCount_26 : decode b_J_bitCount 26 = .ok (.iconst 4, 1) := by decide +kernel
theorem d_J_bitCount_27 : decode b_J_bitCount 27 = .ok (.iushr, 1) := by decide +kernel
theorem d_J_bitCount_28 : decode b_J_bitCount 28 = .ok (.iadd, 1) := by decide +kernel
theorem d_J_bitCount_29 : decode b_J_bitCount 29 = .ok (.ldc_w 267, 3) := by decide +kernel
theorem d_J_bitCount_32 : decode b_J_bitCount 32 = .ok (.iand, 1) := by decide +kernel
theorem d_J_bitCount_33 : decode b_J_bitCount 33 = .ok (.istore_n 0, 1) := by decide +kernel
theorem d_J_bitCount_34 : decode b_J_bitCount 34 = .ok (.iload_n 0, 1) := by decide +kernel
theorem d_J_bitCount_35 : decode b_J_bitCount 35 = .ok (.iload_n 0, 1) := by decide +kernel
theorem d_J_bitCount_36 : decode b_J_bitCount 36 = .ok (.bipush 8, 2) := by decide +kernel
theorem d_J_bitCount_38 : decode b_J_bitCount 38 = .ok (.iushr, 1) := by decide +kernel
theorem d_J_bitCount_39 : decode b_J_bitCount 39 = .ok (.iadd, 1) := by decide +kernel
theorem d_J_bitCount_40 : decode b_J_bitCount 40 = .ok (.istore_n 0, 1) := by decide +kernel
theorem d_J_bitCount_41 : decode b_J_bitCount 41 = .ok (.iload_n 0, 1) := by decide +kernel
theorem d_J_bitCount_42 : decode b_J_bitCount 42 = .ok (.iload_n 0, 1) := by decide +kernel
theorem d_J_bitCount_43 : decode b_J_bitCount 43 = .ok (.bipush 16, 2) := by decide +kernel
theorem d_J_bitCount_45 : decode b_J_bitCount 45 = .ok (.iushr, 1) := by decide +kernel
theorem d_J_bitCount_46 : decode b_J_bitCount 46 = .ok (.iadd, 1) := by decide +kernel
theorem d_J_bitCount_47 : decode b_J_bitCount 47 = .ok (.istore_n 0, 1) := by decide +kernel
theorem d_J_bitCount_48 : decode b_J_bitCount 48 = .ok (.iload_n 0, 1) := by decide +kernel
theorem d_J_bitCount_49 : decode b_J_bitCount 49 = .ok (.bipush 63, 2) := by decide +kernel
theorem d_J_bitCount_51 : decode b_J_bitCount 51 = .ok (.iand, 1) := by decide +kernel
theorem d_J_bitCount_52 : decode b_J_bitCount 52 = .ok (.ireturn, 1) := by decide +kernel
end
section
theorem d_M_init_0 : decode b_M_init 0 = .ok (.aload_n 0, 1) := by decide +kernel
theorem d_M_init_1 : decode b_M_init 1 = .ok (.invokespecial 1, 3) := by decide +kernel
theorem d_M_init_4 : decode b_M_init 4 = .ok (.aload_n 0, 1) := by decide +kernel
theorem d_M_init_5 : decode b_M_init 5 = .ok (.bipush 100, 2) := by decide +kernel
theorem d_M_init_7 : decode b_M_init 7 = .ok (.newarray .int, 2) := by decide +kernel
theorem d_M_init_9 : decode b_M_init 9 = .ok (.putfield 7, 3) := by decide +kernel
theorem d_M_init_12 : decode b_M_init 12 = .ok (.aload_n 0, 1) := by decide +kernel
theorem d_M_init_13 : decode b_M_init 13 = .ok (.bipush 100, 2) := by decide +kernel
theorem d_M_init_15 : decode b_M_init 15 = .ok (.newarray .boolean, 2) := by decide +kernel
theorem d_M_init_17 : decode b_M_init 17 = .ok (.putfield 13, 3) := by decide +kernel
theorem d_M_init_20 : decode b_M_init 20 = .ok (.aload_n 0, 1) := by decide +kernel
theorem d_M_init_21 : decode b_M_init 21 = .ok (.bipush 10, 2) := by decide +kernel
theorem d_M_init_23 : decode b_M_init 23 = .ok (.newarray .int, 2) := by decide +kernel
theorem d_M_init_25 : decode b_M_init 25 = .ok (.putfield 17, 3) := by decide +kernel
theorem d_M_init_28 : decode b_M_init 28 = .ok (.aload_n 0, 1) := by decide +kernel
theorem d_M_init_29 : decode b_M_init 29 = .ok (.iload_n 1, 1) := by decide +kernel
theorem d_M_init_30 : decode b_M_init 30 = .ok (.i2l, 1) := by decide +kernel
theorem d_M_init_31 : decode b_M_init 31 = .ok (.putfield 20, 3) := by decide +kernel
theorem d_M_init_34 : decode b_M_init 34 = .ok (.aload_n 0, 1) := by decide +kernel
theorem d_M_init_35 : decode b_M_init 35 = .ok (.getfield 17, 3) := by decide +kernel
theorem d_M_init_38 : decode b_M_init 38 = .ok (.iconst 0, 1) := by decide +kernel
theorem d_M_init_39 : decode b_M_init 39 = .ok (.sipush 31599, 3) := by decide +kernel
theorem d_M_init_42 : decode b_M_init 42 = .ok (.iastore, 1) := by decide +kernel
theorem d_M_init_43 : decode b_M_init 43 = .ok (.aload_n 0, 1) := by decide +kernel
theorem d_M_init_44 : decode b_M_init 44 = .ok (.getfield 17, 3) := by decide +kernel
theorem d_M_init_47 : decode b_M_init 47 = .ok (.iconst 1, 1) := by decide +kernel
theorem d_M_init_48 : decode b_M_init 48 = .ok (.sipush 11415, 3) := by decide +kernel
theorem d_M_init_51 : decode b_M_init 51 = .ok (.iastore, 1) := by decide +kernel
theorem d_M_init_52 : decode b_M_init 52 = .ok (.aload_n 0, 1) := by decide +kernel
theorem d_M_init_53 : decode b_M_init 53 = .ok (.getfield 17, 3) := by decide +kernel
theorem d_M_init_56 : decode b_M_init 56 = .ok (.iconst 2, 1) := by decide +kernel
theorem d_M_init_57 : decode b_M_init 57 = .ok (.sipush 29671, 3) := by decide +kernel
theorem d_M_init_60 : decode b_M_init 60 = .ok (.iastore, 1) := by decide +kernel
theorem d_M_init_61 : decode b_M_init 61 = .ok (.aload_n 0, 1) := by decide +kernel
theorem d_M_init_62 : decode b_M_init 62 = .ok (.getfield 17, 3) := by decide +kernel
theorem d_M_init_65 : decode b_M_init 65 = .ok (.iconst 3, 1) := by decide +kernel
theorem d_M_init_66 : decode b_M_init 66 = .ok (.sipush 29647, 3) := by decide +kernel
theorem d_M_init_69 : decode b_M_init 69 = .ok (.iastore, 1) := by decide +kernel
theorem d_M_init_70 : decode b_M_init 70 = .ok (.aload_n 0, 1) := by decide +kernel
theorem d_M_init_71 : decode b_M_init 71 = .ok (.getfield 17, 3) := by decide +kernel
theorem d_M_init_74 : decode b_M_init 74 = .ok (.iconst 4, 1) := by decide +kernel
theorem d_M_init_75 : decode b_M_init 75 = .ok (.sipush 23497, 3) := by decide +kernel
theorem d_M_init_78 : decode b_M_init 78 = .ok (.iastore, 1) := by decide +kernel
theorem d_M_init_79 : decode b_M_init 79 = .ok (.aload_n 0, 1) := by decide +kernel
theorem d_M_init_80 : decode b_M_init 80 = .ok (.getfield 17, 3) := by decide +kernel
theorem d_M_init_83 : decode b_M_init 83 = .ok (.iconst 5, 1) := by decide +kernel
theorem d_M_init_84 : decode b_M_init 84 = .ok (.sipush 31183, 3) := by decide +kernel
theorem d_M_init_87 : decode b_M_init 87 = .ok (.iastore, 1) := by decide +kernel
theorem d_M_init_88 : decode b_M_init 88 = .ok (.aload_n 0, 1) := by decide +kernel
theorem d_M_init_89 : decode b_M_init 89 = .ok (.getfield 17, 3) := by decide +kernel
theorem d_M_init_92 : decode b_M_init 92 = .ok (.bipush 6, 2) := by decide +kernel
theorem d_M_init_94 : decode b_M_init 94 = .ok (.sipush 31215, 3) := by decide +kernel
theorem d_M_init_97 : decode b_M_init 97 = .ok (.iastore, 1) := by decide +kernel
theorem d_M_init_98 : decode b_M_init 98 = .ok (.aload_n 0, 1) := by decide +kernel
theorem d_M_init_99 : decode b_M_init 99 = .ok (.getfield 17, 3) := by decide +kernel
theorem d_M_init_102 : decode b_M_init 102 = .ok (.bipush 7, 2) := by decide +kernel
theorem d_M_init_104 : decode b_M_init 104 = .ok (.sipush 29257, 3) := by decide +kernel
theorem d_M_init_107 : decode b_M_init 107 = .ok (.iastore, 1) := by decide +kernel
theorem d_M_init_108 : decode b_M_init 108 = .ok (.aload_n 0, 1) := by decide +kernel
theorem d_M_init_109 : decode b_M_init 109 = .ok (.getfield 17, 3) := by decide +kernel
theorem d_M_init_112 : decode b_M_init 112 = .ok (.bipush 8, 2) := by decide +kernel
theorem d_M_init_114 : decode b_M_init 114 = .ok (.sipush 31727, 3) := by decide +kernel
theorem d_M_init_117 : decode b_M_init 117 = .ok (.iastore, 1) := by decide +kernel
theorem d_M_init_118 : decode b_M_init 118 = .ok (.aload_n 0, 1) := by decide +kernel
theorem d_M_init_119 : decode b_M_init 119 = .ok (.getfield 17, 3) := by decide +kernel
theorem d_M_init_122 : decode b_M_init 122 = .ok (.bipush 9, 2) := by decide +kernel
theorem d_M_init_124 : decode b_M_init 124 = .ok (.sipush 31695, 3) := by decide +kernel
theorem d_M_init_127 : decode b_M_init 127 = .ok (.iastore, 1) := by decide +kernel
theorem d_M_init_128 : decode b_M_init 128 = .ok (.return_, 1) := by decide +kernel
theorem d_M_in_0 : decode b_M_in 0 = .ok (.iload_n 0, 1) := by decide +kernel
theorem d_M_in_1 : decode b_M_in 1 = .ok (.iload_n 1, 1) := by decide +kernel
theorem d_M_in_2 : decode b_M_in 2 = .ok (.if_icmp .lt 12, 3) := by decide +kernel
theorem d_M_in_5 : decode b_M_in 5 = .ok (.iload_n 0, 1) := by decide +kernel
theorem d_M_in_6 : decode b_M_in 6 = .ok (.iload_n 2, 1) := by decide +kernel
theorem d_M_in_7 : decode b_M_in 7 = .ok (.if_icmp .gt 7, 3) := by decide +kernel
theorem d_M_in_10 : decode b_M_in 10 = .ok (.iconst 1, 1) := by decide +kernel
theorem d_M_in_11 : decode b_M_in 11 = .ok (.goto 4, 3) := by decide +kernel
theorem d_M_in_14 : decode b_M_in 14 = .ok (.iconst 0, 1) := by decide +kernel
theorem d_M_in_15 : decode b_M_in 15 = .ok (.ireturn, 1) := by decide +kernel
theorem d_M_number_0 : decode b_M_number 0 = .ok (.lload_n 0, 1) := by decide +kernel
theorem d_M_number_1 : decode b_M_number 1 = .ok (.lconst 1, 1) := by decide +kernel
theorem d_M_number_2 : decode b_M_number 2 = .ok (.iload_n 3, 1) := by decide +kernel
theorem d_M_number_3 : decode b_M_number 3 = .ok (.i2l, 1) := by decide +kernel
theorem d_M_number_4 : decode b_M_number 4 = .ok (.ladd, 1) := by decide +kernel
theorem d_M_number_5 : decode b_M_number 5 = .ok (.ldc2_w 28, 3) := by decide +kernel
theorem d_M_number_8 : decode b_M_number 8 = .ok (.iload_n 2, 1) := by decide +kernel
theorem d_M_number_9 : decode b_M_number 9 = .ok (.i2l, 1) := by decide +kernel
theorem d_M_number_10 : decode b_M_number 10 = .ok (.lmul, 1) := by decide +kernel
theorem d_M_number_11 : decode b_M_number 11 = .ok (.ladd, 1) := by decide +kernel
theorem d_M_number_12 : decode b_M_number 12 = .ok (.ldc2_w 30, 3) := by decide +kernel
theorem d_M_number_15 : decode b_M_number 15 = .ok (.lmul, 1) := by decide +kernel
theorem d_M_number_16 : decode b_M_number 16 = .ok (.ladd, 1) := by decide +kernel
theorem d_M_number_17 : decode b_M_number 17 = .ok (.lstore 4, 2) := by decide +kernel
theorem d_M_number_19 : decode b_M_number 19 = .ok (.lload 4, 2) := by decide +kernel
theorem d_M_number_21 : decode b_M_number 21 = .ok (.lload 4, 2) := by decide +kernel
theorem d_M_number_23 : decode b_M_number 23 = .ok (.bipush 30, 2) := by decide +kernel
theorem d_M_number_25 : decode b_M_number 25 = .ok (.lushr, 1) := by decide +kernel
theorem d_M_number_26 : decode b_M_number 26 = .ok (.lxor, 1) := by decide +kernel
theorem d_M_number_27 : decode b_M_number 27 = .ok (.ldc2_w 32, 3) := by decide +kernel
theorem d_M_number_30 : decode b_M_number 30 = .ok (.lmul, 1) := by decide +kernel
theorem d_M_number_31 : decode b_M_number 31 = .ok (.lstore 4, 2) := by decide +kernel
theorem d_M_number_33 : decode b_M_number 33 = .ok (.lload 4, 2) := by decide +kernel
theorem d_M_number_35 : decode b_M_number 35 = .ok (.lload 4, 2) := by decide +kernel
theorem d_M_number_37 : decode b_M_number 37 = .ok (.bipush 27, 2) := by decide +kernel
theorem d_M_number_39 : decode b_M_number 39 = .ok (.lushr, 1) := by decide +kernel
theorem d_M_number_40 : decode b_M_number 40 = .ok (.lxor, 1) := by decide +kernel
theorem d_M_number_41 : decode b_M_number 41 = .ok (.ldc2_w 34, 3) := by decide +kernel
theorem d_M_number_44 : decode b_M_number 44 = .ok (.lmul, 1) := by decide +kernel
theorem d_M_number_45 : decode b_M_number 45 = .ok (.lstore 4, 2) := by decide +kernel
theorem d_M_number_47 : decode b_M_number 47 = .ok (.lload 4, 2) := by decide +kernel
theorem d_M_number_49 : decode b_M_number 49 = .ok (.lload 4, 2) := by decide +kernel
theorem d_M_number_51 : decode b_M_number 51 = .ok (.bipush 31, 2) := by decide +kernel
theorem d_M_number_53 : decode b_M_number 53 = .ok (.lushr, 1) := by decide +kernel
theorem d_M_number_54 : decode b_M_number 54 = .ok (.lxor, 1) := by decide +kernel
theorem d_M_number_55 : decode b_M_number 55 = .ok (.lreturn, 1) := by decide +kernel
theorem d_M_rest_0 : decode b_M_rest 0 = .ok (.lload_n 0, 1) := by decide +kernel
theorem d_M_rest_1 : decode b_M_rest 1 = .ok (.iconst 1, 1) := by decide +kernel
theorem d_M_rest_2 : decode b_M_rest 2 = .ok (.lushr, 1) := by decide +kernel
theorem d_M_rest_3 : decode b_M_rest 3 = .ok (.lstore_n 3, 1) := by decide +kernel
theorem d_M_rest_4 : decode b_M_rest 4 = .ok (.lload_n 3, 1) := by decide +kernel
theorem d_M_rest_5 : decode b_M_rest 5 = .ok (.iload_n 2, 1) := by decide +kernel
theorem d_M_rest_6 : decode b_M_rest 6 = .ok (.i2l, 1) := by decide +kernel
theorem d_M_rest_7 : decode b_M_rest 7 = .ok (.lrem, 1) := by decide +kernel
theorem d_M_rest_8 : decode b_M_rest 8 = .ok (.ldc2_w 36, 3) := by decide +kernel
theorem d_M_rest_11 : decode b_M_rest 11 = .ok (.lmul, 1) := by decide +kernel
theorem d_M_rest_12 : decode b_M_rest 12 = .ok (.lload_n 0, 1) := by decide +kernel
theorem d_M_rest_13 : decode b_M_rest 13 = .ok (.lconst 1, 1) := by decide +kernel
theorem d_M_rest_14 : decode b_M_rest 14 = .ok (.land, 1) := by decide +kernel
theorem d_M_rest_15 : decode b_M_rest 15 = .ok (.ladd, 1) := by decide +kernel
theorem d_M_rest_16 : decode b_M_rest 16 = .ok (.iload_n 2, 1) := by decide +kernel
theorem d_M_rest_17 : decode b_M_rest 17 = .ok (.i2l, 1) := by decide +kernel
theorem d_M_rest_18 : decode b_M_rest 18 = .ok (.lrem, 1) := by decide +kernel
theorem d_M_rest_19 : decode b_M_rest 19 = .ok (.l2i, 1) := by decide +kernel
theorem d_M_rest_20 : decode b_M_rest 20 = .ok (.ireturn, 1) := by decide +kernel
theorem d_M_isLess_0 : decode b_M_isLess 0 = .ok (.lload_n 0, 1) := by decide +kernel
theorem d_M_isLess_1 : decode b_M_isLess 1 = .ok (.ldc2_w 38, 3) := by decide +kernel
theorem d_M_isLess_4 : decode b_M_isLess 4 = .ok (.lxor, 1) := by decide +kernel
theorem d_M_isLess_5 : decode b_M_isLess 5 = .ok (.lload_n 2, 1) := by decide +kernel
theorem d_M_isLess_6 : decode b_M_isLess 6 = .ok (.ldc2_w 38, 3) := by decide +kernel
theorem d_M_isLess_9 : decode b_M_isLess 9 = .ok (.lxor, 1) := by decide +kernel
theorem d_M_isLess_10 : decode b_M_isLess 10 = .ok (.lcmp, 1) := by decide +kernel
theorem d_M_isLess_11 : decode b_M_isLess 11 = .ok (.ifCond .ge 7, 3) := by decide +kernel
theorem d_M_isLess_14 : decode b_M_isLess 14 = .ok (.iconst 1, 1) := by decide +kernel
theorem d_M_isLess_15 : decode b_M_isLess 15 = .ok (.goto 4, 3) := by decide +kernel
theorem d_M_isLess_18 : decode b_M_isLess 18 = .ok (.iconst 0, 1) := by decide +kernel
theorem d_M_isLess_19 : decode b_M_isLess 19 = .ok (.ireturn, 1) := by decide +kernel
theorem d_M_fact_0 : decode b_M_fact 0 = .ok (.iload_n 2, 1) := by decide +kernel
theorem d_M_fact_1 : decode b_M_fact 1 = .ok (.iconst 1, 1) := by decide +kernel
theorem d_M_fact_2 : decode b_M_fact 2 = .ok (.if_icmp .ne 12, 3) := by decide +kernel
theorem d_M_fact_5 : decode b_M_fact 5 = .ok (.lload_n 0, 1) := by decide +kernel
theorem d_M_fact_6 : decode b_M_fact 6 = .ok (.bipush 100, 2) := by decide +kernel
theorem d_M_fact_8 : decode b_M_fact 8 = .ok (.invokestatic 40, 3) := by decide +kernel
theorem d_M_fact_11 : decode b_M_fact 11 = .ok (.goto 46, 3) := by decide +kernel
theorem d_M_fact_14 : decode b_M_fact 14 = .ok (.iload_n 2, 1) := by decide +kernel
theorem d_M_fact_15 : decode b_M_fact 15 = .ok (.iconst 2, 1) := by decide +kernel
theorem d_M_fact_16 : decode b_M_fact 16 = .ok (.if_icmp .ne 16, 3) := by decide +kernel
theorem d_M_fact_19 : decode b_M_fact 19 = .ok (.lload_n 0, 1) := by decide +kernel
theorem d_M_fact_20 : decode b_M_fact 20 = .ok (.bipush 8, 2) := by decide +kernel
theorem d_M_fact_22 : decode b_M_fact 22 = .ok (.lushr, 1) := by decide +kernel
theorem d_M_fact_23 : decode b_M_fact 23 = .ok (.sipush 1000, 3) := by decide +kernel
theorem d_M_fact_26 : decode b_M_fact 26 = .ok (.invokestatic 40, 3) := by decide +kernel
theorem d_M_fact_29 : decode b_M_fact 29 = .ok (.goto 28, 3) := by decide +kernel
theorem d_M_fact_32 : decode b_M_fact 32 = .ok (.iload_n 2, 1) := by decide +kernel
theorem d_M_fact_33 : decode b_M_fact 33 = .ok (.iconst 3, 1) := by decide +kernel
theorem d_M_fact_34 : decode b_M_fact 34 = .ok (.if_icmp .ne 15, 3) := by decide +kernel
theorem d_M_fact_37 : decode b_M_fact 37 = .ok (.lload_n 0, 1) := by decide +kernel
theorem d_M_fact_38 : decode b_M_fact 38 = .ok (.bipush 24, 2) := by decide +kernel
theorem d_M_fact_40 : decode b_M_fact 40 = .ok (.lushr, 1) := by decide +kernel
theorem d_M_fact_41 : decode b_M_fact 41 = .ok (.bipush 24, 2) := by decide +kernel
theorem d_M_fact_43 : decode b_M_fact 43 = .ok (.invokestatic 40, 3) := by decide +kernel
theorem d_M_fact_46 : decode b_M_fact 46 = .ok (.goto 11, 3) := by decide +kernel
theorem d_M_fact_49 : decode b_M_fact 49 = .ok (.lload_n 0, 1) := by decide +kernel
theorem d_M_fact_50 : decode b_M_fact 50 = .ok (.bipush 40, 2) := by decide +kernel
theorem d_M_fact_52 : decode b_M_fact 52 = .ok (.lushr, 1) := by decide +kernel
theorem d_M_fact_53 : decode b_M_fact 53 = .ok (.iconst 2, 1) := by decide +kernel
theorem d_M_fact_54 : decode b_M_fact 54 = .ok (.invokestatic 40, 3) := by decide +kernel
theorem d_M_fact_57 : decode b_M_fact 57 = .ok (.ireturn, 1) := by decide +kernel
theorem d_M_hasFaults_0 : decode b_M_hasFaults 0 = .ok (.iconst 0, 1) := by decide +kernel
theorem d_M_hasFaults_1 : decode b_M_hasFaults 1 = .ok (.istore 5, 2) := by decide +kernel
theorem d_M_hasFaults_3 : decode b_M_hasFaults 3 = .ok (.lload_n 0, 1) := by decide +kernel
theorem d_M_hasFaults_4 : decode b_M_hasFaults 4 = .ok (.iload_n 2, 1) := by decide +kernel
theorem d_M_hasFaults_5 : decode b_M_hasFaults 5 = .ok (.iload 4, 2) := by decide +kernel
theorem d_M_hasFaults_7 : decode b_M_hasFaults 7 = .ok (.invokestatic 44, 3) := by decide +kernel
theorem d_M_hasFaults_10 : decode b_M_hasFaults 10 = .ok (.lstore 6, 2) := by decide +kernel
theorem d_M_hasFaults_12 : decode b_M_hasFaults 12 = .ok (.iconst 0, 1) := by decide +kernel
theorem d_M_hasFaults_13 : decode b_M_hasFaults 13 = .ok (.istore 8, 2) := by decide +kernel
theorem d_M_hasFaults_15 : decode b_M_hasFaults 15 = .ok (.iload 8, 2) := by decide +kernel
theorem d_M_hasFaults_17 : decode b_M_hasFaults 17 = .ok (.iload_n 3, 1) := by decide +kernel
theorem d_M_hasFaults_18 : decode b_M_hasFaults 18 = .ok (.if_icmp .ge 54, 3) := by decide +kernel
theorem d_M_hasFaults_21 : decode b_M_hasFaults 21 = .ok (.lload_n 0, 1) := by decide +kernel
theorem d_M_hasFaults_22 : decode b_M_hasFaults 22 = .ok (.iload_n 2, 1) := by decide +kernel
theorem d_M_hasFaults_23 : decode b_M_hasFaults 23 = .ok (.iload 8, 2) := by decide +kernel
theorem d_M_hasFaults_25 : decode b_M_hasFaults 25 = .ok (.invokestatic 44, 3) := by decide +kernel
theorem d_M_hasFaults_28 : decode b_M_hasFaults 28 = .ok (.lstore 9, 2) := by decide +kernel
theorem d_M_hasFaults_30 : decode b_M_hasFaults 30 = .ok (.lload 6, 2) := by decide +kernel
theorem d_M_hasFaults_32 : decode b_M_hasFaults 32 = .ok (.lload 9, 2) := by decide +kernel
theorem d_M_hasFaults_34 : decode b_M_hasFaults 34 = .ok (.invokestatic 48, 3) := by decide +kernel
theorem d_M_hasFaults_37 : decode b_M_hasFaults 37 = .ok (.ifCond .ne 18, 3) := by decide +kernel
theorem d_M_hasFaults_40 : decode b_M_hasFaults 40 = .ok (.lload 6, 2) := by decide +kernel
theorem d_M_hasFaults_42 : decode b_M_hasFaults 42 = .ok (.lload 9, 2) := by decide +kernel
theorem d_M_hasFaults_44 : decode b_M_hasFaults 44 = .ok (.lcmp, 1) := by decide +kernel
theorem d_M_hasFaults_45 : decode b_M_hasFaults 45 = .ok (.ifCond .ne 17, 3) := by decide +kernel
theorem d_M_hasFaults_48 : decode b_M_hasFaults 48 = .ok (.iload 8, 2) := by decide +kernel
theorem d_M_hasFaults_50 : decode b_M_hasFaults 50 = .ok (.iload 4, 2) := by decide +kernel
theorem d_M_hasFaults_52 : decode b_M_hasFaults 52 = .ok (.if_icmp .le 10, 3) := by decide +kernel
theorem d_M_hasFaults_55 : decode b_M_hasFaults 55 = .ok (.iload 5, 2) := by decide +kernel
theorem d_M_hasFaults_57 : decode b_M_hasFaults 57 = .ok (.iconst 1, 1) := by decide +kernel
theorem d_M_hasFaults_58 : decode b_M_hasFaults 58 = .ok (.iadd, 1) := by decide +kernel
theorem d_M_hasFaults_59 : decode b_M_hasFaults 59 = .ok (.goto 5, 3) := by decide +kernel
theorem d_M_hasFaults_62 : decode b_M_hasFaults 62 = .ok (.iload 5, 2) := by decide +kernel
theorem d_M_hasFaults_64 : decode b_M_hasFaults 64 = .ok (.istore 5, 2) := by decide +kernel
theorem d_M_hasFaults_66 : decode b_M_hasFaults 66 = .ok (.iinc 8 1, 3) := by decide +kernel
theorem d_M_hasFaults_69 : decode b_M_hasFaults 69 = .ok (.goto (-54), 3) := by decide +kernel
theorem d_M_hasFaults_72 : decode b_M_hasFaults 72 = .ok (.iload_n 2, 1) := by decide +kernel
theorem d_M_hasFaults_73 : decode b_M_hasFaults 73 = .ok (.iconst 3, 1) := by decide +kernel
theorem d_M_hasFaults_74 : decode b_M_hasFaults 74 = .ok (.if_icmp .ne 15, 3) := by decide +kernel
theorem d_M_hasFaults_77 : decode b_M_hasFaults 77 = .ok (.iload 5, 2) := by decide +kernel
theorem d_M_hasFaults_79 : decode b_M_hasFaults 79 = .ok (.iload_n 3, 1) := by decide +kernel
theorem d_M_hasFaults_80 : decode b_M_hasFaults 80 = .ok (.iconst 2, 1) := by decide +kernel
theorem d_M_hasFaults_81 : decode b_M_hasFaults 81 = .ok (.idiv, 1) := by decide +kernel
theorem d_M_hasFaults_82 : decode b_M_hasFaults 82 = .ok (.if_icmp .ge 7, 3) := by decide +kernel
theorem d_M_hasFaults_85 : decode b_M_hasFaults 85 = .ok (.iconst 1, 1) := by decide +kernel
theorem d_M_hasFaults_86 : decode b_M_hasFaults 86 = .ok (.goto 4, 3) := by decide +kernel
theorem d_M_hasFaults_89 : decode b_M_hasFaults 89 = .ok (.iconst 0, 1) := by decide +kernel
theorem d_M_hasFaults_90 : decode b_M_hasFaults 90 = .ok (.ireturn, 1) := by decide +kernel
theorem d_M_seed_0 : decode b_M_seed 0 = .ok (.aload_n 0, 1) := by decide +kernel
theorem d_M_seed_1 : decode b_M_seed 1 = .ok (.iconst 0, 1) := by decide +kernel
theorem d_M_seed_2 : decode b_M_seed 2 = .ok (.putfield 24, 3) := by decide +kernel
theorem d_M_seed_5 : decode b_M_seed 5 = .ok (.aload_n 0, 1) := by decide +kernel
theorem d_M_seed_6 : decode b_M_seed 6 = .ok (.getfield 20, 3) := by decide +kernel
theorem d_M_seed_9 : decode b_M_seed 9 = .ok (.lstore_n 3, 1) := by decide +kernel
theorem d_M_seed_10 : decode b_M_seed 10 = .ok (.aload_n 0, 1) := by decide +kernel
theorem d_M_seed_11 : decode b_M_seed 11 = .ok (.lload_n 1, 1) := by decide +kernel
theorem d_M_seed_12 : decode b_M_seed 12 = .ok (.putfield 20, 3) := by decide +kernel
theorem d_M_seed_15 : decode b_M_seed 15 = .ok (.lload_n 3, 1) := by decide +kernel
theorem d_M_seed_16 : decode b_M_seed 16 = .ok (.lreturn, 1) := by decide +kernel
theorem d_M_draw_0 : decode b_M_draw 0 = .ok (.aload_n 0, 1) := by decide +kernel
theorem d_M_draw_1 : decode b_M_draw 1 = .ok (.iconst 0, 1) := by decide +kernel
theorem d_M_draw_2 : decode b_M_draw 2 = .ok (.putfield 24, 3) := by decide +kernel
theorem d_M_draw_5 : decode b_M_draw 5 = .ok (.iload_n 1, 1) := by decide +kernel
theorem d_M_draw_6 : decode b_M_draw 6 = .ok (.iconst 0, 1) := by decide +kernel
theorem d_M_draw_7 : decode b_M_draw 7 = .ok (.iconst 4, 1) := by decide +kernel
theorem d_M_draw_8 : decode b_M_draw 8 = .ok (.invokestatic 52, 3) := by decide +kernel
theorem d_M_draw_11 : decode b_M_draw 11 = .ok (.ifCond .eq 13, 3) := by decide +kernel
theorem d_M_draw_14 : decode b_M_draw 14 = .ok (.iload_n 2, 1) := by decide +kernel
theorem d_M_draw_15 : decode b_M_draw 15 = .ok (.iconst 0, 1) := by decide +kernel
theorem d_M_draw_16 : decode b_M_draw 16 = .ok (.bipush 15, 2) := by decide +kernel
theorem d_M_draw_18 : decode b_M_draw 18 = .ok (.invokestatic 52, 3) := by decide +kernel
theorem d_M_draw_21 : decode b_M_draw 21 = .ok (.ifCond .ne 6, 3) := by decide +kernel
theorem d_M_draw_24 : decode b_M_draw 24 = .ok (.bipush (-12), 2) := by decide +kernel
theorem d_M_draw_26 : decode b_M_draw 26 = .ok (.ireturn, 1) := by decide +kernel
theorem d_M_draw_27 : decode b_M_draw 27 = .ok (.aload_n 0, 1) := by decide +kernel
theorem d_M_draw_28 : decode b_M_draw 28 = .ok (.aload_n 0, 1) := by decide +kernel
theorem d_M_draw_29 : decode b_M_draw 29 = .ok (.getfield 20, 3) := by decide +kernel
theorem d_M_draw_32 : decode b_M_draw 32 = .ok (.putfield 56, 3) := by decide +kernel
theorem d_M_draw_35 : decode b_M_draw 35 = .ok (.aload_n 0, 1) := by decide +kernel
theorem d_M_draw_36 : decode b_M_draw 36 = .ok (.iload_n 1, 1) := by decide +kernel
theorem d_M_draw_37 : decode b_M_draw 37 = .ok (.putfield 59, 3) := by decide +kernel
theorem d_M_draw_40 : decode b_M_draw 40 = .ok (.aload_n 0, 1) := by decide +kernel
theorem d_M_draw_41 : decode b_M_draw 41 = .ok (.iload_n 2, 1) := by decide +kernel
theorem d_M_draw_42 : decode b_M_draw 42 = .ok (.iconst 1, 1) := by decide +kernel
theorem d_M_draw_43 : decode b_M_draw 43 = .ok (.iadd, 1) := by decide +kernel
theorem d_M_draw_44 : decode b_M_draw 44 = .ok (.putfield 62, 3) := by decide +kernel
theorem d_M_draw_47 : decode b_M_draw 47 = .ok (.aload_n 0, 1) := by decide +kernel
theorem d_M_draw_48 : decode b_M_draw 48 = .ok (.iconst 1, 1) := by decide +kernel
theorem d_M_draw_49 : decode b_M_draw 49 = .ok (.aload_n 0, 1) := by decide +kernel
theorem d_M_draw_50 : decode b_M_draw 50 = .ok (.getfield 62, 3) := by decide +kernel
theorem d_M_draw_53 : decode b_M_draw 53 = .ok (.ishl, 1) := by decide +kernel
theorem d_M_draw_54 : decode b_M_draw 54 = .ok (.iconst 1, 1) := by decide +kernel
theorem d_M_draw_55 : decode b_M_draw 55 = .ok (.isub, 1) := by decide +kernel
theorem d_M_draw_56 : decode b_M_draw 56 = .ok (.putfield 65, 3) := by decide +kernel
theorem d_M_draw_59 : decode b_M_draw 59 = .ok (.aload_n 0, 1) := by decide +kernel
theorem d_M_draw_60 : decode b_M_draw 60 = .ok (.iconst 0, 1) := by decide +kernel
theorem d_M_draw_61 : decode b_M_draw 61 = .ok (.putfield 68, 3) := by decide +kernel
theorem d_M_draw_64 : decode b_M_draw 64 = .ok (.aload_n 0, 1) := by decide +kernel
theorem d_M_draw_65 : decode b_M_draw 65 = .ok (.getfield 62, 3) := by decide +kernel
theorem d_M_draw_68 : decode b_M_draw 68 = .ok (.ireturn, 1) := by decide +kernel
theorem d_M_part_0 : decode b_M_part 0 = .ok (.aload_n 0, 1) := by decide +kernel
theorem d_M_part_1 : decode b_M_part 1 = .ok (.iconst 0, 1) := by decide +kernel
theorem d_M_part_2 : decode b_M_part 2 = .ok (.putfield 24, 3) := by decide +kernel
theorem d_M_part_5 : decode b_M_part 5 = .ok (.iload_n 1, 1) := by decide +kernel
theorem d_M_part_6 : decode b_M_part 6 = .ok (.iconst 0, 1) := by decide +kernel
theorem d_M_part_7 : decode b_M_part 7 = .ok (.aload_n 0, 1) := by decide +kernel
theorem d_M_part_8 : decode b_M_part 8 = .ok (.getfield 62, 3) := by decide +kernel
theorem d_M_part_11 : decode b_M_part 11 = .ok (.iconst 1, 1) := by decide +kernel
theorem d_M_part_12 : decode b_M_part 12 = .ok (.isub, 1) := by decide +kernel
theorem d_M_part_13 : decode b_M_part 13 = .ok (.invokestatic 52, 3) := by decide +kernel
theorem d_M_part_16 : decode b_M_part 16 = .ok (.ifCond .ne 5, 3) := by decide +kernel
theorem d_M_part_19 : decode b_M_part 19 = .ok (.iconst (-1), 1) := by decide +kernel
theorem d_M_part_20 : decode b_M_part 20 = .ok (.ireturn, 1) := by decide +kernel
theorem d_M_part_21 : decode b_M_part 21 = .ok (.iload_n 2, 1) := by decide +kernel
theorem d_M_part_22 : decode b_M_part 22 = .ok (.iconst 0, 1) := by decide +kernel
theorem d_M_part_23 : decode b_M_part 23 = .ok (.iconst 4, 1) := by decide +kernel
theorem d_M_part_24 : decode b_M_part 24 = .ok (.invokestatic 52, 3) := by decide +kernel
theorem d_M_part_27 : decode b_M_part 27 = .ok (.ifCond .ne 6, 3) := by decide +kernel
theorem d_M_part_30 : decode b_M_part 30 = .ok (.bipush (-12), 2) := by decide +kernel
theorem d_M_part_32 : decode b_M_part 32 = .ok (.ireturn, 1) := by decide +kernel
theorem d_M_part_33 : decode b_M_part 33 = .ok (.iload_n 2, 1) := by decide +kernel
theorem d_M_part_34 : decode b_M_part 34 = .ok (.ifCond .ne 28, 3) := by decide +kernel
theorem d_M_part_37 : decode b_M_part 37 = .ok (.aload_n 0, 1) := by decide +kernel
theorem d_M_part_38 : decode b_M_part 38 = .ok (.getfield 56, 3) := by decide +kernel
theorem d_M_part_41 : decode b_M_part 41 = .ok (.aload_n 0, 1) := by decide +kernel
theorem d_M_part_42 : decode b_M_part 42 = .ok (.getfield 59, 3) := by decide +kernel
theorem d_M_part_45 : decode b_M_part 45 = .ok (.aload_n 0, 1) := by decide +kernel
theorem d_M_part_46 : decode b_M_part 46 = .ok (.getfield 62, 3) := by decide +kernel
theorem d_M_part_49 : decode b_M_part 49 = .ok (.iload_n 1, 1) := by decide +kernel
theorem d_M_part_50 : decode b_M_part 50 = .ok (.invokestatic 71, 3) := by decide +kernel
theorem d_M_part_53 : decode b_M_part 53 = .ok (.ifCond .eq 7, 3) := by decide +kernel
theorem d_M_part_56 : decode b_M_part 56 = .ok (.iconst 1, 1) := by decide +kernel
theorem d_M_part_57 : decode b_M_part 57 = .ok (.goto 4, 3) := by decide +kernel
theorem d_M_part_60 : decode b_M_part 60 = .ok (.iconst 0, 1) := by decide +kernel
theorem d_M_part_61 : decode b_M_part 61 = .ok (.ireturn, 1) := by decide +kernel
theorem d_M_part_62 : decode b_M_part 62 = .ok (.aload_n 0, 1) := by decide +kernel
theorem d_M_part_63 : decode b_M_part 63 = .ok (.getfield 56, 3) := by decide +kernel
theorem d_M_part_66 : decode b_M_part 66 = .ok (.aload_n 0, 1) := by decide +kernel
theorem d_M_part_67 : decode b_M_part 67 = .ok (.getfield 59, 3) := by decide +kernel
theorem d_M_part_70 : decode b_M_part 70 = .ok (.iload_n 1, 1) := by decide +kernel
theorem d_M_part_71 : decode b_M_part 71 = .ok (.invokestatic 44, 3) := by decide +kernel
theorem d_M_part_74 : decode b_M_part 74 = .ok (.iload_n 2, 1) := by decide +kernel
theorem d_M_part_75 : decode b_M_part 75 = .ok (.invokestatic 75, 3) := by decide +kernel
theorem d_M_part_78 : decode b_M_part 78 = .ok (.ireturn, 1) := by decide +kernel
theorem d_M_point_0 : decode b_M_point 0 = .ok (.aload_n 0, 1) := by decide +kernel
theorem d_M_point_1 : decode b_M_point 1 = .ok (.iconst 0, 1) := by decide +kernel
theorem d_M_point_2 : decode b_M_point 2 = .ok (.putfield 24, 3) := by decide +kernel
theorem d_M_point_5 : decode b_M_point 5 = .ok (.aload_n 0, 1) := by decide +kernel
theorem d_M_point_6 : decode b_M_point 6 = .ok (.getfield 59, 3) := by decide +kernel
theorem d_M_point_9 : decode b_M_point 9 = .ok (.iconst 1, 1) := by decide +kernel
theorem d_M_point_10 : decode b_M_point 10 = .ok (.if_icmp .ne 37, 3) := by decide +kernel
theorem d_M_point_13 : decode b_M_point 13 = .ok (.iload_n 1, 1) := by decide +kernel
theorem d_M_point_14 : decode b_M_point 14 = .ok (.iconst 0, 1) := by decide +kernel
theorem d_M_point_15 : decode b_M_point 15 = .ok (.aload_n 0, 1) := by decide +kernel
theorem d_M_point_16 : decode b_M_point 16 = .ok (.getfield 62, 3) := by decide +kernel
theorem d_M_point_19 : decode b_M_point 19 = .ok (.iconst 1, 1) := by decide +kernel
theorem d_M_point_20 : decode b_M_point 20 = .ok (.isub, 1) := by decide +kernel
theorem d_M_point_21 : decode b_M_point 21 = .ok (.invokestatic 52, 3) := by decide +kernel
theorem d_M_point_24 : decode b_M_point 24 = .ok (.ifCond .eq 23, 3) := by decide +kernel
theorem d_M_point_27 : decode b_M_point 27 = .ok (.iload_n 2, 1) := by decide +kernel
theorem d_M_point_28 : decode b_M_point 28 = .ok (.iconst 0, 1) := by decide +kernel
theorem d_M_point_29 : decode b_M_point 29 = .ok (.bipush 11, 2) := by decide +kernel
theorem d_M_point_31 : decode b_M_point 31 = .ok (.invokestatic 52, 3) := by decide +kernel
theorem d_M_point_34 : decode b_M_point 34 = .ok (.ifCond .eq 13, 3) := by decide +kernel
theorem d_M_point_37 : decode b_M_point 37 = .ok (.iload_n 3, 1) := by decide +kernel
theorem d_M_point_38 : decode b_M_point 38 = .ok (.iconst 0, 1) := by decide +kernel
theorem d_M_point_39 : decode b_M_point 39 = .ok (.bipush 19, 2) := by decide +kernel
theorem d_M_point_41 : decode b_M_point 41 = .ok (.invokestatic 52, 3) := by decide +kernel
theorem d_M_point_44 : decode b_M_point 44 = .ok (.ifCond .ne 5, 3) := by decide +kernel
theorem d_M_point_47 : decode b_M_point 47 = .ok (.iconst (-1), 1) := by decide +kernel
theorem d_M_point_48 : decode b_M_point 48 = .ok (.ireturn, 1) := by decide +kernel
theorem d_M_point_49 : decode b_M_point 49 = .ok (.aload_n 0, 1) := by decide +kernel
theorem d_M_point_50 : decode b_M_point 50 = .ok (.getfield 17, 3) := by decide +kernel
theorem d_M_point_53 : decode b_M_point 53 = .ok (.aload_n 0, 1) := by decide +kernel
theorem d_M_point_54 : decode b_M_point 54 = .ok (.getfield 56, 3) := by decide +kernel
theorem d_M_point_57 : decode b_M_point 57 = .ok (.iconst 1, 1) := by decide +kernel
theorem d_M_point_58 : decode b_M_point 58 = .ok (.iload_n 1, 1) := by decide +kernel
theorem d_M_point_59 : decode b_M_point 59 = .ok (.invokestatic 44, 3) := by decide +kernel
theorem d_M_point_62 : decode b_M_point 62 = .ok (.iconst 1, 1) := by decide +kernel
theorem d_M_point_63 : decode b_M_point 63 = .ok (.invokestatic 75, 3) := by decide +kernel
theorem d_M_point_66 : decode b_M_point 66 = .ok (.bipush 10, 2) := by decide +kernel
theorem d_M_point_68 : decode b_M_point 68 = .ok (.irem, 1) := by decide +kernel
theorem d_M_point_69 : decode b_M_point 69 = .ok (.iaload, 1) := by decide +kernel
theorem d_M_point_70 : decode b_M_point 70 = .ok (.istore 4, 2) := by decide +kernel
theorem d_M_point_72 : decode b_M_point 72 = .ok (.iload 4, 2) := by decide +kernel
theorem d_M_point_74 : decode b_M_point 74 = .ok (.bipush 14, 2) := by decide +kernel
theorem d_M_point_76 : decode b_M_point 76 = .ok (.iconst 3, 1) := by decide +kernel
theorem d_M_point_77 : decode b_M_point 77 = .ok (.iload_n 3, 1) := by decide +kernel
theorem d_M_point_78 : decode b_M_point 78 = .ok (.iconst 4, 1) := by decide +kernel
theorem d_M_point_79 : decode b_M_point 79 = .ok (.idiv, 1) := by decide +kernel
theorem d_M_point_80 : decode b_M_point 80 = .ok (.imul, 1) := by decide +kernel
theorem d_M_point_81 : decode b_M_point 81 = .ok (.isub, 1) := by decide +kernel
theorem d_M_point_82 : decode b_M_point 82 = .ok (.iload_n 2, 1) := by decide +kernel
theorem d_M_point_83 : decode b_M_point 83 = .ok (.iconst 4, 1) := by decide +kernel
theorem d_M_point_84 : decode b_M_point 84 = .ok (.idiv, 1) := by decide +kernel
theorem d_M_point_85 : decode b_M_point 85 = .ok (.isub, 1) := by decide +kernel
theorem d_M_point_86 : decode b_M_point 86 = .ok (.ishr, 1) := by decide +kernel
theorem d_M_point_87 : decode b_M_point 87 = .ok (.iconst 1, 1) := by decide +kernel
theorem d_M_point_88 : decode b_M_point 88 = .ok (.iand, 1) := by decide +kernel
theorem d_M_point_89 : decode b_M_point 89 = .ok (.iconst 1, 1) := by decide +kernel
theorem d_M_point_90 : decode b_M_point 90 = .ok (.if_icmp .ne 7, 3) := by decide +kernel
theorem d_M_point_93 : decode b_M_point 93 = .ok (.iconst 1, 1) := by decide +kernel
theorem d_M_point_94 : decode b_M_point 94 = .ok (.goto 4, 3) := by decide +kernel
theorem d_M_point_97 : decode b_M_point 97 = .ok (.iconst 0, 1) := by decide +kernel
theorem d_M_point_98 : decode b_M_point 98 = .ok (.istore 5, 2) := by decide +kernel
theorem d_M_point_100 : decode b_M_point 100 = .ok (.iload 5, 2) := by decide +kernel
theorem d_M_point_102 : decode b_M_point 102 = .ok (.ifCond .eq 8, 3) := by decide +kernel
theorem d_M_point_105 : decode b_M_point 105 = .ok (.bipush 40, 2) := by decide +kernel
theorem d_M_point_107 : decode b_M_point 107 = .ok (.goto 6, 3) := by decide +kernel
theorem d_M_point_110 : decode b_M_point 110 = .ok (.sipush 200, 3) := by decide +kernel
theorem d_M_point_113 : decode b_M_point 113 = .ok (.aload_n 0, 1) := by decide +kernel
theorem d_M_point_114 : decode b_M_point 114 = .ok (.getfield 56, 3) := by decide +kernel
theorem d_M_point_117 : decode b_M_point 117 = .ok (.iconst 5, 1) := by decide +kernel
theorem d_M_point_118 : decode b_M_point 118 = .ok (.iload_n 1, 1) := by decide +kernel
theorem d_M_point_119 : decode b_M_point 119 = .ok (.iadd, 1) := by decide +kernel
theorem d_M_point_120 : decode b_M_point 120 = .ok (.bipush 12, 2) := by decide +kernel
theorem d_M_point_122 : decode b_M_point 122 = .ok (.iload_n 3, 1) := by decide +kernel
theorem d_M_point_123 : decode b_M_point 123 = .ok (.imul, 1) := by decide +kernel
theorem d_M_point_124 : decode b_M_point 124 = .ok (.iload_n 2, 1) := by decide +kernel
theorem d_M_point_125 : decode b_M_point 125 = .ok (.iadd, 1) := by decide +kernel
theorem d_M_point_126 : decode b_M_point 126 = .ok (.invokestatic 44, 3) := by decide +kernel
theorem d_M_point_129 : decode b_M_point 129 = .ok (.bipush 33, 2) := by decide +kernel
theorem d_M_point_131 : decode b_M_point 131 = .ok (.invokestatic 40, 3) := by decide +kernel
theorem d_M_point_134 : decode b_M_point 134 = .ok (.iadd, 1) := by decide +kernel
theorem d_M_point_135 : decode b_M_point 135 = .ok (.bipush 16, 2) := by decide +kernel
theorem d_M_point_137 : decode b_M_point 137 = .ok (.isub, 1) := by decide +kernel
theorem d_M_point_138 : decode b_M_point 138 = .ok (.ireturn, 1) := by decide +kernel
theorem d_M_placeOf_0 : decode b_M_placeOf 0 = .ok (.iconst (-1), 1) := by decide +kernel
theorem d_M_placeOf_1 : decode b_M_placeOf 1 = .ok (.istore_n 2, 1) := by decide +kernel
theorem d_M_placeOf_2 : decode b_M_placeOf 2 = .ok (.iconst 0, 1) := by decide +kernel
theorem d_M_placeOf_3 : decode b_M_placeOf 3 = .ok (.istore_n 3, 1) := by decide +kernel
theorem d_M_placeOf_4 : decode b_M_placeOf 4 = .ok (.iload_n 3, 1) := by decide +kernel
theorem d_M_placeOf_5 : decode b_M_placeOf 5 = .ok (.aload_n 0, 1) := by decide +kernel
theorem d_M_placeOf_6 : decode b_M_placeOf 6 = .ok (.getfield 68, 3) := by decide +kernel
theorem d_M_placeOf_9 : decode b_M_placeOf 9 = .ok (.if_icmp .ge 25, 3) := by decide +kernel
theorem d_M_placeOf_12 : decode b_M_placeOf 12 = .ok (.aload_n 0, 1) := by decide +kernel
theorem d_M_placeOf_13 : decode b_M_placeOf 13 = .ok (.getfield 7, 3) := by decide +kernel
theorem d_M_placeOf_16 : decode b_M_placeOf 16 = .ok (.iload_n 3, 1) := by decide +kernel
theorem d_M_placeOf_17 : decode b_M_placeOf 17 = .ok (.iaload, 1) := by decide +kernel
theorem d_M_placeOf_18 : decode b_M_placeOf 18 = .ok (.iload_n 1, 1) := by decide +kernel
theorem d_M_placeOf_19 : decode b_M_placeOf 19 = .ok (.if_icmp .ne 7, 3) := by decide +kernel
theorem d_M_placeOf_22 : decode b_M_placeOf 22 = .ok (.iload_n 3, 1) := by decide +kernel
theorem d_M_placeOf_23 : decode b_M_placeOf 23 = .ok (.goto 4, 3) := by decide +kernel
theorem d_M_placeOf_26 : decode b_M_placeOf 26 = .ok (.iload_n 2, 1) := by decide +kernel
theorem d_M_placeOf_27 : decode b_M_placeOf 27 = .ok (.istore_n 2, 1) := by decide +kernel
theorem d_M_placeOf_28 : decode b_M_placeOf 28 = .ok (.iinc 3 1, 3) := by decide +kernel
theorem d_M_placeOf_31 : decode b_M_placeOf 31 = .ok (.goto (-27), 3) := by decide +kernel
theorem d_M_placeOf_34 : decode b_M_placeOf 34 = .ok (.iload_n 2, 1) := by decide +kernel
theorem d_M_placeOf_35 : decode b_M_placeOf 35 = .ok (.ireturn, 1) := by decide +kernel
theorem d_M_stays_0 : decode b_M_stays 0 = .ok (.aload_n 0, 1) := by decide +kernel
theorem d_M_stays_1 : decode b_M_stays 1 = .ok (.iload_n 1, 1) := by decide +kernel
theorem d_M_stays_2 : decode b_M_stays 2 = .ok (.invokevirtual 78, 3) := by decide +kernel
theorem d_M_stays_5 : decode b_M_stays 5 = .ok (.istore_n 2, 1) := by decide +kernel
theorem d_M_stays_6 : decode b_M_stays 6 = .ok (.iload_n 2, 1) := by decide +kernel
theorem d_M_stays_7 : decode b_M_stays 7 = .ok (.iconst (-1), 1) := by decide +kernel
theorem d_M_stays_8 : decode b_M_stays 8 = .ok (.if_icmp .eq 16, 3) := by decide +kernel
theorem d_M_stays_11 : decode b_M_stays 11 = .ok (.aload_n 0, 1) := by decide +kernel
theorem d_M_stays_12 : decode b_M_stays 12 = .ok (.getfield 13, 3) := by decide +kernel
theorem d_M_stays_15 : decode b_M_stays 15 = .ok (.iload_n 2, 1) := by decide +kernel
theorem d_M_stays_16 : decode b_M_stays 16 = .ok (.baload, 1) := by decide +kernel
theorem d_M_stays_17 : decode b_M_stays 17 = .ok (.ifCond .eq 7, 3) := by decide +kernel
theorem d_M_stays_20 : decode b_M_stays 20 = .ok (.iconst 1, 1) := by decide +kernel
theorem d_M_stays_21 : decode b_M_stays 21 = .ok (.goto 4, 3) := by decide +kernel
theorem d_M_stays_24 : decode b_M_stays 24 = .ok (.iconst 0, 1) := by decide +kernel
theorem d_M_stays_25 : decode b_M_stays 25 = .ok (.ireturn, 1) := by decide +kernel
theorem d_M_verdict_0 : decode b_M_verdict 0 = .ok (.aload_n 0, 1) := by decide +kernel
theorem d_M_verdict_1 : decode b_M_verdict 1 = .ok (.iconst 0, 1) := by decide +kernel
theorem d_M_verdict_2 : decode b_M_verdict 2 = .ok (.putfield 24, 3) := by decide +kernel
theorem d_M_verdict_5 : decode b_M_verdict 5 = .ok (.aload_n 0, 1) := by decide +kernel
theorem d_M_verdict_6 : decode b_M_verdict 6 = .ok (.getfield 62, 3) := by decide +kernel
theorem d_M_verdict_9 : decode b_M_verdict 9 = .ok (.ifCond .ne 6, 3) := by decide +kernel
theorem d_M_verdict_12 : decode b_M_verdict 12 = .ok (.bipush (-13), 2) := by decide +kernel
theorem d_M_verdict_14 : decode b_M_verdict 14 = .ok (.ireturn, 1) := by decide +kernel
theorem d_M_verdict_15 : decode b_M_verdict 15 = .ok (.iload_n 1, 1) := by decide +kernel
theorem d_M_verdict_16 : decode b_M_verdict 16 = .ok (.iconst 1, 1) := by decide +kernel
theorem d_M_verdict_17 : decode b_M_verdict 17 = .ok (.iconst 1, 1) := by decide +kernel
theorem d_M_verdict_18 : decode b_M_verdict 18 = .ok (.aload_n 0, 1) := by decide +kernel
theorem d_M_verdict_19 : decode b_M_verdict 19 = .ok (.getfield 62, 3) := by decide +kernel
theorem d_M_verdict_22 : decode b_M_verdict 22 = .ok (.ishl, 1) := by decide +kernel
theorem d_M_verdict_23 : decode b_M_verdict 23 = .ok (.iconst 1, 1) := by decide +kernel
theorem d_M_verdict_24 : decode b_M_verdict 24 = .ok (.isub, 1) := by decide +kernel
theorem d_M_verdict_25 : decode b_M_verdict 25 = .ok (.invokestatic 52, 3) := by decide +kernel
theorem d_M_verdict_28 : decode b_M_verdict 28 = .ok (.ifCond .ne 6, 3) := by decide +kernel
theorem d_M_verdict_31 : decode b_M_verdict 31 = .ok (.bipush (-12), 2) := by decide +kernel
theorem d_M_verdict_33 : decode b_M_verdict 33 = .ok (.ireturn, 1) := by decide +kernel
theorem d_M_verdict_34 : decode b_M_verdict 34 = .ok (.aload_n 0, 1) := by decide +kernel
theorem d_M_verdict_35 : decode b_M_verdict 35 = .ok (.iload_n 1, 1) := by decide +kernel
theorem d_M_verdict_36 : decode b_M_verdict 36 = .ok (.invokevirtual 78, 3) := by decide +kernel
theorem d_M_verdict_39 : decode b_M_verdict 39 = .ok (.istore_n 3, 1) := by decide +kernel
theorem d_M_verdict_40 : decode b_M_verdict 40 = .ok (.iload_n 3, 1) := by decide +kernel
theorem d_M_verdict_41 : decode b_M_verdict 41 = .ok (.iconst (-1), 1) := by decide +kernel
theorem d_M_verdict_42 : decode b_M_verdict 42 = .ok (.if_icmp .ne 15, 3) := by decide +kernel
theorem d_M_verdict_45 : decode b_M_verdict 45 = .ok (.aload_n 0, 1) := by decide +kernel
theorem d_M_verdict_46 : decode b_M_verdict 46 = .ok (.getfield 68, 3) := by decide +kernel
theorem d_M_verdict_49 : decode b_M_verdict 49 = .ok (.bipush 100, 2) := by decide +kernel
theorem d_M_verdict_51 : decode b_M_verdict 51 = .ok (.if_icmp .ne 6, 3) := by decide +kernel
theorem d_M_verdict_54 : decode b_M_verdict 54 = .ok (.bipush (-14), 2) := by decide +kernel
theorem d_M_verdict_56 : decode b_M_verdict 56 = .ok (.ireturn, 1) := by decide +kernel
theorem d_M_verdict_57 : decode b_M_verdict 57 = .ok (.iload_n 3, 1) := by decide +kernel
theorem d_M_verdict_58 : decode b_M_verdict 58 = .ok (.iconst (-1), 1) := by decide +kernel
theorem d_M_verdict_59 : decode b_M_verdict 59 = .ok (.if_icmp .ne 18, 3) := by decide +kernel
theorem d_M_verdict_62 : decode b_M_verdict 62 = .ok (.aload_n 0, 1) := by decide +kernel
theorem d_M_verdict_63 : decode b_M_verdict 63 = .ok (.getfield 68, 3) := by decide +kernel
theorem d_M_verdict_66 : decode b_M_verdict 66 = .ok (.istore_n 3, 1) := by decide +kernel
theorem d_M_verdict_67 : decode b_M_verdict 67 = .ok (.aload_n 0, 1) := by decide +kernel
theorem d_M_verdict_68 : decode b_M_verdict 68 = .ok (.dup, 1) := by decide +kernel
theorem d_M_verdict_69 : decode b_M_verdict 69 = .ok (.getfield 68, 3) := by decide +kernel
theorem d_M_verdict_72 : decode b_M_verdict 72 = .ok (.iconst 1, 1) := by decide +kernel
theorem d_M_verdict_73 : decode b_M_verdict 73 = .ok (.iadd, 1) := by decide +kernel
theorem d_M_verdict_74 : decode b_M_verdict 74 = .ok (.putfield 68, 3) := by decide +kernel
theorem d_M_verdict_77 : decode b_M_verdict 77 = .ok (.aload_n 0, 1) := by decide +kernel
theorem d_M_verdict_78 : decode b_M_verdict 78 = .ok (.getfield 7, 3) := by decide +kernel
theorem d_M_verdict_81 : decode b_M_verdict 81 = .ok (.iload_n 3, 1) := by decide +kernel
theorem d_M_verdict_82 : decode b_M_verdict 82 = .ok (.iload_n 1, 1) := by decide +kernel
theorem d_M_verdict_83 : decode b_M_verdict 83 = .ok (.iastore, 1) := by decide +kernel
theorem d_M_verdict_84 : decode b_M_verdict 84 = .ok (.aload_n 0, 1) := by decide +kernel
theorem d_M_verdict_85 : decode b_M_verdict 85 = .ok (.getfield 13, 3) := by decide +kernel
theorem d_M_verdict_88 : decode b_M_verdict 88 = .ok (.iload_n 3, 1) := by decide +kernel
theorem d_M_verdict_89 : decode b_M_verdict 89 = .ok (.iload_n 2, 1) := by decide +kernel
theorem d_M_verdict_90 : decode b_M_verdict 90 = .ok (.bastore, 1) := by decide +kernel
theorem d_M_verdict_91 : decode b_M_verdict 91 = .ok (.aload_n 0, 1) := by decide +kernel
theorem d_M_verdict_92 : decode b_M_verdict 92 = .ok (.getfield 68, 3) := by decide +kernel
theorem d_M_verdict_95 : decode b_M_verdict 95 = .ok (.ireturn, 1) := by decide +kernel
theorem d_M_countOf_0 : decode b_M_countOf 0 = .ok (.iconst 0, 1) := by decide +kernel
theorem d_M_countOf_1 : decode b_M_countOf 1 = .ok (.istore_n 1, 1) := by decide +kernel
theorem d_M_countOf_2 : decode b_M_countOf 2 = .ok (.iconst 0, 1) := by decide +kernel
theorem d_M_countOf_3 : decode b_M_countOf 3 = .ok (.istore_n 2, 1) := by decide +kernel
theorem d_M_countOf_4 : decode b_M_countOf 4 = .ok (.iload_n 2, 1) := by decide +kernel
theorem d_M_countOf_5 : decode b_M_countOf 5 = .ok (.bipush 16, 2) := by decide +kernel
theorem d_M_countOf_7 : decode b_M_countOf 7 = .ok (.if_icmp .ge 17, 3) := by decide +kernel
theorem d_M_countOf_10 : decode b_M_countOf 10 = .ok (.iload_n 1, 1) := by decide +kernel
theorem d_M_countOf_11 : decode b_M_countOf 11 = .ok (.iload_n 0, 1) := by decide +kernel
theorem d_M_countOf_12 : decode b_M_countOf 12 = .ok (.iload_n 2, 1) := by decide +kernel
theorem d_M_countOf_13 : decode b_M_countOf 13 = .ok (.ishr, 1) := by decide +kernel
theorem d_M_countOf_14 : decode b_M_countOf 14 = .ok (.iconst 1, 1) := by decide +kernel
theorem d_M_countOf_15 : decode b_M_countOf 15 = .ok (.iand, 1) := by decide +kernel
theorem d_M_countOf_16 : decode b_M_countOf 16 = .ok (.iadd, 1) := by decide +kernel
theorem d_M_countOf_17 : decode b_M_countOf 17 = .ok (.istore_n 1, 1) := by decide +kernel
theorem d_M_countOf_18 : decode b_M_countOf 18 = .ok (.iinc 2 1, 3) := by decide +kernel
theorem d_M_countOf_21 : decode b_M_countOf 21 = .ok (.goto (-17), 3) := by decide +kernel
theorem d_M_countOf_24 : decode b_M_countOf 24 = .ok (.iload_n 1, 1) := by decide +kernel
theorem d_M_countOf_25 : decode b_M_countOf 25 = .ok (.ireturn, 1) := by decide +kernel
theorem d_M_without_0 : decode b_M_without 0 = .ok (.iload_n 2, 1) := by decide +kernel
theorem d_M_without_1 : decode b_M_without 1 = .ok (.istore_n 3, 1) := by decide +kernel
theorem d_M_without_2 : decode b_M_without 2 = .ok (.iload_n 3, 1) := by decide +kernel
theorem d_M_without_3 : decode b_M_without 3 = .ok (.aload_n 0, 1) := by decide +kernel
theorem d_M_without_4 : decode b_M_without 4 = .ok (.getfield 62, 3) := by decide +kernel
theorem d_M_without_7 : decode b_M_without 7 = .ok (.if_icmp .ge 51, 3) := by decide +kernel
theorem d_M_without_10 : decode b_M_without 10 = .ok (.iload_n 1, 1) := by decide +kernel
theorem d_M_without_11 : decode b_M_without 11 = .ok (.iload_n 3, 1) := by decide +kernel
theorem d_M_without_12 : decode b_M_without 12 = .ok (.ishr, 1) := by decide +kernel
theorem d_M_without_13 : decode b_M_without 13 = .ok (.iconst 1, 1) := by decide +kernel
theorem d_M_without_14 : decode b_M_without 14 = .ok (.iand, 1) := by decide +kernel
theorem d_M_without_15 : decode b_M_without 15 = .ok (.iconst 1, 1) := by decide +kernel
theorem d_M_without_16 : decode b_M_without 16 = .ok (.if_icmp .ne 7, 3) := by decide +kernel
theorem d_M_without_19 : decode b_M_without 19 = .ok (.iconst 1, 1) := by decide +kernel
theorem d_M_without_20 : decode b_M_without 20 = .ok (.goto 4, 3) := by decide +kernel
theorem d_M_without_23 : decode b_M_without 23 = .ok (.iconst 0, 1) := by decide +kernel
theorem d_M_without_24 : decode b_M_without 24 = .ok (.istore 4, 2) := by decide +kernel
theorem d_M_without_26 : decode b_M_without 26 = .ok (.iload 4, 2) := by decide +kernel
theorem d_M_without_28 : decode b_M_without 28 = .ok (.ifCond .eq 24, 3) := by decide +kernel
theorem d_M_without_31 : decode b_M_without 31 = .ok (.iload_n 1, 1) := by decide +kernel
theorem d_M_without_32 : decode b_M_without 32 = .ok (.iconst 1, 1) := by decide +kernel
theorem d_M_without_33 : decode b_M_without 33 = .ok (.iload_n 3, 1) := by decide +kernel
theorem d_M_without_34 : decode b_M_without 34 = .ok (.ishl, 1) := by decide +kernel
theorem d_M_without_35 : decode b_M_without 35 = .ok (.if_icmp .eq 17, 3) := by decide +kernel
theorem d_M_without_38 : decode b_M_without 38 = .ok (.aload_n 0, 1) := by decide +kernel
theorem d_M_without_39 : decode b_M_without 39 = .ok (.iload_n 1, 1) := by decide +kernel
theorem d_M_without_40 : decode b_M_without 40 = .ok (.iconst 1, 1) := by decide +kernel
theorem d_M_without_41 : decode b_M_without 41 = .ok (.iload_n 3, 1) := by decide +kernel
theorem d_M_without_42 : decode b_M_without 42 = .ok (.ishl, 1) := by decide +kernel
theorem d_M_without_43 : decode b_M_without 43 = .ok (.isub, 1) := by decide +kernel
theorem d_M_without_44 : decode b_M_without 44 = .ok (.invokevirtual 82, 3) := by decide +kernel
theorem d_M_without_47 : decode b_M_without 47 = .ok (.ifCond .eq 5, 3) := by decide +kernel
theorem d_M_without_50 : decode b_M_without 50 = .ok (.iload_n 3, 1) := by decide +kernel
theorem d_M_without_51 : decode b_M_without 51 = .ok (.ireturn, 1) := by decide +kernel
theorem d_M_without_52 : decode b_M_without 52 = .ok (.iinc 3 1, 3) := by decide +kernel
theorem d_M_without_55 : decode b_M_without 55 = .ok (.goto (-53), 3) := by decide +kernel
theorem d_M_without_58 : decode b_M_without 58 = .ok (.iconst (-1), 1) := by decide +kernel
theorem d_M_without_59 : decode b_M_without 59 = .ok (.ireturn, 1) := by decide +kernel
theorem d_M_shorter_0 : decode b_M_shorter 0 = .ok (.aload_n 0, 1) := by decide +kernel
theorem d_M_shorter_1 : decode b_M_shorter 1 = .ok (.iconst 0, 1) := by decide +kernel
theorem d_M_shorter_2 : decode b_M_shorter 2 = .ok (.putfield 24, 3) := by decide +kernel
theorem d_M_shorter_5 : decode b_M_shorter 5 = .ok (.aload_n 0, 1) := by decide +kernel
theorem d_M_shorter_6 : decode b_M_shorter 6 = .ok (.getfield 62, 3) := by decide +kernel
theorem d_M_shorter_9 : decode b_M_shorter 9 = .ok (.ifCond .ne 6, 3) := by decide +kernel
theorem d_M_shorter_12 : decode b_M_shorter 12 = .ok (.bipush (-13), 2) := by decide +kernel
theorem d_M_shorter_14 : decode b_M_shorter 14 = .ok (.ireturn, 1) := by decide +kernel
theorem d_M_shorter_15 : decode b_M_shorter 15 = .ok (.iconst 1, 1) := by decide +kernel
theorem d_M_shorter_16 : decode b_M_shorter 16 = .ok (.aload_n 0, 1) := by decide +kernel
theorem d_M_shorter_17 : decode b_M_shorter 17 = .ok (.getfield 62, 3) := by decide +kernel
theorem d_M_shorter_20 : decode b_M_shorter 20 = .ok (.ishl, 1) := by decide +kernel
theorem d_M_shorter_21 : decode b_M_shorter 21 = .ok (.iconst 1, 1) := by decide +kernel
theorem d_M_shorter_22 : decode b_M_shorter 22 = .ok (.isub, 1) := by decide +kernel
theorem d_M_shorter_23 : decode b_M_shorter 23 = .ok (.istore_n 1, 1) := by decide +kernel
theorem d_M_shorter_24 : decode b_M_shorter 24 = .ok (.aload_n 0, 1) := by decide +kernel
theorem d_M_shorter_25 : decode b_M_shorter 25 = .ok (.iload_n 1, 1) := by decide +kernel
theorem d_M_shorter_26 : decode b_M_shorter 26 = .ok (.invokevirtual 82, 3) := by decide +kernel
theorem d_M_shorter_29 : decode b_M_shorter 29 = .ok (.ifCond .eq 47, 3) := by decide +kernel
theorem d_M_shorter_32 : decode b_M_shorter 32 = .ok (.iconst 0, 1) := by decide +kernel
theorem d_M_shorter_33 : decode b_M_shorter 33 = .ok (.istore_n 2, 1) := by decide +kernel
theorem d_M_shorter_34 : decode b_M_shorter 34 = .ok (.iload_n 2, 1) := by decide +kernel
theorem d_M_shorter_35 : decode b_M_shorter 35 = .ok (.ifCond .lt 41, 3) := by decide +kernel
theorem d_M_shorter_38 : decode b_M_shorter 38 = .ok (.aload_n 0, 1) := by decide +kernel
theorem d_M_shorter_39 : decode b_M_shorter 39 = .ok (.iload_n 1, 1) := by decide +kernel
theorem d_M_shorter_40 : decode b_M_shorter 40 = .ok (.iload_n 2, 1) := by decide +kernel
theorem d_M_shorter_41 : decode b_M_shorter 41 = .ok (.invokevirtual 86, 3) := by decide +kernel
theorem d_M_shorter_44 : decode b_M_shorter 44 = .ok (.istore_n 3, 1) := by decide +kernel
theorem d_M_shorter_45 : decode b_M_shorter 45 = .ok (.iload_n 3, 1) := by decide +kernel
theorem d_M_shorter_46 : decode b_M_shorter 46 = .ok (.iconst (-1), 1) := by decide +kernel
theorem d_M_shorter_47 : decode b_M_shorter 47 = .ok (.if_icmp .eq 16, 3) := by decide +kernel
theorem d_M_shorter_50 : decode b_M_shorter 50 = .ok (.iload_n 1, 1) := by decide +kernel
theorem d_M_shorter_51 : decode b_M_shorter 51 = .ok (.iconst 1, 1) := by decide +kernel
theorem d_M_shorter_52 : decode b_M_shorter 52 = .ok (.iload_n 3, 1) := by decide +kernel
theorem d_M_shorter_53 : decode b_M_shorter 53 = .ok (.ishl, 1) := by decide +kernel
theorem d_M_shorter_54 : decode b_M_shorter 54 = .ok (.isub, 1) := by decide +kernel
theorem d_M_shorter_55 : decode b_M_shorter 55 = .ok (.istore_n 1, 1) := by decide +kernel
theorem d_M_shorter_56 : decode b_M_shorter 56 = .ok (.iload_n 3, 1) := by decide +kernel
theorem d_M_shorter_57 : decode b_M_shorter 57 = .ok (.iconst 1, 1) := by decide +kernel
theorem d_M_shorter_58 : decode b_M_shorter 58 = .ok (.iadd, 1) := by decide +kernel
theorem d_M_shorter_59 : decode b_M_shorter 59 = .ok (.istore_n 2, 1) := by decide +kernel
theorem d_M_shorter_60 : decode b_M_shorter 60 = .ok (.goto 13, 3) := by decide +kernel
theorem d_M_shorter_63 : decode b_M_shorter 63 = .ok (.iload_n 2, 1) := by decide +kernel
theorem d_M_shorter_64 : decode b_M_shorter 64 = .ok (.ifCond .le 7, 3) := by decide +kernel
theorem d_M_shorter_67 : decode b_M_shorter 67 = .ok (.iconst 0, 1) := by decide +kernel
theorem d_M_shorter_68 : decode b_M_shorter 68 = .ok (.goto 4, 3) := by decide +kernel
theorem d_M_shorter_71 : decode b_M_shorter 71 = .ok (.iconst (-1), 1) := by decide +kernel
theorem d_M_shorter_72 : decode b_M_shorter 72 = .ok (.istore_n 2, 1) := by decide +kernel
theorem d_M_shorter_73 : decode b_M_shorter 73 = .ok (.goto (-39), 3) := by decide +kernel
theorem d_M_shorter_76 : decode b_M_shorter 76 = .ok (.aload_n 0, 1) := by decide +kernel
theorem d_M_shorter_77 : decode b_M_shorter 77 = .ok (.iload_n 1, 1) := by decide +kernel
theorem d_M_shorter_78 : decode b_M_shorter 78 = .ok (.putfield 65, 3) := by decide +kernel
theorem d_M_shorter_81 : decode b_M_shorter 81 = .ok (.iload_n 1, 1) := by decide +kernel
theorem d_M_shorter_82 : decode b_M_shorter 82 = .ok (.invokestatic 90, 3) := by decide +kernel
theorem d_M_shorter_85 : decode b_M_shorter 85 = .ok (.ireturn, 1) := by decide +kernel
theorem d_M_left_0 : decode b_M_left 0 = .ok (.aload_n 0, 1) := by decide +kernel
theorem d_M_left_1 : decode b_M_left 1 = .ok (.iconst 0, 1) := by decide +kernel
theorem d_M_left_2 : decode b_M_left 2 = .ok (.putfield 24, 3) := by decide +kernel
theorem d_M_left_5 : decode b_M_left 5 = .ok (.iconst 0, 1) := by decide +kernel
theorem d_M_left_6 : decode b_M_left 6 = .ok (.istore_n 2, 1) := by decide +kernel
theorem d_M_left_7 : decode b_M_left 7 = .ok (.iconst 0, 1) := by decide +kernel
theorem d_M_left_8 : decode b_M_left 8 = .ok (.istore_n 3, 1) := by decide +kernel
theorem d_M_left_9 : decode b_M_left 9 = .ok (.iload_n 3, 1) := by decide +kernel
theorem d_M_left_10 : decode b_M_left 10 = .ok (.aload_n 0, 1) := by decide +kernel
theorem d_M_left_11 : decode b_M_left 11 = .ok (.getfield 62, 3) := by decide +kernel
theorem d_M_left_14 : decode b_M_left 14 = .ok (.if_icmp .ge 31, 3) := by decide +kernel
theorem d_M_left_17 : decode b_M_left 17 = .ok (.aload_n 0, 1) := by decide +kernel
theorem d_M_left_18 : decode b_M_left 18 = .ok (.getfield 65, 3) := by decide +kernel
theorem d_M_left_21 : decode b_M_left 21 = .ok (.iload_n 3, 1) := by decide +kernel
theorem d_M_left_22 : decode b_M_left 22 = .ok (.ishr, 1) := by decide +kernel
theorem d_M_left_23 : decode b_M_left 23 = .ok (.iconst 1, 1) := by decide +kernel
theorem d_M_left_24 : decode b_M_left 24 = .ok (.iand, 1) := by decide +kernel
theorem d_M_left_25 : decode b_M_left 25 = .ok (.iconst 1, 1) := by decide +kernel
theorem d_M_left_26 : decode b_M_left 26 = .ok (.if_icmp .ne 13, 3) := by decide +kernel
theorem d_M_left_29 : decode b_M_left 29 = .ok (.iload_n 2, 1) := by decide +kernel
theorem d_M_left_30 : decode b_M_left 30 = .ok (.iload_n 1, 1) := by decide +kernel
theorem d_M_left_31 : decode b_M_left 31 = .ok (.if_icmp .ne 5, 3) := by decide +kernel
theorem d_M_left_34 : decode b_M_left 34 = .ok (.iload_n 3, 1) := by decide +kernel
theorem d_M_left_35 : decode b_M_left 35 = .ok (.ireturn, 1) := by decide +kernel
theorem d_M_left_36 : decode b_M_left 36 = .ok (.iinc 2 1, 3) := by decide +kernel
theorem d_M_left_39 : decode b_M_left 39 = .ok (.iinc 3 1, 3) := by decide +kernel
theorem d_M_left_42 : decode b_M_left 42 = .ok (.goto (-33), 3) := by decide +kernel
theorem d_M_left_45 : decode b_M_left 45 = .ok (.iconst (-1), 1) := by decide +kernel
theorem d_M_left_46 : decode b_M_left 46 = .ok (.ireturn, 1) := by decide +kernel
theorem d_M_minimal_0 : decode b_M_minimal 0 = .ok (.aload_n 0, 1) := by decide +kernel
theorem d_M_minimal_1 : decode b_M_minimal 1 = .ok (.iconst 0, 1) := by decide +kernel
theorem d_M_minimal_2 : decode b_M_minimal 2 = .ok (.putfield 24, 3) := by decide +kernel
theorem d_M_minimal_5 : decode b_M_minimal 5 = .ok (.aload_n 0, 1) := by decide +kernel
theorem d_M_minimal_6 : decode b_M_minimal 6 = .ok (.getfield 62, 3) := by decide +kernel
theorem d_M_minimal_9 : decode b_M_minimal 9 = .ok (.ifCond .le 31, 3) := by decide +kernel
theorem d_M_minimal_12 : decode b_M_minimal 12 = .ok (.aload_n 0, 1) := by decide +kernel
theorem d_M_minimal_13 : decode b_M_minimal 13 = .ok (.aload_n 0, 1) := by decide +kernel
theorem d_M_minimal_14 : decode b_M_minimal 14 = .ok (.getfield 65, 3) := by decide +kernel
theorem d_M_minimal_17 : decode b_M_minimal 17 = .ok (.invokevirtual 82, 3) := by decide +kernel
theorem d_M_minimal_20 : decode b_M_minimal 20 = .ok (.ifCond .eq 20, 3) := by decide +kernel
theorem d_M_minimal_23 : decode b_M_minimal 23 = .ok (.aload_n 0, 1) := by decide +kernel
theorem d_M_minimal_24 : decode b_M_minimal 24 = .ok (.aload_n 0, 1) := by decide +kernel
theorem d_M_minimal_25 : decode b_M_minimal 25 = .ok (.getfield 65, 3) := by decide +kernel
theorem d_M_minimal_28 : decode b_M_minimal 28 = .ok (.iconst 0, 1) := by decide +kernel
theorem d_M_minimal_29 : decode b_M_minimal 29 = .ok (.invokevirtual 86, 3) := by decide +kernel
theorem d_M_minimal_32 : decode b_M_minimal 32 = .ok (.iconst (-1), 1) := by decide +kernel
theorem d_M_minimal_33 : decode b_M_minimal 33 = .ok (.if_icmp .ne 7, 3) := by decide +kernel
theorem d_M_minimal_36 : decode b_M_minimal 36 = .ok (.iconst 1, 1) := by decide +kernel
theorem d_M_minimal_37 : decode b_M_minimal 37 = .ok (.goto 4, 3) := by decide +kernel
theorem d_M_minimal_40 : decode b_M_minimal 40 = .ok (.iconst 0, 1) := by decide +kernel
theorem d_M_minimal_41 : decode b_M_minimal 41 = .ok (.ireturn, 1) := by decide +kernel
theorem d_M_faultless_0 : decode b_M_faultless 0 = .ok (.aload_n 0, 1) := by decide +kernel
theorem d_M_faultless_1 : decode b_M_faultless 1 = .ok (.iconst 0, 1) := by decide +kernel
theorem d_M_faultless_2 : decode b_M_faultless 2 = .ok (.putfield 24, 3) := by decide +kernel
theorem d_M_faultless_5 : decode b_M_faultless 5 = .ok (.aload_n 0, 1) := by decide +kernel
theorem d_M_faultless_6 : decode b_M_faultless 6 = .ok (.getfield 59, 3) := by decide +kernel
theorem d_M_faultless_9 : decode b_M_faultless 9 = .ok (.iconst 3, 1) := by decide +kernel
theorem d_M_faultless_10 : decode b_M_faultless 10 = .ok (.if_icmp .ne 40, 3) := by decide +kernel
theorem d_M_faultless_13 : decode b_M_faultless 13 = .ok (.iload_n 1, 1) := by decide +kernel
theorem d_M_faultless_14 : decode b_M_faultless 14 = .ok (.iconst 0, 1) := by decide +kernel
theorem d_M_faultless_15 : decode b_M_faultless 15 = .ok (.aload_n 0, 1) := by decide +kernel
theorem d_M_faultless_16 : decode b_M_faultless 16 = .ok (.getfield 62, 3) := by decide +kernel
theorem d_M_faultless_19 : decode b_M_faultless 19 = .ok (.iconst 1, 1) := by decide +kernel
theorem d_M_faultless_20 : decode b_M_faultless 20 = .ok (.isub, 1) := by decide +kernel
theorem d_M_faultless_21 : decode b_M_faultless 21 = .ok (.invokestatic 52, 3) := by decide +kernel
theorem d_M_faultless_24 : decode b_M_faultless 24 = .ok (.ifCond .eq 26, 3) := by decide +kernel
theorem d_M_faultless_27 : decode b_M_faultless 27 = .ok (.aload_n 0, 1) := by decide +kernel
theorem d_M_faultless_28 : decode b_M_faultless 28 = .ok (.getfield 56, 3) := by decide +kernel
theorem d_M_faultless_31 : decode b_M_faultless 31 = .ok (.aload_n 0, 1) := by decide +kernel
theorem d_M_faultless_32 : decode b_M_faultless 32 = .ok (.getfield 59, 3) := by decide +kernel
theorem d_M_faultless_35 : decode b_M_faultless 35 = .ok (.aload_n 0, 1) := by decide +kernel
theorem d_M_faultless_36 : decode b_M_faultless 36 = .ok (.getfield 62, 3) := by decide +kernel
theorem d_M_faultless_39 : decode b_M_faultless 39 = .ok (.iload_n 1, 1) := by decide +kernel
theorem d_M_faultless_40 : decode b_M_faultless 40 = .ok (.invokestatic 71, 3) := by decide +kernel
theorem d_M_faultless_43 : decode b_M_faultless 43 = .ok (.ifCond .ne 7, 3) := by decide +kernel
theorem d_M_faultless_46 : decode b_M_faultless 46 = .ok (.iconst 1, 1) := by decide +kernel
theorem d_M_faultless_47 : decode b_M_faultless 47 = .ok (.goto 4, 3) := by decide +kernel
theorem d_M_faultless_50 : decode b_M_faultless 50 = .ok (.iconst 0, 1) := by decide +kernel
theorem d_M_faultless_51 : decode b_M_faultless 51 = .ok (.ireturn, 1) := by decide +kernel
theorem d_M_same_0 : decode b_M_same 0 = .ok (.aload_n 0, 1) := by decide +kernel
theorem d_M_same_1 : decode b_M_same 1 = .ok (.iconst 0, 1) := by decide +kernel
theorem d_M_same_2 : decode b_M_same 2 = .ok (.putfield 24, 3) := by decide +kernel
theorem d_M_same_5 : decode b_M_same 5 = .ok (.iload_n 3, 1) := by decide +kernel
theorem d_M_same_6 : decode b_M_same 6 = .ok (.iconst 0, 1) := by decide +kernel
theorem d_M_same_7 : decode b_M_same 7 = .ok (.iconst 4, 1) := by decide +kernel
theorem d_M_same_8 : decode b_M_same 8 = .ok (.invokestatic 52, 3) := by decide +kernel
theorem d_M_same_11 : decode b_M_same 11 = .ok (.ifCond .eq 18, 3) := by decide +kernel
theorem d_M_same_14 : decode b_M_same 14 = .ok (.iload 4, 2) := by decide +kernel
theorem d_M_same_16 : decode b_M_same 16 = .ok (.iconst 0, 1) := by decide +kernel
theorem d_M_same_17 : decode b_M_same 17 = .ok (.bipush 15, 2) := by decide +kernel
theorem d_M_same_19 : decode b_M_same 19 = .ok (.invokestatic 52, 3) := by decide +kernel
theorem d_M_same_22 : decode b_M_same 22 = .ok (.ifCond .eq 7, 3) := by decide +kernel
theorem d_M_same_25 : decode b_M_same 25 = .ok (.iconst 1, 1) := by decide +kernel
theorem d_M_same_26 : decode b_M_same 26 = .ok (.goto 4, 3) := by decide +kernel
theorem d_M_same_29 : decode b_M_same 29 = .ok (.iconst 0, 1) := by decide +kernel
theorem d_M_same_30 : decode b_M_same 30 = .ok (.istore 5, 2) := by decide +kernel
theorem d_M_same_32 : decode b_M_same 32 = .ok (.iconst 0, 1) := by decide +kernel
theorem d_M_same_33 : decode b_M_same 33 = .ok (.istore 6, 2) := by decide +kernel
theorem d_M_same_35 : decode b_M_same 35 = .ok (.iload 5, 2) := by decide +kernel
theorem d_M_same_37 : decode b_M_same 37 = .ok (.ifCond .eq 113, 3) := by decide +kernel
theorem d_M_same_40 : decode b_M_same 40 = .ok (.iload 6, 2) := by decide +kernel
theorem d_M_same_42 : decode b_M_same 42 = .ok (.iload 4, 2) := by decide +kernel
theorem d_M_same_44 : decode b_M_same 44 = .ok (.if_icmp .gt 106, 3) := by decide +kernel
theorem d_M_same_47 : decode b_M_same 47 = .ok (.iconst 1, 1) := by decide +kernel
theorem d_M_same_48 : decode b_M_same 48 = .ok (.istore 7, 2) := by decide +kernel
theorem d_M_same_50 : decode b_M_same 50 = .ok (.iload 7, 2) := by decide +kernel
theorem d_M_same_52 : decode b_M_same 52 = .ok (.iconst 5, 1) := by decide +kernel
theorem d_M_same_53 : decode b_M_same 53 = .ok (.if_icmp .ge 51, 3) := by decide +kernel
theorem d_M_same_56 : decode b_M_same 56 = .ok (.iload 5, 2) := by decide +kernel
theorem d_M_same_58 : decode b_M_same 58 = .ok (.ifCond .eq 37, 3) := by decide +kernel
theorem d_M_same_61 : decode b_M_same 61 = .ok (.lload_n 1, 1) := by decide +kernel
theorem d_M_same_62 : decode b_M_same 62 = .ok (.iload_n 3, 1) := by decide +kernel
theorem d_M_same_63 : decode b_M_same 63 = .ok (.iload 6, 2) := by decide +kernel
theorem d_M_same_65 : decode b_M_same 65 = .ok (.invokestatic 44, 3) := by decide +kernel
theorem d_M_same_68 : decode b_M_same 68 = .ok (.iload 7, 2) := by decide +kernel
theorem d_M_same_70 : decode b_M_same 70 = .ok (.invokestatic 75, 3) := by decide +kernel
theorem d_M_same_73 : decode b_M_same 73 = .ok (.aload_n 0, 1) := by decide +kernel
theorem d_M_same_74 : decode b_M_same 74 = .ok (.getfield 20, 3) := by decide +kernel
theorem d_M_same_77 : decode b_M_same 77 = .ok (.iload_n 3, 1) := by decide +kernel
theorem d_M_same_78 : decode b_M_same 78 = .ok (.iload 6, 2) := by decide +kernel
theorem d_M_same_80 : decode b_M_same 80 = .ok (.invokestatic 44, 3) := by decide +kernel
theorem d_M_same_83 : decode b_M_same 83 = .ok (.iload 7, 2) := by decide +kernel
theorem d_M_same_85 : decode b_M_same 85 = .ok (.invokestatic 75, 3) := by decide +kernel
theorem d_M_same_88 : decode b_M_same 88 = .ok (.if_icmp .ne 7, 3) := by decide +kernel
theorem d_M_same_91 : decode b_M_same 91 = .ok (.iconst 1, 1) := by decide +kernel
theorem d_M_same_92 : decode b_M_same 92 = .ok (.goto 4, 3) := by decide +kernel
theorem d_M_same_95 : decode b_M_same 95 = .ok (.iconst 0, 1) := by decide +kernel
theorem d_M_same_96 : decode b_M_same 96 = .ok (.istore 5, 2) := by decide +kernel
theorem d_M_same_98 : decode b_M_same 98 = .ok (.iinc 7 1, 3) := by decide +kernel
theorem d_M_same_101 : decode b_M_same 101 = .ok (.goto (-51), 3) := by decide +kernel
theorem d_M_same_104 : decode b_M_same 104 = .ok (.iload 5, 2) := by decide +kernel
theorem d_M_same_106 : decode b_M_same 106 = .ok (.ifCond .eq 35, 3) := by decide +kernel
theorem d_M_same_109 : decode b_M_same 109 = .ok (.lload_n 1, 1) := by decide +kernel
theorem d_M_same_110 : decode b_M_same 110 = .ok (.iload_n 3, 1) := by decide +kernel
theorem d_M_same_111 : decode b_M_same 111 = .ok (.iload 4, 2) := by decide +kernel
theorem d_M_same_113 : decode b_M_same 113 = .ok (.iconst 1, 1) := by decide +kernel
theorem d_M_same_114 : decode b_M_same 114 = .ok (.iadd, 1) := by decide +kernel
theorem d_M_same_115 : decode b_M_same 115 = .ok (.iload 6, 2) := by decide +kernel
theorem d_M_same_117 : decode b_M_same 117 = .ok (.invokestatic 71, 3) := by decide +kernel
theorem d_M_same_120 : decode b_M_same 120 = .ok (.aload_n 0, 1) := by decide +kernel
theorem d_M_same_121 : decode b_M_same 121 = .ok (.getfield 20, 3) := by decide +kernel
theorem d_M_same_124 : decode b_M_same 124 = .ok (.iload_n 3, 1) := by decide +kernel
theorem d_M_same_125 : decode b_M_same 125 = .ok (.iload 4, 2) := by decide +kernel
theorem d_M_same_127 : decode b_M_same 127 = .ok (.iconst 1, 1) := by decide +kernel
theorem d_M_same_128 : decode b_M_same 128 = .ok (.iadd, 1) := by decide +kernel
theorem d_M_same_129 : decode b_M_same 129 = .ok (.iload 6, 2) := by decide +kernel
theorem d_M_same_131 : decode b_M_same 131 = .ok (.invokestatic 71, 3) := by decide +kernel
theorem d_M_same_134 : decode b_M_same 134 = .ok (.if_icmp .ne 7, 3) := by decide +kernel
theorem d_M_same_137 : decode b_M_same 137 = .ok (.iconst 1, 1) := by decide +kernel
theorem d_M_same_138 : decode b_M_same 138 = .ok (.goto 4, 3) := by decide +kernel
theorem d_M_same_141 : decode b_M_same 141 = .ok (.iconst 0, 1) := by decide +kernel
theorem d_M_same_142 : decode b_M_same 142 = .ok (.istore 5, 2) := by decide +kernel
theorem d_M_same_144 : decode b_M_same 144 = .ok (.iinc 6 1, 3) := by decide +kernel
theorem d_M_same_147 : decode b_M_same 147 = .ok (.goto (-112), 3) := by decide +kernel
theorem d_M_same_150 : decode b_M_same 150 = .ok (.iload 5, 2) := by decide +kernel
theorem d_M_same_152 : decode b_M_same 152 = .ok (.ireturn, 1) := by decide +kernel
end
section
theorem d_L_cell_0 : decode b_L_cell 0 = .ok (.iload_n 1, 1) := by decide +kernel
theorem d_L_cell_1 : decode b_L_cell 1 = .ok (.aload_n 0, 1) := by decide +kernel
theorem d_L_cell_2 : decode b_L_cell 2 = .ok (.arraylength, 1) := by decide +kernel
theorem d_L_cell_3 : decode b_L_cell 3 = .ok (.if_icmp .ge 9, 3) := by decide +kernel
theorem d_L_cell_6 : decode b_L_cell 6 = .ok (.aload_n 0, 1) := by decide +kernel
theorem d_L_cell_7 : decode b_L_cell 7 = .ok (.iload_n 1, 1) := by decide +kernel
theorem d_L_cell_8 : decode b_L_cell 8 = .ok (.iaload, 1) := by decide +kernel
theorem d_L_cell_9 : decode b_L_cell 9 = .ok (.goto 4, 3) := by decide +kernel
theorem d_L_cell_12 : decode b_L_cell 12 = .ok (.iconst 0, 1) := by decide +kernel
theorem d_L_cell_13 : decode b_L_cell 13 = .ok (.ireturn, 1) := by decide +kernel
theorem d_L_law_0 : decode b_L_law 0 = .ok (.new 7, 3) := by decide +kernel
theorem d_L_law_3 : decode b_L_law 3 = .ok (.dup, 1) := by decide +kernel
theorem d_L_law_4 : decode b_L_law 4 = .ok (.aload_n 0, 1) := by decide +kernel
theorem d_L_law_5 : decode b_L_law 5 = .ok (.iconst 0, 1) := by decide +kernel
theorem d_L_law_6 : decode b_L_law 6 = .ok (.invokestatic 9, 3) := by decide +kernel
theorem d_L_law_9 : decode b_L_law 9 = .ok (.invokespecial 15, 3) := by decide +kernel
theorem d_L_law_12 : decode b_L_law 12 = .ok (.astore_n 1, 1) := by decide +kernel
theorem d_L_law_13 : decode b_L_law 13 = .ok (.new 18, 3) := by decide +kernel
theorem d_L_law_16 : decode b_L_law 16 = .ok (.dup, 1) := by decide +kernel
theorem d_L_law_17 : decode b_L_law 17 = .ok (.aload_n 0, 1) := by decide +kernel
theorem d_L_law_18 : decode b_L_law 18 = .ok (.iconst 0, 1) := by decide +kernel
theorem d_L_law_19 : decode b_L_law 19 = .ok (.invokestatic 9, 3) := by decide +kernel
theorem d_L_law_22 : decode b_L_law 22 = .ok (.invokespecial 20, 3) := by decide +kernel
theorem d_L_law_25 : decode b_L_law 25 = .ok (.astore_n 2, 1) := by decide +kernel
theorem d_L_law_26 : decode b_L_law 26 = .ok (.iconst 1, 1) := by decide +kernel
theorem d_L_law_27 : decode b_L_law 27 = .ok (.istore_n 3, 1) := by decide +kernel
theorem d_L_law_28 : decode b_L_law 28 = .ok (.iload_n 3, 1) := by decide +kernel
theorem d_L_law_29 : decode b_L_law 29 = .ok (.aload_n 0, 1) := by decide +kernel
theorem d_L_law_30 : decode b_L_law 30 = .ok (.arraylength, 1) := by decide +kernel
theorem d_L_law_31 : decode b_L_law 31 = .ok (.iconst 5, 1) := by decide +kernel
theorem d_L_law_32 : decode b_L_law 32 = .ok (.isub, 1) := by decide +kernel
theorem d_L_law_33 : decode b_L_law 33 = .ok (.if_icmp .gt 426, 3) := by decide +kernel
theorem d_L_law_36 : decode b_L_law 36 = .ok (.aload_n 0, 1) := by decide +kernel
theorem d_L_law_37 : decode b_L_law 37 = .ok (.iload_n 3, 1) := by decide +kernel
theorem d_L_law_38 : decode b_L_law 38 = .ok (.iaload, 1) := by decide +kernel
theorem d_L_law_39 : decode b_L_law 39 = .ok (.bipush 15, 2) := by decide +kernel
theorem d_L_law_41 : decode b_L_law 41 = .ok (.iand, 1) := by decide +kernel
theorem d_L_law_42 : decode b_L_law 42 = .ok (.tableswitch 411 0 9 #[54, 108, 141, 174, 217, 266, 279, 302, 315, 338], 54) := by decide +kernel
theorem d_L_law_96 : decode b_L_law 96 = .ok (.aload_n 1, 1) := by decide +kernel
theorem d_L_law_97 : decode b_L_law 97 = .ok (.aload_n 0, 1) := by decide +kernel
theorem d_L_law_98 : decode b_L_law 98 = .ok (.iload_n 3, 1) := by decide +kernel
theorem d_L_law_99 : decode b_L_law 99 = .ok (.iconst 1, 1) := by decide +kernel
theorem d_L_law_100 : decode b_L_law 100 = .ok (.iadd, 1) := by decide +kernel
theorem d_L_law_101 : decode b_L_law 101 = .ok (.iaload, 1) := by decide +kernel
theorem d_L_law_102 : decode b_L_law 102 = .ok (.i2l, 1) := by decide +kernel
theorem d_L_law_103 : decode b_L_law 103 = .ok (.bipush 32, 2) := by decide +kernel
theorem d_L_law_105 : decode b_L_law 105 = .ok (.lshl, 1) := by decide +kernel
theorem d_L_law_106 : decode b_L_law 106 = .ok (.aload_n 0, 1) := by decide +kernel
theorem d_L_law_107 : decode b_L_law 107 = .ok (.iload_n 3, 1) := by decide +kernel
theorem d_L_law_108 : decode b_L_law 108 = .ok (.iconst 2, 1) := by decide +kernel
theorem d_L_law_109 : decode b_L_law 109 = .ok (.iadd, 1) := by decide +kernel
theorem d_L_law_110 : decode b_L_law 110 = .ok (.iaload, 1) := by decide +kernel
theorem d_L_law_111 : decode b_L_law 111 = .ok (.i2l, 1) := by decide +kernel
theorem d_L_law_112 : decode b_L_law 112 = .ok (.ldc2_w 21, 3) := by decide +kernel
theorem d_L_law_115 : decode b_L_law 115 = .ok (.land, 1) := by decide +kernel
theorem d_L_law_116 : decode b_L_law 116 = .ok (.lor, 1) := by decide +kernel
theorem d_L_law_117 : decode b_L_law 117 = .ok (.invokevirtual 23, 3) := by decide +kernel
theorem d_L_law_120 : decode b_L_law 120 = .ok (.aload_n 2, 1) := by decide +kernel
theorem d_L_law_121 : decode b_L_law 121 = .ok (.aload_n 0, 1) := by decide +kernel
theorem d_L_law_122 : decode b_L_law 122 = .ok (.iload_n 3, 1) := by decide +kernel
theorem d_L_law_123 : decode b_L_law 123 = .ok (.iconst 1, 1) := by decide +kernel
theorem d_L_law_124 : decode b_L_law 124 = .ok (.iadd, 1) := by decide +kernel
theorem d_L_law_125 : decode b_L_law 125 = .ok (.iaload, 1) := by decide +kernel
theorem d_L_law_126 : decode b_L_law 126 = .ok (.i2l, 1) := by decide +kernel
theorem d_L_law_127 : decode b_L_law 127 = .ok (.bipush 32, 2) := by decide +kernel
theorem d_L_law_129 : decode b_L_law 129 = .ok (.lshl, 1) := by decide +kernel
theorem d_L_law_130 : decode b_L_law 130 = .ok (.aload_n 0, 1) := by decide +kernel
theorem d_L_law_131 : decode b_L_law 131 = .ok (.iload_n 3, 1) := by decide +kernel
theorem d_L_law_132 : decode b_L_law 132 = .ok (.iconst 2, 1) := by decide +kernel
theorem d_L_law_133 : decode b_L_law 133 = .ok (.iadd, 1) := by decide +kernel
theorem d_L_law_134 : decode b_L_law 134 = .ok (.iaload, 1) := by decide +kernel
theorem d_L_law_135 : decode b_L_law 135 = .ok (.i2l, 1) := by decide +kernel
theorem d_L_law_136 : decode b_L_law 136 = .ok (.ldc2_w 21, 3) := by decide +kernel
theorem d_L_law_139 : decode b_L_law 139 = .ok (.land, 1) := by decide +kernel
theorem d_L_law_140 : decode b_L_law 140 = .ok (.lor, 1) := by decide +kernel
theorem d_L_law_141 : decode b_L_law 141 = .ok (.invokevirtual 27, 3) := by decide +kernel
theorem d_L_law_144 : decode b_L_law 144 = .ok (.lcmp, 1) := by decide +kernel
theorem d_L_law_145 : decode b_L_law 145 = .ok (.ifCond .eq 308, 3) := by decide +kernel
theorem d_L_law_148 : decode b_L_law 148 = .ok (.iconst 0, 1) := by decide +kernel
theorem d_L_law_149 : decode b_L_law 149 = .ok (.ireturn, 1) := by decide +kernel
theorem d_L_law_150 : decode b_L_law 150 = .ok (.aload_n 1, 1) := by decide +kernel
theorem d_L_law_151 : decode b_L_law 151 = .ok (.aload_n 0, 1) := by decide +kernel
theorem d_L_law_152 : decode b_L_law 152 = .ok (.iload_n 3, 1) := by decide +kernel
theorem d_L_law_153 : decode b_L_law 153 = .ok (.iconst 1, 1) := by decide +kernel
theorem d_L_law_154 : decode b_L_law 154 = .ok (.iadd, 1) := by decide +kernel
theorem d_L_law_155 : decode b_L_law 155 = .ok (.iaload, 1) := by decide +kernel
theorem d_L_law_156 : decode b_L_law 156 = .ok (.aload_n 0, 1) := by decide +kernel
theorem d_L_law_157 : decode b_L_law 157 = .ok (.iload_n 3, 1) := by decide +kernel
theorem d_L_law_158 : decode b_L_law 158 = .ok (.iconst 2, 1) := by decide +kernel
theorem d_L_law_159 : decode b_L_law 159 = .ok (.iadd, 1) := by decide +kernel
theorem d_L_law_160 : decode b_L_law 160 = .ok (.iaload, 1) := by decide +kernel
theorem d_L_law_161 : decode b_L_law 161 = .ok (.invokevirtual 28, 3) := by decide +kernel
theorem d_L_law_164 : decode b_L_law 164 = .ok (.aload_n 2, 1) := by decide +kernel
theorem d_L_law_165 : decode b_L_law 165 = .ok (.aload_n 0, 1) := by decide +kernel
theorem d_L_law_166 : decode b_L_law 166 = .ok (.iload_n 3, 1) := by decide +kernel
theorem d_L_law_167 : decode b_L_law 167 = .ok (.iconst 1, 1) := by decide +kernel
theorem d_L_law_168 : decode b_L_law 168 = .ok (.iadd, 1) := by decide +kernel
theorem d_L_law_169 : decode b_L_law 169 = .ok (.iaload, 1) := by decide +kernel
theorem d_L_law_170 : decode b_L_law 170 = .ok (.aload_n 0, 1) := by decide +kernel
theorem d_L_law_171 : decode b_L_law 171 = .ok (.iload_n 3, 1) := by decide +kernel
theorem d_L_law_172 : decode b_L_law 172 = .ok (.iconst 2, 1) := by decide +kernel
theorem d_L_law_173 : decode b_L_law 173 = .ok (.iadd, 1) := by decide +kernel
theorem d_L_law_174 : decode b_L_law 174 = .ok (.iaload, 1) := by decide +kernel
theorem d_L_law_175 : decode b_L_law 175 = .ok (.invokevirtual 32, 3) := by decide +kernel
theorem d_L_law_178 : decode b_L_law 178 = .ok (.if_icmp .eq 275, 3) := by decide +kernel
theorem d_L_law_181 : decode b_L_law 181 = .ok (.iconst 0, 1) := by decide +kernel
theorem d_L_law_182 : decode b_L_law 182 = .ok (.ireturn, 1) := by decide +kernel
theorem d_L_law_183 : decode b_L_law 183 = .ok (.aload_n 1, 1) := by decide +kernel
theorem d_L_law_184 : decode b_L_law 184 = .ok (.aload_n 0, 1) := by decide +kernel
theorem d_L_law_185 : decode b_L_law 185 = .ok (.iload_n 3, 1) := by decide +kernel
theorem d_L_law_186 : decode b_L_law 186 = .ok (.iconst 1, 1) := by decide +kernel
theorem d_L_law_187 : decode b_L_law 187 = .ok (.iadd, 1) := by decide +kernel
theorem d_L_law_188 : decode b_L_law 188 = .ok (.iaload, 1) := by decide +kernel
theorem d_L_law_189 : decode b_L_law 189 = .ok (.aload_n 0, 1) := by decide +kernel
theorem d_L_law_190 : decode b_L_law 190 = .ok (.iload_n 3, 1) := by decide +kernel
theorem d_L_law_191 : decode b_L_law 191 = .ok (.iconst 2, 1) := by decide +kernel
theorem d_L_law_192 : decode b_L_law 192 = .ok (.iadd, 1) := by decide +kernel
theorem d_L_law_193 : decode b_L_law 193 = .ok (.iaload, 1) := by decide +kernel
theorem d_L_law_194 : decode b_L_law 194 = .ok (.invokevirtual 33, 3) := by decide +kernel
theorem d_L_law_197 : decode b_L_law 197 = .ok (.aload_n 2, 1) := by decide +kernel
theorem d_L_law_198 : decode b_L_law 198 = .ok (.aload_n 0, 1) := by decide +kernel
theorem d_L_law_199 : decode b_L_law 199 = .ok (.iload_n 3, 1) := by decide +kernel
theorem d_L_law_200 : decode b_L_law 200 = .ok (.iconst 1, 1) := by decide +kernel
theorem d_L_law_201 : decode b_L_law 201 = .ok (.iadd, 1) := by decide +kernel
theorem d_L_law_202 : decode b_L_law 202 = .ok (.iaload, 1) := by decide +kernel
theorem d_L_law_203 : decode b_L_law 203 = .ok (.aload_n 0, 1) := by decide +kernel
theorem d_L_law_204 : decode b_L_law 204 = .ok (.iload_n 3, 1) := by decide +kernel
theorem d_L_law_205 : decode b_L_law 205 = .ok (.iconst 2, 1) := by decide +kernel
theorem d_L_law_206 : decode b_L_law 206 = .ok (.iadd, 1) := by decide +kernel
theorem d_L_law_207 : decode b_L_law 207 = .ok (.iaload, 1) := by decide +kernel
theorem d_L_law_208 : decode b_L_law 208 = .ok (.invokevirtual 36, 3) := by decide +kernel
theorem d_L_law_211 : decode b_L_law 211 = .ok (.if_icmp .eq 242, 3) := by decide +kernel
theorem d_L_law_214 : decode b_L_law 214 = .ok (.iconst 0, 1) := by decide +kernel
theorem d_L_law_215 : decode b_L_law 215 = .ok (.ireturn, 1) := by decide +kernel
theorem d_L_law_216 : decode b_L_law 216 = .ok (.aload_n 1, 1) := by decide +kernel
theorem d_L_law_217 : decode b_L_law 217 = .ok (.aload_n 0, 1) := by decide +kernel
theorem d_L_law_218 : decode b_L_law 218 = .ok (.iload_n 3, 1) := by decide +kernel
theorem d_L_law_219 : decode b_L_law 219 = .ok (.iconst 1, 1) := by decide +kernel
theorem d_L_law_220 : decode b_L_law 220 = .ok (.iadd, 1) := by decide +kernel
theorem d_L_law_221 : decode b_L_law 221 = .ok (.iaload, 1) := by decide +kernel
theorem d_L_law_222 : decode b_L_law 222 = .ok (.aload_n 0, 1) := by decide +kernel
theorem d_L_law_223 : decode b_L_law 223 = .ok (.iload_n 3, 1) := by decide +kernel
theorem d_L_law_224 : decode b_L_law 224 = .ok (.iconst 2, 1) := by decide +kernel
theorem d_L_law_225 : decode b_L_law 225 = .ok (.iadd, 1) := by decide +kernel
theorem d_L_law_226 : decode b_L_law 226 = .ok (.iaload, 1) := by decide +kernel
theorem d_L_law_227 : decode b_L_law 227 = .ok (.aload_n 0, 1) := by decide +kernel
theorem d_L_law_228 : decode b_L_law 228 = .ok (.iload_n 3, 1) := by decide +kernel
theorem d_L_law_229 : decode b_L_law 229 = .ok (.iconst 3, 1) := by decide +kernel
theorem d_L_law_230 : decode b_L_law 230 = .ok (.iadd, 1) := by decide +kernel
theorem d_L_law_231 : decode b_L_law 231 = .ok (.iaload, 1) := by decide +kernel
theorem d_L_law_232 : decode b_L_law 232 = .ok (.invokevirtual 37, 3) := by decide +kernel
theorem d_L_law_235 : decode b_L_law 235 = .ok (.aload_n 2, 1) := by decide +kernel
theorem d_L_law_236 : decode b_L_law 236 = .ok (.aload_n 0, 1) := by decide +kernel
theorem d_L_law_237 : decode b_L_law 237 = .ok (.iload_n 3, 1) := by decide +kernel
theorem d_L_law_238 : decode b_L_law 238 = .ok (.iconst 1, 1) := by decide +kernel
theorem d_L_law_239 : decode b_L_law 239 = .ok (.iadd, 1) := by decide +kernel
theorem d_L_law_240 : decode b_L_law 240 = .ok (.iaload, 1) := by decide +kernel
theorem d_L_law_241 : decode b_L_law 241 = .ok (.aload_n 0, 1) := by decide +kernel
theorem d_L_law_242 : decode b_L_law 242 = .ok (.iload_n 3, 1) := by decide +kernel
theorem d_L_law_243 : decode b_L_law 243 = .ok (.iconst 2, 1) := by decide +kernel
theorem d_L_law_244 : decode b_L_law 244 = .ok (.iadd, 1) := by decide +kernel
theorem d_L_law_245 : decode b_L_law 245 = .ok (.iaload, 1) := by decide +kernel
theorem d_L_law_246 : decode b_L_law 246 = .ok (.aload_n 0, 1) := by decide +kernel
theorem d_L_law_247 : decode b_L_law 247 = .ok (.iload_n 3, 1) := by decide +kernel
theorem d_L_law_248 : decode b_L_law 248 = .ok (.iconst 3, 1) := by decide +kernel
theorem d_L_law_249 : decode b_L_law 249 = .ok (.iadd, 1) := by decide +kernel
theorem d_L_law_250 : decode b_L_law 250 = .ok (.iaload, 1) := by decide +kernel
theorem d_L_law_251 : decode b_L_law 251 = .ok (.invokevirtual 41, 3) := by decide +kernel
theorem d_L_law_254 : decode b_L_law 254 = .ok (.if_icmp .eq 199, 3) := by decide +kernel
theorem d_L_law_257 : decode b_L_law 257 = .ok (.iconst 0, 1) := by decide +kernel
theorem d_L_law_258 : decode b_L_law 258 = .ok (.ireturn, 1) := by decide +kernel
theorem d_L_law_259 : decode b_L_law 259 = .ok (.aload_n 1, 1) := by decide +kernel
theorem d_L_law_260 : decode b_L_law 260 = .ok (.aload_n 0, 1) := by decide +kernel
theorem d_L_law_261 : decode b_L_law 261 = .ok (.iload_n 3, 1) := by decide +kernel
theorem d_L_law_262 : decode b_L_law 262 = .ok (.iconst 1, 1) := by decide +kernel
theorem d_L_law_263 : decode b_L_law 263 = .ok (.iadd, 1) := by decide +kernel
theorem d_L_law_264 : decode b_L_law 264 = .ok (.iaload, 1) := by decide +kernel
theorem d_L_law_265 : decode b_L_law 265 = .ok (.aload_n 0, 1) := by decide +kernel
theorem d_L_law_266 : decode b_L_law 266 = .ok (.iload_n 3, 1) := by decide +kernel
theorem d_L_law_267 : decode b_L_law 267 = .ok (.iconst 2, 1) := by decide +kernel
theorem d_L_law_268 : decode b_L_law 268 = .ok (.iadd, 1) := by decide +kernel
theorem d_L_law_269 : decode b_L_law 269 = .ok (.iaload, 1) := by decide +kernel
theorem d_L_law_270 : decode b_L_law 270 = .ok (.ifCond .eq 7, 3) := by decide +kernel
theorem d_L_law_273 : decode b_L_law 273 = .ok (.iconst 1, 1) := by decide +kernel
theorem d_L_law_274 : decode b_L_law 274 = .ok (.goto 4, 3) := by decide +kernel
theorem d_L_law_277 : decode b_L_law 277 = .ok (.iconst 0, 1) := by decide +kernel
theorem d_L_law_278 : decode b_L_law 278 = .ok (.invokevirtual 42, 3) := by decide +kernel
theorem d_L_law_281 : decode b_L_law 281 = .ok (.aload_n 2, 1) := by decide +kernel
theorem d_L_law_282 : decode b_L_law 282 = .ok (.aload_n 0, 1) := by decide +kernel
theorem d_L_law_283 : decode b_L_law 283 = .ok (.iload_n 3, 1) := by decide +kernel
theorem d_L_law_284 : decode b_L_law 284 = .ok (.iconst 1, 1) := by decide +kernel
theorem d_L_law_285 : decode b_L_law 285 = .ok (.iadd, 1) := by decide +kernel
theorem d_L_law_286 : decode b_L_law 286 = .ok (.iaload, 1) := by decide +kernel
theorem d_L_law_287 : decode b_L_law 287 = .ok (.aload_n 0, 1) := by decide +kernel
theorem d_L_law_288 : decode b_L_law 288 = .ok (.iload_n 3, 1) := by decide +kernel
theorem d_L_law_289 : decode b_L_law 289 = .ok (.iconst 2, 1) := by decide +kernel
theorem d_L_law_290 : decode b_L_law 290 = .ok (.iadd, 1) := by decide +kernel
theorem d_L_law_291 : decode b_L_law 291 = .ok (.iaload, 1) := by decide +kernel
theorem d_L_law_292 : decode b_L_law 292 = .ok (.ifCond .eq 7, 3) := by decide +kernel
theorem d_L_law_295 : decode b_L_law 295 = .ok (.iconst 1, 1) := by decide +kernel
theorem d_L_law_296 : decode b_L_law 296 = .ok (.goto 4, 3) := by decide +kernel
theorem d_L_law_299 : decode b_L_law 299 = .ok (.iconst 0, 1) := by decide +kernel
theorem d_L_law_300 : decode b_L_law 300 = .ok (.invokevirtual 46, 3) := by decide +kernel
theorem d_L_law_303 : decode b_L_law 303 = .ok (.if_icmp .eq 150, 3) := by decide +kernel
theorem d_L_law_306 : decode b_L_law 306 = .ok (.iconst 0, 1) := by decide +kernel
theorem d_L_law_307 : decode b_L_law 307 = .ok (.ireturn, 1) := by decide +kernel
theorem d_L_law_308 : decode b_L_law 308 = .ok (.aload_n 1, 1) := by decide +kernel
theorem d_L_law_309 : decode b_L_law 309 = .ok (.invokevirtual 47, 3) := by decide +kernel
theorem d_L_law_312 : decode b_L_law 312 = .ok (.aload_n 2, 1) := by decide +kernel
theorem d_L_law_313 : decode b_L_law 313 = .ok (.invokevirtual 51, 3) := by decide +kernel
theorem d_L_law_316 : decode b_L_law 316 = .ok (.if_icmp .eq 137, 3) := by decide +kernel
theorem d_L_law_319 : decode b_L_law 319 = .ok (.iconst 0, 1) := by decide +kernel
theorem d_L_law_320 : decode b_L_law 320 = .ok (.ireturn, 1) := by decide +kernel
theorem d_L_law_321 : decode b_L_law 321 = .ok (.aload_n 1, 1) := by decide +kernel
theorem d_L_law_322 : decode b_L_law 322 = .ok (.aload_n 0, 1) := by decide +kernel
theorem d_L_law_323 : decode b_L_law 323 = .ok (.iload_n 3, 1) := by decide +kernel
theorem d_L_law_324 : decode b_L_law 324 = .ok (.iconst 1, 1) := by decide +kernel
theorem d_L_law_325 : decode b_L_law 325 = .ok (.iadd, 1) := by decide +kernel
theorem d_L_law_326 : decode b_L_law 326 = .ok (.iaload, 1) := by decide +kernel
theorem d_L_law_327 : decode b_L_law 327 = .ok (.invokevirtual 52, 3) := by decide +kernel
theorem d_L_law_330 : decode b_L_law 330 = .ok (.aload_n 2, 1) := by decide +kernel
theorem d_L_law_331 : decode b_L_law 331 = .ok (.aload_n 0, 1) := by decide +kernel
theorem d_L_law_332 : decode b_L_law 332 = .ok (.iload_n 3, 1) := by decide +kernel
theorem d_L_law_333 : decode b_L_law 333 = .ok (.iconst 1, 1) := by decide +kernel
theorem d_L_law_334 : decode b_L_law 334 = .ok (.iadd, 1) := by decide +kernel
theorem d_L_law_335 : decode b_L_law 335 = .ok (.iaload, 1) := by decide +kernel
theorem d_L_law_336 : decode b_L_law 336 = .ok (.invokevirtual 56, 3) := by decide +kernel
theorem d_L_law_339 : decode b_L_law 339 = .ok (.if_icmp .eq 114, 3) := by decide +kernel
theorem d_L_law_342 : decode b_L_law 342 = .ok (.iconst 0, 1) := by decide +kernel
theorem d_L_law_343 : decode b_L_law 343 = .ok (.ireturn, 1) := by decide +kernel
theorem d_L_law_344 : decode b_L_law 344 = .ok (.aload_n 1, 1) := by decide +kernel
theorem d_L_law_345 : decode b_L_law 345 = .ok (.invokevirtual 57, 3) := by decide +kernel
theorem d_L_law_348 : decode b_L_law 348 = .ok (.aload_n 2, 1) := by decide +kernel
theorem d_L_law_349 : decode b_L_law 349 = .ok (.invokevirtual 61, 3) := by decide +kernel
theorem d_L_law_352 : decode b_L_law 352 = .ok (.if_icmp .eq 101, 3) := by decide +kernel
theorem d_L_law_355 : decode b_L_law 355 = .ok (.iconst 0, 1) := by decide +kernel
theorem d_L_law_356 : decode b_L_law 356 = .ok (.ireturn, 1) := by decide +kernel
theorem d_L_law_357 : decode b_L_law 357 = .ok (.aload_n 1, 1) := by decide +kernel
theorem d_L_law_358 : decode b_L_law 358 = .ok (.aload_n 0, 1) := by decide +kernel
theorem d_L_law_359 : decode b_L_law 359 = .ok (.iload_n 3, 1) := by decide +kernel
theorem d_L_law_360 : decode b_L_law 360 = .ok (.iconst 1, 1) := by decide +kernel
theorem d_L_law_361 : decode b_L_law 361 = .ok (.iadd, 1) := by decide +kernel
theorem d_L_law_362 : decode b_L_law 362 = .ok (.iaload, 1) := by decide +kernel
theorem d_L_law_363 : decode b_L_law 363 = .ok (.invokevirtual 62, 3) := by decide +kernel
theorem d_L_law_366 : decode b_L_law 366 = .ok (.aload_n 2, 1) := by decide +kernel
theorem d_L_law_367 : decode b_L_law 367 = .ok (.aload_n 0, 1) := by decide +kernel
theorem d_L_law_368 : decode b_L_law 368 = .ok (.iload_n 3, 1) := by decide +kernel
theorem d_L_law_369 : decode b_L_law 369 = .ok (.iconst 1, 1) := by decide +kernel
theorem d_L_law_370 : decode b_L_law 370 = .ok (.iadd, 1) := by decide +kernel
theorem d_L_law_371 : decode b_L_law 371 = .ok (.iaload, 1) := by decide +kernel
theorem d_L_law_372 : decode b_L_law 372 = .ok (.invokevirtual 66, 3) := by decide +kernel
theorem d_L_law_375 : decode b_L_law 375 = .ok (.if_icmp .eq 78, 3) := by decide +kernel
theorem d_L_law_378 : decode b_L_law 378 = .ok (.iconst 0, 1) := by decide +kernel
theorem d_L_law_379 : decode b_L_law 379 = .ok (.ireturn, 1) := by decide +kernel
theorem d_L_law_380 : decode b_L_law 380 = .ok (.aload_n 1, 1) := by decide +kernel
theorem d_L_law_381 : decode b_L_law 381 = .ok (.aload_n 0, 1) := by decide +kernel
theorem d_L_law_382 : decode b_L_law 382 = .ok (.iload_n 3, 1) := by decide +kernel
theorem d_L_law_383 : decode b_L_law 383 = .ok (.iconst 1, 1) := by decide +kernel
theorem d_L_law_384 : decode b_L_law 384 = .ok (.iadd, 1) := by decide +kernel
theorem d_L_law_385 : decode b_L_law 385 = .ok (.iaload, 1) := by decide +kernel
theorem d_L_law_386 : decode b_L_law 386 = .ok (.i2l, 1) := by decide +kernel
theorem d_L_law_387 : decode b_L_law 387 = .ok (.bipush 32, 2) := by decide +kernel
theorem d_L_law_389 : decode b_L_law 389 = .ok (.lshl, 1) := by decide +kernel
theorem d_L_law_390 : decode b_L_law 390 = .ok (.aload_n 0, 1) := by decide +kernel
theorem d_L_law_391 : decode b_L_law 391 = .ok (.iload_n 3, 1) := by decide +kernel
theorem d_L_law_392 : decode b_L_law 392 = .ok (.iconst 2, 1) := by decide +kernel
theorem d_L_law_393 : decode b_L_law 393 = .ok (.iadd, 1) := by decide +kernel
theorem d_L_law_394 : decode b_L_law 394 = .ok (.iaload, 1) := by decide +kernel
theorem d_L_law_395 : decode b_L_law 395 = .ok (.i2l, 1) := by decide +kernel
theorem d_L_law_396 : decode b_L_law 396 = .ok (.ldc2_w 21, 3) := by decide +kernel
theorem d_L_law_399 : decode b_L_law 399 = .ok (.land, 1) := by decide +kernel
theorem d_L_law_400 : decode b_L_law 400 = .ok (.lor, 1) := by decide +kernel
theorem d_L_law_401 : decode b_L_law 401 = .ok (.aload_n 0, 1) := by decide +kernel
theorem d_L_law_402 : decode b_L_law 402 = .ok (.iload_n 3, 1) := by decide +kernel
theorem d_L_law_403 : decode b_L_law 403 = .ok (.iconst 3, 1) := by decide +kernel
theorem d_L_law_404 : decode b_L_law 404 = .ok (.iadd, 1) := by decide +kernel
theorem d_L_law_405 : decode b_L_law 405 = .ok (.iaload, 1) := by decide +kernel
theorem d_L_law_406 : decode b_L_law 406 = .ok (.aload_n 0, 1) := by decide +kernel
theorem d_L_law_407 : decode b_L_law 407 = .ok (.iload_n 3, 1) := by decide +kernel
theorem d_L_law_408 : decode b_L_law 408 = .ok (.iconst 4, 1) := by decide +kernel
theorem d_L_law_409 : decode b_L_law 409 = .ok (.iadd, 1) := by decide +kernel
theorem d_L_law_410 : decode b_L_law 410 = .ok (.iaload, 1) := by decide +kernel
theorem d_L_law_411 : decode b_L_law 411 = .ok (.invokevirtual 67, 3) := by decide +kernel
theorem d_L_law_414 : decode b_L_law 414 = .ok (.aload_n 2, 1) := by decide +kernel
theorem d_L_law_415 : decode b_L_law 415 = .ok (.aload_n 0, 1) := by decide +kernel
theorem d_L_law_416 : decode b_L_law 416 = .ok (.iload_n 3, 1) := by decide +kernel
theorem d_L_law_417 : decode b_L_law 417 = .ok (.iconst 1, 1) := by decide +kernel
theorem d_L_law_418 : decode b_L_law 418 = .ok (.iadd, 1) := by decide +kernel
theorem d_L_law_419 : decode b_L_law 419 = .ok (.iaload, 1) := by decide +kernel
theorem d_L_law_420 : decode b_L_law 420 = .ok (.i2l, 1) := by decide +kernel
theorem d_L_law_421 : decode b_L_law 421 = .ok (.bipush 32, 2) := by decide +kernel
theorem d_L_law_423 : decode b_L_law 423 = .ok (.lshl, 1) := by decide +kernel
theorem d_L_law_424 : decode b_L_law 424 = .ok (.aload_n 0, 1) := by decide +kernel
theorem d_L_law_425 : decode b_L_law 425 = .ok (.iload_n 3, 1) := by decide +kernel
theorem d_L_law_426 : decode b_L_law 426 = .ok (.iconst 2, 1) := by decide +kernel
theorem d_L_law_427 : decode b_L_law 427 = .ok (.iadd, 1) := by decide +kernel
theorem d_L_law_428 : decode b_L_law 428 = .ok (.iaload, 1) := by decide +kernel
theorem d_L_law_429 : decode b_L_law 429 = .ok (.i2l, 1) := by decide +kernel
theorem d_L_law_430 : decode b_L_law 430 = .ok (.ldc2_w 21, 3) := by decide +kernel
theorem d_L_law_433 : decode b_L_law 433 = .ok (.land, 1) := by decide +kernel
theorem d_L_law_434 : decode b_L_law 434 = .ok (.lor, 1) := by decide +kernel
theorem d_L_law_435 : decode b_L_law 435 = .ok (.aload_n 0, 1) := by decide +kernel
theorem d_L_law_436 : decode b_L_law 436 = .ok (.iload_n 3, 1) := by decide +kernel
theorem d_L_law_437 : decode b_L_law 437 = .ok (.iconst 3, 1) := by decide +kernel
theorem d_L_law_438 : decode b_L_law 438 = .ok (.iadd, 1) := by decide +kernel
theorem d_L_law_439 : decode b_L_law 439 = .ok (.iaload, 1) := by decide +kernel
theorem d_L_law_440 : decode b_L_law 440 = .ok (.aload_n 0, 1) := by decide +kernel
theorem d_L_law_441 : decode b_L_law 441 = .ok (.iload_n 3, 1) := by decide +kernel
theorem d_L_law_442 : decode b_L_law 442 = .ok (.iconst 4, 1) := by decide +kernel
theorem d_L_law_443 : decode b_L_law 443 = .ok (.iadd, 1) := by decide +kernel
theorem d_L_law_444 : decode b_L_law 444 = .ok (.iaload, 1) := by decide +kernel
theorem d_L_law_445 : decode b_L_law 445 = .ok (.invokevirtual 71, 3) := by decide +kernel
theorem d_L_law_448 : decode b_L_law 448 = .ok (.if_icmp .eq 5, 3) := by decide +kernel
theorem d_L_law_451 : decode b_L_law 451 = .ok (.iconst 0, 1) := by decide +kernel
theorem d_L_law_452 : decode b_L_law 452 = .ok (.ireturn, 1) := by decide +kernel
theorem d_L_law_453 : decode b_L_law 453 = .ok (.iinc 3 5, 3) := by decide +kernel
theorem d_L_law_456 : decode b_L_law 456 = .ok (.goto (-428), 3) := by decide +kernel
theorem d_L_law_459 : decode b_L_law 459 = .ok (.iconst 1, 1) := by decide +kernel
theorem d_L_law_460 : decode b_L_law 460 = .ok (.ireturn, 1) := by decide +kernel
end
section
/-! one list of words for all methods: the tables' words that every caller may hand on -/
def TG : List Cond := lw_tbl.filter goodWord
theorem tg_in {w : Cond} (h : w ∈ lw_tbl) (hg : goodWord w = true) : w ∈ TG := List.mem_filter.mpr ⟨h, hg⟩
theorem tg_good {w : Cond} (h : w ∈ TG) : (w.onTables && w.keeps) = true ∨ ∃ ty, w = .arrayClass ty := good_of_word (List.mem_filter.mp h).2
theorem tg_G {cy : Cond} (h : cy ∈ TG) : GoodIn TG (cy :: TG) := by
  intro w hw
  rcases List.mem_cons.mp hw with rfl | hw
  · exact ⟨h, tg_good h⟩
  · exact ⟨hw, tg_good hw⟩
theorem tg_all {ws : List Cond} (h : ∀ w ∈ ws, w ∈ TG) : GoodIn TG ws := fun w hw => ⟨h w hw, tg_good (h w hw)⟩
/-- the words of a virtual call, of a static one, of a constructor's -/
def CV (own : String) (idx : Nat) (C : String) (y : MethodName) (bytes : ByteArray) (maxL : Nat) (ret : Option FieldType) (n : Nat) : Prop :=
  Cond.methodLink own idx y ∈ TG ∧ Cond.instanceMethod y ∈ TG ∧ Cond.selects C y y ∈ TG ∧ Cond.initialized C ∈ TG ∧ Cond.code y bytes maxL ret ∈ TG ∧
  (y.cls = C ∧ y.cls ≠ "java/lang/invoke/MethodHandle" ∧ y.cls ≠ "java/lang/invoke/VarHandle" ∧ (parseMethodDescriptor y.desc).map (fun d => d.parameters.length) = some n)
def CS (own : String) (idx : Nat) (y : MethodName) (bytes : ByteArray) (maxL : Nat) (ret : Option FieldType) (n : Nat) : Prop :=
  Cond.methodLink own idx y ∈ TG ∧ Cond.static y ∈ TG ∧ Cond.initialized y.cls ∈ TG ∧ Cond.code y bytes maxL ret ∈ TG ∧
  (y.cls ≠ "java/lang/invoke/MethodHandle" ∧ y.cls ≠ "java/lang/invoke/VarHandle" ∧ (parseMethodDescriptor y.desc).map (fun d => d.parameters.length) = some n)
def CI (own : String) (idx : Nat) (y : MethodName) (bytes : ByteArray) (maxL : Nat) (n : Nat) : Prop :=
  Cond.methodLink own idx y ∈ TG ∧ Cond.instanceMethod y ∈ TG ∧ Cond.initialized y.cls ∈ TG ∧ Cond.code y bytes maxL none ∈ TG ∧ y.name = "<init>" ∧
  (y.cls ≠ "java/lang/invoke/MethodHandle" ∧ y.cls ≠ "java/lang/invoke/VarHandle" ∧ (parseMethodDescriptor y.desc).map (fun d => d.parameters.length) = some n)
theorem tg_V {own : String} {idx : Nat} {C : String} {y : MethodName} {bytes : ByteArray} {maxL : Nat} {ret : Option FieldType} {n : Nat} (h : CV own idx C y bytes maxL ret n) : GoodIn TG (wsV own idx C y (Cond.code y bytes maxL ret :: TG)) := by
  obtain ⟨h1, h2, h3, h4, h5, -⟩ := h
  refine tg_all (fun w hw => ?_)
  unfold wsV at hw
  rcases List.mem_append.mp hw with hw | hw
  · simp only [List.mem_cons, List.not_mem_nil, or_false] at hw
    rcases hw with rfl | rfl | rfl | rfl
    · exact h1
    · exact h2
    · exact h3
    · exact h4
  · rcases List.mem_cons.mp hw with rfl | hw
    · exact h5
    · exact hw
theorem tg_S {own : String} {idx : Nat} {y : MethodName} {bytes : ByteArray} {maxL : Nat} {ret : Option FieldType} {n : Nat} (h : CS own idx y bytes maxL ret n) : GoodIn TG (va_wsS own idx y (Cond.code y bytes maxL ret :: TG)) := by
  obtain ⟨h1, h2, h3, h4, -⟩ := h
  refine tg_all (fun w hw => ?_)
  unfold va_wsS at hw
  rcases List.mem_append.mp hw with hw | hw
  · simp only [List.mem_cons, List.not_mem_nil, or_false] at hw
    rcases hw with rfl | rfl | rfl
    · exact h1
    · exact h2
    · exact h3
  · rcases List.mem_cons.mp hw with rfl | hw
    · exact h4
    · exact hw
/-- what a reading method that answers a long leaves -/
def QcReadL (r : Int64) : Array Value → State → Outcome → State → Prop := fun _ st o t => o = .returned (some (.long r)) ∧ t.heap = st.heap
/-- the words of nest mates' private members: no caller can hand them on as words, so the contracts' starts carry them -/
def isNest : Cond → Bool
  | .fieldLinkNest .. => true
  | .methodLinkNest .. => true
  | _ => false
def NW (U : State) : Prop := ∀ w ∈ lw_tbl, isNest w = true → va_Nw w U
theorem NW.warm {s U : State} (hW : s.WarmedH U.vm) (h : NW s) : NW U := by
  intro w hw hn
  have h1 := h w hw hn
  cases w with
  | fieldLinkNest a i b n d o => exact h1.warmF hW
  | methodLinkNest a i x o => exact h1.warmM hW
  | _ => cases hn
theorem NW.same {s U : State} (hv : s.vm = U.vm) (h : NW s) : NW U := by
  intro w hw hn
  have h1 := h w hw hn
  cases w with
  | fieldLinkNest a i b n d o => exact h1.same rfl hv
  | methodLinkNest a i x o => exact h1.same rfl hv
  | _ => cases hn
/-- the tables of one run: classes' numbers and slots; the array classes of long, int, boolean -/
abbrev GT : Type := va_G × ClassId × ClassId × ClassId
def KN (G : GT) (U : State) : Prop := va_K G.1 classes [(G.2.1, .long), (G.2.2.1, .int), (G.2.2.2, .boolean)] U ∧ NW U
theorem KN.warm {G : GT} {s U : State} (hW : s.WarmedH U.vm) (h : KN G s) : KN G U := ⟨va_K.moved hW.alike h.1, h.2.warm hW⟩
/-- a contract's start: the arguments, the heap, the tables -/
def PC (G : GT) (H : Heap) (av : List Value) : Array Value → State → Prop := va_Pc av (fun U => U.heap = H ∧ KN G U)
theorem PC.blind {G : GT} {H : Heap} {av : List Value} : FrameBlind (PC G H av) := by
  intro a U g mk h
  obtain ⟨h0, h1, h2, h3⟩ := h
  exact ⟨h0, h1, va_K.moved (u := U) (U := U.calling g mk a) (Vm.Alike.refl U.vm) h2, h3.same (s := U) (U := U.calling g mk a) rfl⟩
section PCalls
variable {p : Program} {l : Launch} {e : Env} {R : Room} {s : State} {m : MethodId} {args : Array Value} {below : List Frame} {meth : Method} {c : Code} {H : Heap} {locs : List Loc} {cells slots : Nat} {Q : State → Prop}
variable {pc : Nat} {ls : Array Slot} {rest st0 : List Value} {a : Array Value} {cc : ByteArray} {nL index n maxL : Nat} {own C host : String} {y : MethodName} {bytes : ByteArray} {ret : Option FieldType} {rm : Room} {G : GT} {b : Nat} {As : List Value}
theorem pr_i {r : Int32} (hr : va_Run p l e R s m args below meth c H locs cells slots 0 0 (F0 m pc ls st0) rest (QcRead r a) (fun _ => False)) (kk : W p l e R s m args below meth c H locs cells slots Q (F0 m (pc + 3) ls (.int r :: rest))) : W p l e R s m args below meth c H locs cells slots Q (F0 m pc ls st0) := by
  intro T hT X
  obtain ⟨v, st₀, t, T', L, h0, X', hL, e1, -, ⟨hv, hh⟩, st⟩ := hr T hT X
  cases hv
  obtain ⟨t2, a1, b1⟩ := kk T' (by rw [e1, hh, h0]) (Stand.forget X' (fun q h => (hL q h).elim))
  exact ⟨t2, st t2 a1, b1⟩
theorem pr_l {r : Int64} (hr : va_Run p l e R s m args below meth c H locs cells slots 0 0 (F0 m pc ls st0) rest (QcReadL r a) (fun _ => False)) (kk : W p l e R s m args below meth c H locs cells slots Q (F0 m (pc + 3) ls (.long r :: rest))) : W p l e R s m args below meth c H locs cells slots Q (F0 m pc ls st0) := by
  intro T hT X
  obtain ⟨v, st₀, t, T', L, h0, X', hL, e1, -, ⟨hv, hh⟩, st⟩ := hr T hT X
  cases hv
  obtain ⟨t2, a1, b1⟩ := kk T' (by rw [e1, hh, h0]) (Stand.forget X' (fun q h => (hL q h).elim))
  exact ⟨t2, st t2 a1, b1⟩
/-- a call: virtual; static; a nest mate's -/
theorem ru_V {Qc : Array Value → State → Outcome → State → Prop} {free : Addr → Prop} {mc ms : Nat} (S : CallFix p m c cc nL s args TG own) (hKN : KN G s)
    (hM : Met l y (Cond.code y bytes maxL ret :: TG) rm (PC G H (.ref b :: As)) Qc mc ms free) (hc : CV own index C y bytes maxL ret n) (hrm : rm.cells = mc ∧ rm.slots = ms)
    (hR : rm.frames + 1 ≤ R.frames ∧ 8 + (maxL + 11) + rm.locals ≤ R.locals) (hb : ∃ cell : Cell, H[b]? = some cell ∧ cell.vm.isStatics = false ∧ s.vm.findClass C = some cell.cls)
    (hn : As.length = n) (hsz : ls.size = nL) (hst : st0 = As.reverse ++ .ref b :: rest) (hcat : (rest.map fun v => v.category).sum ≤ 8) (hdg : decode cc pc = .ok (.invokevirtual index, 3)) (hf : cells + mc ≤ R.cells ∧ slots + ms ≤ R.slots) :
    va_Run p l e R s m args below meth c H locs cells slots mc ms (F0 m pc ls st0) rest (Qc (Value.ref b :: As).toArray) free :=
  va_runV (g := F0 m pc ls st0) S hM (cwV n S.2.2.2.2 (tg_V hc) rfl hrm.1 hrm.2 hc.2.2.2.2.2 hR) ⟨PC.blind, hb, fun U hU hW => ⟨rfl, hU, hKN.warm hW⟩⟩ rfl hn hsz hst (lv_room hcat) hdg hf
theorem ru_S {Qc : Array Value → State → Outcome → State → Prop} {free : Addr → Prop} {mc ms : Nat} (S : CallFix p m c cc nL s args TG own) (hKN : KN G s)
    (hM : Met l y (Cond.code y bytes maxL ret :: TG) rm (PC G H As) Qc mc ms free) (hc : CS own index y bytes maxL ret n) (hrm : rm.cells = mc ∧ rm.slots = ms)
    (hR : rm.frames + 1 ≤ R.frames ∧ 8 + (maxL + 11) + rm.locals ≤ R.locals)
    (hn : As.length = n) (hsz : ls.size = nL) (hst : st0 = As.reverse ++ rest) (hcat : (rest.map fun v => v.category).sum ≤ 8) (hdg : decode cc pc = .ok (.invokestatic index, 3)) (hf : cells + mc ≤ R.cells ∧ slots + ms ≤ R.slots) :
    va_Run p l e R s m args below meth c H locs cells slots mc ms (F0 m pc ls st0) rest (Qc As.toArray) free :=
  va_runS (g := F0 m pc ls st0) S hM (va_cwS n S.2.2.2.2 (tg_S hc) rfl hrm.1 hrm.2 hc.2.2.2.2 hR) ⟨PC.blind, fun U hU hW => ⟨rfl, hU, hKN.warm hW⟩⟩ rfl hn hsz hst (lv_room hcat) hdg hf
theorem ru_I {Qc : Array Value → State → Outcome → State → Prop} {free : Addr → Prop} {mc ms : Nat} (S : CallFix p m c cc nL s args TG own) (hKN : KN G s)
    (hM : Met l y (Cond.code y bytes maxL none :: TG) rm (PC G H (.ref b :: As)) Qc mc ms free) (hc : CI own index y bytes maxL n) (hrm : rm.cells = mc ∧ rm.slots = ms)
    (hR : rm.frames + 1 ≤ R.frames ∧ 8 + (maxL + 11) + rm.locals ≤ R.locals)
    (hn : As.length = n) (hsz : ls.size = nL) (hst : st0 = As.reverse ++ .ref b :: rest) (hcat : (rest.map fun v => v.category).sum ≤ 8) (hdg : decode cc pc = .ok (.invokespecial index, 3)) (hf : cells + mc ≤ R.cells ∧ slots + ms ≤ R.slots) :
    va_Run p l e R s m args below meth c H locs cells slots mc ms (F0 m pc ls st0) rest (Qc (Value.ref b :: As).toArray) free :=
  va_runI (g := F0 m pc ls st0) S hM (cwI n S.2.2.2.2 (tg_G hc.2.2.2.1) rfl hrm.1 hrm.2 (S.2.2.2.2 _ hc.2.2.1) (S.2.2.2.2 _ hc.1) (S.2.2.2.2 _ hc.2.1) hc.2.2.2.2.1 hc.2.2.2.2.2 hR) ⟨PC.blind, fun U hU hW => ⟨rfl, hU, hKN.warm hW⟩⟩ rfl hn hsz hst (lv_room hcat) hdg hf
/-- the words of a nest mate's private method -/
def CNS (own : String) (idx : Nat) (y : MethodName) (host : String) (bytes : ByteArray) (maxL : Nat) (ret : Option FieldType) (n : Nat) : Prop :=
  Cond.methodLinkNest own idx y host ∈ lw_tbl ∧ Cond.static y ∈ TG ∧ Cond.initialized y.cls ∈ TG ∧ Cond.code y bytes maxL ret ∈ TG ∧
  (y.cls ≠ "java/lang/invoke/MethodHandle" ∧ y.cls ≠ "java/lang/invoke/VarHandle" ∧ (parseMethodDescriptor y.desc).map (fun d => d.parameters.length) = some n)
def CNI (own : String) (idx : Nat) (y : MethodName) (host : String) (bytes : ByteArray) (maxL : Nat) (n : Nat) : Prop :=
  Cond.methodLinkNest own idx y host ∈ lw_tbl ∧ Cond.instanceMethod y ∈ TG ∧ Cond.initialized y.cls ∈ TG ∧ Cond.code y bytes maxL none ∈ TG ∧ y.name = "<init>" ∧
  (y.cls ≠ "java/lang/invoke/MethodHandle" ∧ y.cls ≠ "java/lang/invoke/VarHandle" ∧ (parseMethodDescriptor y.desc).map (fun d => d.parameters.length) = some n)
theorem ru_SN {Qc : Array Value → State → Outcome → State → Prop} {free : Addr → Prop} {mc ms : Nat} (S : CallFix p m c cc nL s args TG own) (hKN : KN G s)
    (hM : Met l y (Cond.code y bytes maxL ret :: TG) rm (PC G H As) Qc mc ms free) (hc : CNS own index y host bytes maxL ret n) (hrm : rm.cells = mc ∧ rm.slots = ms)
    (hR : rm.frames + 1 ≤ R.frames ∧ 8 + (maxL + 11) + rm.locals ≤ R.locals)
    (hn : As.length = n) (hsz : ls.size = nL) (hst : st0 = As.reverse ++ rest) (hcat : (rest.map fun v => v.category).sum ≤ 8) (hdg : decode cc pc = .ok (.invokestatic index, 3)) (hf : cells + mc ≤ R.cells ∧ slots + ms ≤ R.slots) :
    va_Run p l e R s m args below meth c H locs cells slots mc ms (F0 m pc ls st0) rest (Qc As.toArray) free :=
  va_runSN (g := F0 m pc ls st0) S hM ⟨va_cnB n S.2.2.2.2 (tg_G hc.2.2.2.1) rfl hrm.1 hrm.2 (hKN.2 _ hc.1 rfl) (S.2.2.2.2 _ hc.2.2.1) hc.2.2.2.2 hR, S.2.2.2.2 _ hc.2.1, trivial⟩ ⟨PC.blind, fun U hU hW => ⟨rfl, hU, hKN.warm hW⟩⟩ rfl hn hsz hst (lv_room hcat) hdg hf
theorem ru_IN {Qc : Array Value → State → Outcome → State → Prop} {free : Addr → Prop} {mc ms : Nat} (S : CallFix p m c cc nL s args TG own) (hKN : KN G s)
    (hM : Met l y (Cond.code y bytes maxL none :: TG) rm (PC G H (.ref b :: As)) Qc mc ms free) (hc : CNI own index y host bytes maxL n) (hrm : rm.cells = mc ∧ rm.slots = ms)
    (hR : rm.frames + 1 ≤ R.frames ∧ 8 + (maxL + 11) + rm.locals ≤ R.locals)
    (hn : As.length = n) (hsz : ls.size = nL) (hst : st0 = As.reverse ++ .ref b :: rest) (hcat : (rest.map fun v => v.category).sum ≤ 8) (hdg : decode cc pc = .ok (.invokespecial index, 3)) (hf : cells + mc ≤ R.cells ∧ slots + ms ≤ R.slots) :
    va_Run p l e R s m args below meth c H locs cells slots mc ms (F0 m pc ls st0) rest (Qc (Value.ref b :: As).toArray) free :=
  va_runIN (g := F0 m pc ls st0) S hM ⟨va_cnB n S.2.2.2.2 (tg_G hc.2.2.2.1) rfl hrm.1 hrm.2 (hKN.2 _ hc.1 rfl) (S.2.2.2.2 _ hc.2.2.1) hc.2.2.2.2.2 hR, hc.2.2.2.2.1, S.2.2.2.2 _ hc.2.1⟩ ⟨PC.blind, fun U hU hW => ⟨rfl, hU, hKN.warm hW⟩⟩ rfl hn hsz hst (lv_room hcat) hdg hf
end PCalls
/-- what a method that writes leaves: its answer, its cells' new contents, nothing else changed -/
def QMv (G : GT) (w1 : va_W) (A : Nat → Prop) : Array Value → State → Outcome → State → Prop := va_Qv (fun _ : Unit => True) (fun _ t => va_P G.1 classes w1 t.heap) A
def QMi (G : GT) (r : Int32) (w1 : va_W) (A : Nat → Prop) : Array Value → State → Outcome → State → Prop := va_Qi (fun r' (_ : Unit) => r' = r) (fun _ t => va_P G.1 classes w1 t.heap) A
def QMl (G : GT) (r : Int64) (w1 : va_W) (A : Nat → Prop) : Array Value → State → Outcome → State → Prop := va_Ql (fun r' (_ : Unit) => r' = r) (fun _ t => va_P G.1 classes w1 t.heap) A
theorem va_D.addr {A : Nat → Prop} {ws ws' : va_W} (h : va_D A ws) (e : ws'.map Prod.fst = ws.map Prod.fst) : va_D A ws' := by
  have key : ∀ (i : Nat) (q : Nat × va_E), ws'[i]? = some q → ∃ q', ws[i]? = some q' ∧ q'.1 = q.1 := by
    intro i q hq
    have h1 : (ws'.map Prod.fst)[i]? = some q.1 := by rw [List.getElem?_map, hq]; rfl
    rw [e, List.getElem?_map] at h1
    cases hw : ws[i]? with
    | none => rw [hw] at h1; cases h1
    | some q' => rw [hw] at h1; exact ⟨q', rfl, Option.some.inj h1⟩
  refine ⟨fun i j p q hp hq hpq => ?_, fun k q hq => ?_⟩
  · obtain ⟨p', a1, a2⟩ := key i p hp
    obtain ⟨q', b1, b2⟩ := key j q hq
    exact h.1 i j p' q' a1 b1 (by rw [a2, b2, hpq])
  · obtain ⟨q', b1, b2⟩ := key k q hq
    rw [← b2]
    exact h.2 k q' b1
section MCalls
variable {p : Program} {l : Launch} {e : Env} {R : Room} {s : State} {m : MethodId} {args : Array Value} {below : List Frame} {meth : Method} {c : Code} {H H0 : Heap} {locs : List Loc} {cells slots mc ms : Nat} {Q : State → Prop}
variable {pc : Nat} {ls : Array Slot} {rest st0 : List Value} {a : Array Value} {G : GT} {A0 : Nat → Prop} {ws wc wr w1 wn : va_W}
/-- behind a call that writes: the world in an order of my own -/
theorem mu_join (hP : va_P G.1 classes ws H) (hD : va_D A0 ws) (isC isR : List Nat) (hC : isC.map (fun i => ws[i]?) = wc.map some) (hR : isR.map (fun i => ws[i]?) = wr.map some) (hn : va_nd isR = true) (hdis : ∀ i ∈ isR, i ∉ isC) (ha : w1.map Prod.fst = wc.map Prod.fst) (hncC : va_nd isC = true)
    (hF : ∀ q, va_A wc H.size q → A0 q) {H1 : Heap} (hk : ∀ q : Nat, q < H.size → ¬ va_A wc H.size q → H1[q]? = H[q]?) (hP1 : va_P G.1 classes w1 H1) (isN : List Nat) (hN : isN.map (fun i => (wr ++ w1)[i]?) = wn.map some) (hnN : va_nd isN = true) : va_P G.1 classes wn H1 ∧ va_D A0 wn := by
  have hD1 : va_D (va_A wc H.size) w1 := (((hD.sub isC hncC hC).self (sz := H.size))).addr ha
  obtain ⟨h1, h2⟩ := va_join hP hD isC isR hC hR hn hdis hk hF hP1 hD1
  refine ⟨fun k q hq => ?_, h2.sub isN hnN hN⟩
  have h3 : (isN.map (fun i => (wr ++ w1)[i]?))[k]? = some (some q) := by rw [hN, List.getElem?_map, hq]; rfl
  rw [List.getElem?_map] at h3
  cases hi : isN[k]? with
  | none => rw [hi] at h3; cases h3
  | some i => rw [hi] at h3; exact h1 i q (Option.some.inj h3)
theorem mu_v (hr : va_Run p l e R s m args below meth c H locs cells slots mc ms (F0 m pc ls st0) rest (QMv G w1 (va_A wc H.size) a) (va_A wc H.size)) (hP : va_P G.1 classes ws H) (hD : va_D A0 ws) (hS : va_S A0 H0 H locs) (hA : ∀ q, H0.size ≤ q → A0 q)
    (isC isR isN : List Nat) (hC : isC.map (fun i => ws[i]?) = wc.map some) (hR : isR.map (fun i => ws[i]?) = wr.map some) (hn : va_nd isR = true ∧ va_nd isC = true ∧ va_nd isN = true) (hdis : ∀ i ∈ isR, i ∉ isC) (ha : w1.map Prod.fst = wc.map Prod.fst) (hN : isN.map (fun i => (wr ++ w1)[i]?) = wn.map some)
    (kk : ∀ (H : Heap) (locs : List Loc), va_P G.1 classes wn H → va_D A0 wn → va_S A0 H0 H locs → W p l e R s m args below meth c H locs (cells + mc) (slots + ms) Q (F0 m (pc + 3) ls rest)) : W p l e R s m args below meth c H locs cells slots Q (F0 m pc ls st0) := by
  have hF := va_free (wc := wc) hD hS hA isC hC
  refine va_callv hr hS (fun q _ h => hF q h) hF (fun u t H1 locs1 ht hvm hw hB hz1 hk1 hS1 => ?_)
  rw [ht] at hB
  obtain ⟨hP1, hD1⟩ := mu_join hP hD isC isR hC hR hn.1 hdis ha hn.2.1 hF hk1 hB isN hN hn.2.2
  exact kk H1 locs1 hP1 hD1 hS1
theorem mu_i {r : Int32} (hr : va_Run p l e R s m args below meth c H locs cells slots mc ms (F0 m pc ls st0) rest (QMi G r w1 (va_A wc H.size) a) (va_A wc H.size)) (hP : va_P G.1 classes ws H) (hD : va_D A0 ws) (hS : va_S A0 H0 H locs) (hA : ∀ q, H0.size ≤ q → A0 q)
    (isC isR isN : List Nat) (hC : isC.map (fun i => ws[i]?) = wc.map some) (hR : isR.map (fun i => ws[i]?) = wr.map some) (hn : va_nd isR = true ∧ va_nd isC = true ∧ va_nd isN = true) (hdis : ∀ i ∈ isR, i ∉ isC) (ha : w1.map Prod.fst = wc.map Prod.fst) (hN : isN.map (fun i => (wr ++ w1)[i]?) = wn.map some)
    (kk : ∀ (H : Heap) (locs : List Loc), va_P G.1 classes wn H → va_D A0 wn → va_S A0 H0 H locs → W p l e R s m args below meth c H locs (cells + mc) (slots + ms) Q (F0 m (pc + 3) ls (.int r :: rest))) : W p l e R s m args below meth c H locs cells slots Q (F0 m pc ls st0) := by
  have hF := va_free (wc := wc) hD hS hA isC hC
  refine va_calli hr hS (fun q _ h => hF q h) hF (fun r' u t H1 locs1 ht hvm hw hB hz1 hk1 hS1 => ?_)
  rw [ht] at hB
  subst hw
  obtain ⟨hP1, hD1⟩ := mu_join hP hD isC isR hC hR hn.1 hdis ha hn.2.1 hF hk1 hB isN hN hn.2.2
  exact kk H1 locs1 hP1 hD1 hS1
theorem mu_l {r : Int64} (hr : va_Run p l e R s m args below meth c H locs cells slots mc ms (F0 m pc ls st0) rest (QMl G r w1 (va_A wc H.size) a) (va_A wc H.size)) (hP : va_P G.1 classes ws H) (hD : va_D A0 ws) (hS : va_S A0 H0 H locs) (hA : ∀ q, H0.size ≤ q → A0 q)
    (isC isR isN : List Nat) (hC : isC.map (fun i => ws[i]?) = wc.map some) (hR : isR.map (fun i => ws[i]?) = wr.map some) (hn : va_nd isR = true ∧ va_nd isC = true ∧ va_nd isN = true) (hdis : ∀ i ∈ isR, i ∉ isC) (ha : w1.map Prod.fst = wc.map Prod.fst) (hN : isN.map (fun i => (wr ++ w1)[i]?) = wn.map some)
    (kk : ∀ (H : Heap) (locs : List Loc), va_P G.1 classes wn H → va_D A0 wn → va_S A0 H0 H locs → W p l e R s m args below meth c H locs (cells + mc) (slots + ms) Q (F0 m (pc + 3) ls (.long r :: rest))) : W p l e R s m args below meth c H locs cells slots Q (F0 m pc ls st0) := by
  have hF := va_free (wc := wc) hD hS hA isC hC
  refine va_calll hr hS (fun q _ h => hF q h) hF (fun r' u t H1 locs1 ht hvm hw hB hz1 hk1 hS1 => ?_)
  rw [ht] at hB
  subst hw
  obtain ⟨hP1, hD1⟩ := mu_join hP hD isC isR hC hR hn.1 hdis ha hn.2.1 hF hk1 hB isN hN hn.2.2
  exact kk H1 locs1 hP1 hD1 hS1
end MCalls
/-! the table of signs, which nobody writes -/
def sgn (j : Nat) : Int32 := ([31599, 11415, 29671, 29647, 23497, 31183, 31215, 29257, 31727, 31695] : List Int32).getD j 0
def ST (t : Nat) (U : State) (H : Heap) : Prop := va_Z "PostDrawer" "SIGNS" "[I" (.ref t) (fun _ => False) U H ∧ va_T .int t 10 (fun j => .int (sgn j)) (fun _ => False) U H
def PCS (G : GT) (H : Heap) (t : Nat) (av : List Value) : Array Value → State → Prop := va_Pc av (fun U => U.heap = H ∧ KN G U ∧ ST t U U.heap)
theorem PCS.blind {G : GT} {H : Heap} {t : Nat} {av : List Value} : FrameBlind (PCS G H t av) := by
  intro a U g mk h
  obtain ⟨h0, h1, ⟨h2, h3⟩, h4, h5⟩ := h
  exact ⟨h0, h1, ⟨va_K.moved (u := U) (U := U.calling g mk a) (Vm.Alike.refl U.vm) h2, h3.same (s := U) (U := U.calling g mk a) rfl⟩, va_Z.moved (u := U) (U := U.calling g mk a) (Vm.Alike.refl U.vm) h4, va_T.moved (u := U) (U := U.calling g mk a) (Vm.Alike.refl U.vm) h5⟩
section SCalls
variable {p : Program} {l : Launch} {e : Env} {R : Room} {s : State} {m : MethodId} {args : Array Value} {below : List Frame} {meth : Method} {c : Code} {H : Heap} {locs : List Loc} {cells slots : Nat} {Q : State → Prop}
variable {pc : Nat} {ls : Array Slot} {rest st0 : List Value} {a : Array Value} {cc : ByteArray} {nL index n maxL : Nat} {own C host : String} {y : MethodName} {bytes : ByteArray} {ret : Option FieldType} {rm : Room} {G : GT} {b tt : Nat} {As : List Value}
theorem ST.at {s U : State} {t : Nat} {H : Heap} (h : ST t s H) (hU : U.heap = H) (hW : s.WarmedH U.vm) : ST t U U.heap := by
  rw [hU]
  exact ⟨h.1.moved hW.alike, h.2.moved hW.alike⟩
theorem ru_SS {Qc : Array Value → State → Outcome → State → Prop} {free : Addr → Prop} {mc ms : Nat} (S : CallFix p m c cc nL s args TG own) (hKN : KN G s) (hST : ST tt s H)
    (hM : Met l y (Cond.code y bytes maxL ret :: TG) rm (PCS G H tt As) Qc mc ms free) (hc : CS own index y bytes maxL ret n) (hrm : rm.cells = mc ∧ rm.slots = ms)
    (hR : rm.frames + 1 ≤ R.frames ∧ 8 + (maxL + 11) + rm.locals ≤ R.locals)
    (hn : As.length = n) (hsz : ls.size = nL) (hst : st0 = As.reverse ++ rest) (hcat : (rest.map fun v => v.category).sum ≤ 8) (hdg : decode cc pc = .ok (.invokestatic index, 3)) (hf : cells + mc ≤ R.cells ∧ slots + ms ≤ R.slots) :
    va_Run p l e R s m args below meth c H locs cells slots mc ms (F0 m pc ls st0) rest (Qc As.toArray) free :=
  va_runS (g := F0 m pc ls st0) S hM (va_cwS n S.2.2.2.2 (tg_S hc) rfl hrm.1 hrm.2 hc.2.2.2.2 hR) ⟨PCS.blind, fun U hU hW => ⟨rfl, hU, hKN.warm hW, hST.at hU hW⟩⟩ rfl hn hsz hst (lv_room hcat) hdg hf
theorem ru_VS {Qc : Array Value → State → Outcome → State → Prop} {free : Addr → Prop} {mc ms : Nat} (S : CallFix p m c cc nL s args TG own) (hKN : KN G s) (hST : ST tt s H)
    (hM : Met l y (Cond.code y bytes maxL ret :: TG) rm (PCS G H tt (.ref b :: As)) Qc mc ms free) (hc : CV own index C y bytes maxL ret n) (hrm : rm.cells = mc ∧ rm.slots = ms)
    (hR : rm.frames + 1 ≤ R.frames ∧ 8 + (maxL + 11) + rm.locals ≤ R.locals) (hb : ∃ cell : Cell, H[b]? = some cell ∧ cell.vm.isStatics = false ∧ s.vm.findClass C = some cell.cls)
    (hn : As.length = n) (hsz : ls.size = nL) (hst : st0 = As.reverse ++ .ref b :: rest) (hcat : (rest.map fun v => v.category).sum ≤ 8) (hdg : decode cc pc = .ok (.invokevirtual index, 3)) (hf : cells + mc ≤ R.cells ∧ slots + ms ≤ R.slots) :
    va_Run p l e R s m args below meth c H locs cells slots mc ms (F0 m pc ls st0) rest (Qc (Value.ref b :: As).toArray) free :=
  va_runV (g := F0 m pc ls st0) S hM (cwV n S.2.2.2.2 (tg_V hc) rfl hrm.1 hrm.2 hc.2.2.2.2.2 hR) ⟨PCS.blind, hb, fun U hU hW => ⟨rfl, hU, hKN.warm hW, hST.at hU hW⟩⟩ rfl hn hsz hst (lv_room hcat) hdg hf
end SCalls
/-- two array classes of one name are one -/
theorem arr_one {D : va_G} {cl : List vw_C} {tys : List (ClassId × FieldType)} {s : State} (h : va_K D cl tys s) (i j : Nat) {c1 c2 : ClassId} {ty : FieldType} (hi : tys[i]? = some (c1, ty)) (hj : tys[j]? = some (c2, ty)) (hp : ty = .long ∨ ty = .int ∨ ty = .boolean) : c1 = c2 := by
  have h1 := (h.2 i _ hi).2
  have h2 := (h.2 j _ hj).2
  rcases hp with rfl | rfl | rfl
  · exact Option.some.inj (Eq.trans (Eq.symm h1) h2)
  · exact Option.some.inj (Eq.trans (Eq.symm h1) h2)
  · exact Option.some.inj (Eq.trans (Eq.symm h1) h2)
/-- what a constructor leaves: cells that it made are among its new world -/
def QN {S : Type} (G : GT) (w1 : S → va_W) (A : Nat → Prop) : Array Value → State → Outcome → State → Prop := va_Qv (fun _ : S => True) (fun q t => va_P G.1 classes (w1 q) t.heap ∧ va_D A (w1 q)) A
theorem mu_n {p : Program} {l : Launch} {e : Env} {R : Room} {s : State} {m : MethodId} {args : Array Value} {below : List Frame} {meth : Method} {c : Code} {H H0 : Heap} {locs : List Loc} {cells slots mc ms : Nat} {Q : State → Prop}
    {pc : Nat} {ls : Array Slot} {rest st0 : List Value} {a : Array Value} {G : GT} {A0 : Nat → Prop} {ws wc wr : va_W} {S : Type} {w1 : S → va_W} (hr : va_Run p l e R s m args below meth c H locs cells slots mc ms (F0 m pc ls st0) rest (QN G w1 (va_A wc H.size) a) (va_A wc H.size)) (hP : va_P G.1 classes ws H) (hD : va_D A0 ws) (hS : va_S A0 H0 H locs) (hA : ∀ q, H0.size ≤ q → A0 q)
    (isC isR : List Nat) (hC : isC.map (fun i => ws[i]?) = wc.map some) (hR : isR.map (fun i => ws[i]?) = wr.map some) (hn : va_nd isR = true) (hdis : ∀ i ∈ isR, i ∉ isC)
    (kk : ∀ (q : S) (H : Heap) (locs : List Loc), va_P G.1 classes (wr ++ w1 q) H → va_D A0 (wr ++ w1 q) → va_S A0 H0 H locs → W p l e R s m args below meth c H locs (cells + mc) (slots + ms) Q (F0 m (pc + 3) ls rest)) : W p l e R s m args below meth c H locs cells slots Q (F0 m pc ls st0) := by
  have hF := va_free (wc := wc) hD hS hA isC hC
  refine va_callv hr hS (fun q _ h => hF q h) hF (fun u t H1 locs1 ht hvm hw hB hz1 hk1 hS1 => ?_)
  obtain ⟨hP1, hD1⟩ := hB
  rw [ht] at hP1
  obtain ⟨h1, h2⟩ := va_join hP hD isC isR hC hR hn hdis hk1 hF hP1 hD1
  exact kk u H1 locs1 h1 h2 hS1
/-! the script, which nobody writes -/
def PCX (G : GT) (H : Heap) (b L : Nat) (xs : Nat → Int32) (av : List Value) : Array Value → State → Prop := va_Pc av (fun U => U.heap = H ∧ KN G U ∧ va_X b L xs U U.heap)
theorem PCX.blind {G : GT} {H : Heap} {b L : Nat} {xs : Nat → Int32} {av : List Value} : FrameBlind (PCX G H b L xs av) := by
  intro a U g mk h
  obtain ⟨h0, h1, ⟨h2, h3⟩, h4⟩ := h
  exact ⟨h0, h1, ⟨va_K.moved (u := U) (U := U.calling g mk a) (Vm.Alike.refl U.vm) h2, h3.same (s := U) (U := U.calling g mk a) rfl⟩, va_X.moved (u := U) (U := U.calling g mk a) (Vm.Alike.refl U.vm) h4⟩
theorem ru_SX {p : Program} {l : Launch} {e : Env} {R : Room} {s : State} {m : MethodId} {args : Array Value} {below : List Frame} {meth : Method} {c : Code} {H : Heap} {locs : List Loc} {cells slots : Nat}
    {pc : Nat} {ls : Array Slot} {rest st0 : List Value} {cc : ByteArray} {nL index n maxL : Nat} {own : String} {y : MethodName} {bytes : ByteArray} {ret : Option FieldType} {rm : Room} {G : GT} {b L : Nat} {xs : Nat → Int32} {As : List Value}
    {Qc : Array Value → State → Outcome → State → Prop} {free : Addr → Prop} {mc ms : Nat} (S : CallFix p m c cc nL s args TG own) (hKN : KN G s) (hX : va_X b L xs s H)
    (hM : Met l y (Cond.code y bytes maxL ret :: TG) rm (PCX G H b L xs As) Qc mc ms free) (hc : CS own index y bytes maxL ret n) (hrm : rm.cells = mc ∧ rm.slots = ms)
    (hR : rm.frames + 1 ≤ R.frames ∧ 8 + (maxL + 11) + rm.locals ≤ R.locals)
    (hn : As.length = n) (hsz : ls.size = nL) (hst : st0 = As.reverse ++ rest) (hcat : (rest.map fun v => v.category).sum ≤ 8) (hdg : decode cc pc = .ok (.invokestatic index, 3)) (hf : cells + mc ≤ R.cells ∧ slots + ms ≤ R.slots) :
    va_Run p l e R s m args below meth c H locs cells slots mc ms (F0 m pc ls st0) rest (Qc As.toArray) free :=
  va_runS (g := F0 m pc ls st0) S hM (va_cwS n S.2.2.2.2 (tg_S hc) rfl hrm.1 hrm.2 hc.2.2.2.2 hR) ⟨PCX.blind, fun U hU hW => ⟨rfl, hU, hKN.warm hW, by rw [hU]; exact hX.moved hW.alike⟩⟩ rfl hn hsz hst (lv_room hcat) hdg hf
end
section
theorem in_P : ∀ w ∈ u_ws R_P F_P 6, w ∈ TG := by
  intro w hw
  obtain ⟨k, hk, rfl⟩ := List.mem_map.mp hw
  have hk := List.mem_range.mp hk
  rcases (show k = 0 ∨ k = 1 ∨ k = 2 ∨ k = 3 ∨ k = 4 ∨ k = 5 by omega) with rfl | rfl | rfl | rfl | rfl | rfl
  · exact (tg_in (List.mem_append_right _ (List.mem_of_getElem? (i := 67) rfl)) rfl)
  · exact (tg_in (List.mem_append_right _ (List.mem_of_getElem? (i := 69) rfl)) rfl)
  · exact (tg_in (List.mem_append_right _ (List.mem_of_getElem? (i := 71) rfl)) rfl)
  · exact (tg_in (List.mem_append_right _ (List.mem_of_getElem? (i := 73) rfl)) rfl)
  · exact (tg_in (List.mem_append_right _ (List.mem_of_getElem? (i := 75) rfl)) rfl)
  · exact (tg_in (List.mem_append_right _ (List.mem_of_getElem? (i := 77) rfl)) rfl)
theorem in_D : ∀ w ∈ u_ws R_D F_D 5, w ∈ TG := by
  intro w hw
  obtain ⟨k, hk, rfl⟩ := List.mem_map.mp hw
  have hk := List.mem_range.mp hk
  rcases (show k = 0 ∨ k = 1 ∨ k = 2 ∨ k = 3 ∨ k = 4 by omega) with rfl | rfl | rfl | rfl | rfl
  · exact (tg_in (List.mem_append_right _ (List.mem_of_getElem? (i := 30) rfl)) rfl)
  · exact (tg_in (List.mem_append_right _ (List.mem_of_getElem? (i := 32) rfl)) rfl)
  · exact (tg_in (List.mem_append_right _ (List.mem_of_getElem? (i := 34) rfl)) rfl)
  · exact (tg_in (List.mem_append_right _ (List.mem_of_getElem? (i := 36) rfl)) rfl)
  · exact (tg_in (List.mem_append_right _ (List.mem_of_getElem? (i := 38) rfl)) rfl)
theorem in_V : ∀ w ∈ u_ws R_V F_V 3, w ∈ TG := by
  intro w hw
  obtain ⟨k, hk, rfl⟩ := List.mem_map.mp hw
  have hk := List.mem_range.mp hk
  rcases (show k = 0 ∨ k = 1 ∨ k = 2 by omega) with rfl | rfl | rfl
  · exact (tg_in (List.mem_append_right _ (List.mem_of_getElem? (i := 52) rfl)) rfl)
  · exact (tg_in (List.mem_append_right _ (List.mem_of_getElem? (i := 54) rfl)) rfl)
  · exact (tg_in (List.mem_append_right _ (List.mem_of_getElem? (i := 56) rfl)) rfl)
theorem in_M : ∀ w ∈ u_ws R_M F_M 10, w ∈ TG := by
  intro w hw
  obtain ⟨k, hk, rfl⟩ := List.mem_map.mp hw
  have hk := List.mem_range.mp hk
  rcases (show k = 0 ∨ k = 1 ∨ k = 2 ∨ k = 3 ∨ k = 4 ∨ k = 5 ∨ k = 6 ∨ k = 7 ∨ k = 8 ∨ k = 9 by omega) with rfl | rfl | rfl | rfl | rfl | rfl | rfl | rfl | rfl | rfl
  · exact (tg_in (List.mem_append_right _ (List.mem_of_getElem? (i := 245) rfl)) rfl)
  · exact (tg_in (List.mem_append_right _ (List.mem_of_getElem? (i := 247) rfl)) rfl)
  · exact (tg_in (List.mem_append_right _ (List.mem_of_getElem? (i := 249) rfl)) rfl)
  · exact (tg_in (List.mem_append_right _ (List.mem_of_getElem? (i := 251) rfl)) rfl)
  · exact (tg_in (List.mem_append_right _ (List.mem_of_getElem? (i := 253) rfl)) rfl)
  · exact (tg_in (List.mem_append_right _ (List.mem_of_getElem? (i := 255) rfl)) rfl)
  · exact (tg_in (List.mem_append_right _ (List.mem_of_getElem? (i := 257) rfl)) rfl)
  · exact (tg_in (List.mem_append_right _ (List.mem_of_getElem? (i := 259) rfl)) rfl)
  · exact (tg_in (List.mem_append_right _ (List.mem_of_getElem? (i := 261) rfl)) rfl)
  · exact (tg_in (List.mem_append_right _ (List.mem_of_getElem? (i := 263) rfl)) rfl)
theorem kf_D_23 : Cond.fieldLink R_D 23 "PostDrawer$Drawing" "count" "I" ∈ TG := (tg_in (List.mem_append_right _ (List.mem_of_getElem? (i := 26) rfl)) rfl)
theorem kc_D_46 : CV R_D 46 R_D y_D_has b_D_has 2 (some .boolean) 1 := ⟨(tg_in (List.mem_append_right _ (List.mem_of_getElem? (i := 120) rfl)) rfl), (tg_in (List.mem_append_right _ (List.mem_of_getElem? (i := 121) rfl)) rfl), (tg_in (List.mem_append_right _ (List.mem_of_getElem? (i := 122) rfl)) rfl), (tg_in (List.mem_append_right _ (List.mem_of_getElem? (i := 2) rfl)) rfl), (tg_in (List.mem_append_right _ (List.mem_of_getElem? (i := 123) rfl)) rfl), rfl, by decide +kernel, by decide +kernel, by decide +kernel⟩
theorem kf_D_26 : Cond.fieldLink R_D 26 "PostDrawer$Drawing" "faultBits" "I" ∈ TG := (tg_in (List.mem_append_right _ (List.mem_of_getElem? (i := 28) rfl)) rfl)
theorem kf_D_9 : Cond.fieldLink R_D 9 "PostDrawer$Drawing" "numbers" "[J" ∈ TG := (tg_in (List.mem_append_right _ (List.mem_of_getElem? (i := 21) rfl)) rfl)
theorem kl_D_50 : Cond.constantLong R_D 50 2 ∈ TG := (tg_in (List.mem_append_right _ (List.mem_of_getElem? (i := 146) rfl)) rfl)
theorem kl_D_52 : Cond.constantLong R_D 52 50 ∈ TG := (tg_in (List.mem_append_right _ (List.mem_of_getElem? (i := 147) rfl)) rfl)
theorem kl_D_54 : Cond.constantLong R_D 54 1000 ∈ TG := (tg_in (List.mem_append_right _ (List.mem_of_getElem? (i := 148) rfl)) rfl)
theorem kl_D_56 : Cond.constantLong R_D 56 24 ∈ TG := (tg_in (List.mem_append_right _ (List.mem_of_getElem? (i := 149) rfl)) rfl)
theorem kl_D_68 : Cond.constantLong R_D 68 (-9223372036854775808) ∈ TG := (tg_in (List.mem_append_right _ (List.mem_of_getElem? (i := 124) rfl)) rfl)
theorem kl_P_123 : Cond.constantLong R_P 123 64 ∈ TG := (tg_in (List.mem_append_right _ (List.mem_of_getElem? (i := 104) rfl)) rfl)
theorem kl_P_125 : Cond.constantLong R_P 125 (-7046029254386353131) ∈ TG := (tg_in (List.mem_append_right _ (List.mem_of_getElem? (i := 105) rfl)) rfl)
theorem kl_P_127 : Cond.constantLong R_P 127 (-4658895280553007687) ∈ TG := (tg_in (List.mem_append_right _ (List.mem_of_getElem? (i := 106) rfl)) rfl)
theorem kl_P_129 : Cond.constantLong R_P 129 (-7723592293110705685) ∈ TG := (tg_in (List.mem_append_right _ (List.mem_of_getElem? (i := 107) rfl)) rfl)
theorem kc_D_62 : CV R_D 62 R_D y_D_isAbove b_D_isAbove 7 (some .boolean) 2 := ⟨(tg_in (List.mem_append_right _ (List.mem_of_getElem? (i := 116) rfl)) rfl), (tg_in (List.mem_append_right _ (List.mem_of_getElem? (i := 118) rfl)) rfl), (tg_in (List.mem_append_left _ (by decide +kernel)) rfl), (tg_in (List.mem_append_right _ (List.mem_of_getElem? (i := 2) rfl)) rfl), (tg_in (List.mem_append_right _ (List.mem_of_getElem? (i := 119) rfl)) rfl), rfl, by decide +kernel, by decide +kernel, by decide +kernel⟩
theorem kc_D_58 : CV R_D 58 R_D y_D_countAbove b_D_countAbove 4 (some .int) 1 := ⟨(tg_in (List.mem_append_right _ (List.mem_of_getElem? (i := 112) rfl)) rfl), (tg_in (List.mem_append_right _ (List.mem_of_getElem? (i := 114) rfl)) rfl), (tg_in (List.mem_append_left _ (by decide +kernel)) rfl), (tg_in (List.mem_append_right _ (List.mem_of_getElem? (i := 2) rfl)) rfl), (tg_in (List.mem_append_right _ (List.mem_of_getElem? (i := 115) rfl)) rfl), rfl, by decide +kernel, by decide +kernel, by decide +kernel⟩
theorem kf_V_19 : Cond.fieldLink R_V 19 "PostDrawer$Verdicts" "count" "I" ∈ TG := (tg_in (List.mem_append_right _ (List.mem_of_getElem? (i := 50) rfl)) rfl)
theorem kf_V_9 : Cond.fieldLink R_V 9 "PostDrawer$Verdicts" "sets" "[I" ∈ TG := (tg_in (List.mem_append_right _ (List.mem_of_getElem? (i := 48) rfl)) rfl)
theorem kc_V_23 : CV R_V 23 R_V y_V_find b_V_find 3 (some .int) 1 := ⟨(tg_in (List.mem_append_right _ (List.mem_of_getElem? (i := 177) rfl)) rfl), (tg_in (List.mem_append_right _ (List.mem_of_getElem? (i := 179) rfl)) rfl), (tg_in (List.mem_append_left _ (by decide +kernel)) rfl), (tg_in (List.mem_append_right _ (List.mem_of_getElem? (i := 3) rfl)) rfl), (tg_in (List.mem_append_right _ (List.mem_of_getElem? (i := 180) rfl)) rfl), rfl, by decide +kernel, by decide +kernel, by decide +kernel⟩
theorem kf_V_15 : Cond.fieldLink R_V 15 "PostDrawer$Verdicts" "stays" "[Z" ∈ TG := (tg_in (List.mem_append_right _ (List.mem_of_getElem? (i := 49) rfl)) rfl)
theorem kf_D_15 : Cond.fieldLink R_D 15 "PostDrawer$Drawing" "seed" "J" ∈ TG := (tg_in (List.mem_append_right _ (List.mem_of_getElem? (i := 22) rfl)) rfl)
theorem kf_D_19 : Cond.fieldLink R_D 19 "PostDrawer$Drawing" "kind" "I" ∈ TG := (tg_in (List.mem_append_right _ (List.mem_of_getElem? (i := 24) rfl)) rfl)
theorem km_D_29 : Cond.methodLink R_D 29 Lib.Math.min.name ∈ TG := (tg_in (List.mem_append_right _ (List.mem_of_getElem? (i := 95) rfl)) rfl)
theorem kms_min : Cond.static Lib.Math.min.name ∈ TG := (tg_in (List.mem_append_right _ (List.mem_of_getElem? (i := 96) rfl)) rfl)
theorem kmi : Cond.initialized "java/lang/Math" ∈ TG := (tg_in (List.mem_append_right _ (List.mem_of_getElem? (i := 5) rfl)) rfl)
theorem kmc_min : Cond.code Lib.Math.min.name Lib.Math.min.code 2 (some .int) ∈ TG := (tg_in (List.mem_append_right _ (List.mem_of_getElem? (i := 97) rfl)) rfl)
theorem km_D_35 : Cond.methodLink R_D 35 Lib.Math.max.name ∈ TG := (tg_in (List.mem_append_right _ (List.mem_of_getElem? (i := 98) rfl)) rfl)
theorem kms_max : Cond.static Lib.Math.max.name ∈ TG := (tg_in (List.mem_append_right _ (List.mem_of_getElem? (i := 99) rfl)) rfl)
theorem kmc_max : Cond.code Lib.Math.max.name Lib.Math.max.code 2 (some .int) ∈ TG := (tg_in (List.mem_append_right _ (List.mem_of_getElem? (i := 100) rfl)) rfl)
theorem kc_D_42 : CV R_D 42 R_D y_D_greaterHalf b_D_greaterHalf 3 (some .int) 0 := ⟨(tg_in (List.mem_append_right _ (List.mem_of_getElem? (i := 108) rfl)) rfl), (tg_in (List.mem_append_right _ (List.mem_of_getElem? (i := 110) rfl)) rfl), (tg_in (List.mem_append_left _ (by decide +kernel)) rfl), (tg_in (List.mem_append_right _ (List.mem_of_getElem? (i := 2) rfl)) rfl), (tg_in (List.mem_append_right _ (List.mem_of_getElem? (i := 111) rfl)) rfl), rfl, by decide +kernel, by decide +kernel, by decide +kernel⟩
theorem kc_D_38 : CNS R_D 38 y_P_number "PostDrawer" b_P_number 6 (some .long) 3 := ⟨(List.mem_append_right _ (List.mem_of_getElem? (i := 101) rfl)), (tg_in (List.mem_append_right _ (List.mem_of_getElem? (i := 102) rfl)) rfl), (tg_in (List.mem_append_right _ (List.mem_of_getElem? (i := 1) rfl)) rfl), (tg_in (List.mem_append_right _ (List.mem_of_getElem? (i := 103) rfl)) rfl), by decide +kernel, by decide +kernel, by decide +kernel⟩
theorem kf_P_7 : Cond.fieldLink R_P 7 "PostDrawer" "nextSeed" "J" ∈ TG := (tg_in (List.mem_append_right _ (List.mem_of_getElem? (i := 65) rfl)) rfl)
theorem kf_P_20 : Cond.fieldLink R_P 20 "PostDrawer" "drawn" "LPostDrawer$Drawing;" ∈ TG := (tg_in (List.mem_append_right _ (List.mem_of_getElem? (i := 61) rfl)) rfl)
theorem kc_P_55 : CV R_P 55 R_D y_D_has b_D_has 2 (some .boolean) 1 := ⟨(tg_in (List.mem_append_right _ (List.mem_of_getElem? (i := 137) rfl)) rfl), (tg_in (List.mem_append_right _ (List.mem_of_getElem? (i := 121) rfl)) rfl), (tg_in (List.mem_append_right _ (List.mem_of_getElem? (i := 122) rfl)) rfl), (tg_in (List.mem_append_right _ (List.mem_of_getElem? (i := 2) rfl)) rfl), (tg_in (List.mem_append_right _ (List.mem_of_getElem? (i := 123) rfl)) rfl), rfl, by decide +kernel, by decide +kernel, by decide +kernel⟩
theorem kc_P_62 : CV R_P 62 R_D y_D_fact b_D_fact 5 (some .int) 2 := ⟨(tg_in (List.mem_append_right _ (List.mem_of_getElem? (i := 142) rfl)) rfl), (tg_in (List.mem_append_right _ (List.mem_of_getElem? (i := 143) rfl)) rfl), (tg_in (List.mem_append_right _ (List.mem_of_getElem? (i := 144) rfl)) rfl), (tg_in (List.mem_append_right _ (List.mem_of_getElem? (i := 2) rfl)) rfl), (tg_in (List.mem_append_right _ (List.mem_of_getElem? (i := 145) rfl)) rfl), rfl, by decide +kernel, by decide +kernel, by decide +kernel⟩
theorem kc_P_59 : CV R_P 59 R_D y_D_hasFaults b_D_hasFaults 2 (some .boolean) 1 := ⟨(tg_in (List.mem_append_right _ (List.mem_of_getElem? (i := 138) rfl)) rfl), (tg_in (List.mem_append_right _ (List.mem_of_getElem? (i := 139) rfl)) rfl), (tg_in (List.mem_append_right _ (List.mem_of_getElem? (i := 140) rfl)) rfl), (tg_in (List.mem_append_right _ (List.mem_of_getElem? (i := 2) rfl)) rfl), (tg_in (List.mem_append_right _ (List.mem_of_getElem? (i := 141) rfl)) rfl), rfl, by decide +kernel, by decide +kernel, by decide +kernel⟩
theorem kn_P_66 : Cond.fieldLinkNest R_P 66 "PostDrawer$Drawing" "kind" "I" "PostDrawer" ∈ lw_tbl := (List.mem_append_right _ (List.mem_of_getElem? (i := 25) rfl))
theorem kf_P_13 : Cond.fieldLink R_P 13 "PostDrawer" "leftBits" "I" ∈ TG := (tg_in (List.mem_append_right _ (List.mem_of_getElem? (i := 66) rfl)) rfl)
theorem kf_P_33 : Cond.fieldLink R_P 33 "PostDrawer" "verdicts" "LPostDrawer$Verdicts;" ∈ TG := (tg_in (List.mem_append_right _ (List.mem_of_getElem? (i := 62) rfl)) rfl)
theorem kc_P_89 : CV R_P 89 R_V y_V_stayFor b_V_stayFor 3 (some .boolean) 1 := ⟨(tg_in (List.mem_append_right _ (List.mem_of_getElem? (i := 185) rfl)) rfl), (tg_in (List.mem_append_right _ (List.mem_of_getElem? (i := 186) rfl)) rfl), (tg_in (List.mem_append_right _ (List.mem_of_getElem? (i := 187) rfl)) rfl), (tg_in (List.mem_append_right _ (List.mem_of_getElem? (i := 3) rfl)) rfl), (tg_in (List.mem_append_right _ (List.mem_of_getElem? (i := 188) rfl)) rfl), rfl, by decide +kernel, by decide +kernel, by decide +kernel⟩
theorem kc_P_80 : CV R_P 80 R_D y_D_isEmpty b_D_isEmpty 1 (some .boolean) 0 := ⟨(tg_in (List.mem_append_right _ (List.mem_of_getElem? (i := 169) rfl)) rfl), (tg_in (List.mem_append_right _ (List.mem_of_getElem? (i := 170) rfl)) rfl), (tg_in (List.mem_append_right _ (List.mem_of_getElem? (i := 171) rfl)) rfl), (tg_in (List.mem_append_right _ (List.mem_of_getElem? (i := 2) rfl)) rfl), (tg_in (List.mem_append_right _ (List.mem_of_getElem? (i := 172) rfl)) rfl), rfl, by decide +kernel, by decide +kernel, by decide +kernel⟩
theorem kc_P_101 : CV R_P 101 R_P y_P_canLeaveOut b_P_canLeaveOut 3 (some .boolean) 1 := ⟨(tg_in (List.mem_append_right _ (List.mem_of_getElem? (i := 197) rfl)) rfl), (tg_in (List.mem_append_right _ (List.mem_of_getElem? (i := 199) rfl)) rfl), (tg_in (List.mem_append_left _ (by decide +kernel)) rfl), (tg_in (List.mem_append_right _ (List.mem_of_getElem? (i := 1) rfl)) rfl), (tg_in (List.mem_append_right _ (List.mem_of_getElem? (i := 200) rfl)) rfl), rfl, by decide +kernel, by decide +kernel, by decide +kernel⟩
theorem kc_P_108 : CV R_P 108 R_P y_P_goThrough b_P_goThrough 2 none 0 := ⟨(tg_in (List.mem_append_right _ (List.mem_of_getElem? (i := 193) rfl)) rfl), (tg_in (List.mem_append_right _ (List.mem_of_getElem? (i := 195) rfl)) rfl), (tg_in (List.mem_append_left _ (by decide +kernel)) rfl), (tg_in (List.mem_append_right _ (List.mem_of_getElem? (i := 1) rfl)) rfl), (tg_in (List.mem_append_right _ (List.mem_of_getElem? (i := 196) rfl)) rfl), rfl, by decide +kernel, by decide +kernel, by decide +kernel⟩
theorem kc_P_37 : CS R_P 37 y_P_isDrawable b_P_isDrawable 2 (some .boolean) 2 := ⟨(tg_in (List.mem_append_right _ (List.mem_of_getElem? (i := 88) rfl)) rfl), (tg_in (List.mem_append_right _ (List.mem_of_getElem? (i := 89) rfl)) rfl), (tg_in (List.mem_append_right _ (List.mem_of_getElem? (i := 1) rfl)) rfl), (tg_in (List.mem_append_right _ (List.mem_of_getElem? (i := 90) rfl)) rfl), by decide +kernel, by decide +kernel, by decide +kernel⟩
theorem kc_P_41 : CV R_P 41 R_D y_D_fill b_D_fill 6 none 3 := ⟨(tg_in (List.mem_append_right _ (List.mem_of_getElem? (i := 91) rfl)) rfl), (tg_in (List.mem_append_right _ (List.mem_of_getElem? (i := 92) rfl)) rfl), (tg_in (List.mem_append_right _ (List.mem_of_getElem? (i := 93) rfl)) rfl), (tg_in (List.mem_append_right _ (List.mem_of_getElem? (i := 2) rfl)) rfl), (tg_in (List.mem_append_right _ (List.mem_of_getElem? (i := 94) rfl)) rfl), rfl, by decide +kernel, by decide +kernel, by decide +kernel⟩
theorem kc_P_45 : CV R_P 45 R_D y_D_allBits b_D_allBits 1 (some .int) 0 := ⟨(tg_in (List.mem_append_right _ (List.mem_of_getElem? (i := 125) rfl)) rfl), (tg_in (List.mem_append_right _ (List.mem_of_getElem? (i := 126) rfl)) rfl), (tg_in (List.mem_append_right _ (List.mem_of_getElem? (i := 127) rfl)) rfl), (tg_in (List.mem_append_right _ (List.mem_of_getElem? (i := 2) rfl)) rfl), (tg_in (List.mem_append_right _ (List.mem_of_getElem? (i := 128) rfl)) rfl), rfl, by decide +kernel, by decide +kernel, by decide +kernel⟩
theorem kc_P_49 : CV R_P 49 R_V y_V_forget b_V_forget 1 none 0 := ⟨(tg_in (List.mem_append_right _ (List.mem_of_getElem? (i := 129) rfl)) rfl), (tg_in (List.mem_append_right _ (List.mem_of_getElem? (i := 130) rfl)) rfl), (tg_in (List.mem_append_right _ (List.mem_of_getElem? (i := 131) rfl)) rfl), (tg_in (List.mem_append_right _ (List.mem_of_getElem? (i := 3) rfl)) rfl), (tg_in (List.mem_append_right _ (List.mem_of_getElem? (i := 132) rfl)) rfl), rfl, by decide +kernel, by decide +kernel, by decide +kernel⟩
theorem kn_P_52 : Cond.fieldLinkNest R_P 52 "PostDrawer$Drawing" "count" "I" "PostDrawer" ∈ lw_tbl := (List.mem_append_right _ (List.mem_of_getElem? (i := 27) rfl))
theorem kc_P_84 : CV R_P 84 R_V y_V_tell b_V_tell 4 (some .boolean) 2 := ⟨(tg_in (List.mem_append_right _ (List.mem_of_getElem? (i := 173) rfl)) rfl), (tg_in (List.mem_append_right _ (List.mem_of_getElem? (i := 174) rfl)) rfl), (tg_in (List.mem_append_right _ (List.mem_of_getElem? (i := 175) rfl)) rfl), (tg_in (List.mem_append_right _ (List.mem_of_getElem? (i := 3) rfl)) rfl), (tg_in (List.mem_append_right _ (List.mem_of_getElem? (i := 176) rfl)) rfl), rfl, by decide +kernel, by decide +kernel, by decide +kernel⟩
theorem kn_P_88 : Cond.fieldLinkNest R_P 88 "PostDrawer$Verdicts" "count" "I" "PostDrawer" ∈ lw_tbl := (List.mem_append_right _ (List.mem_of_getElem? (i := 51) rfl))
theorem kn_P_131 : Cond.fieldLinkNest R_P 131 "PostDrawer$Drawing" "faultBits" "I" "PostDrawer" ∈ lw_tbl := (List.mem_append_right _ (List.mem_of_getElem? (i := 29) rfl))
theorem kc_P_115 : CS R_P 115 y_P_number b_P_number 6 (some .long) 3 := ⟨(tg_in (List.mem_append_right _ (List.mem_of_getElem? (i := 162) rfl)) rfl), (tg_in (List.mem_append_right _ (List.mem_of_getElem? (i := 102) rfl)) rfl), (tg_in (List.mem_append_right _ (List.mem_of_getElem? (i := 1) rfl)) rfl), (tg_in (List.mem_append_right _ (List.mem_of_getElem? (i := 103) rfl)) rfl), by decide +kernel, by decide +kernel, by decide +kernel⟩
theorem kl_P_119 : Cond.constantLong R_P 119 2 ∈ TG := (tg_in (List.mem_append_right _ (List.mem_of_getElem? (i := 163) rfl)) rfl)
theorem kl_P_121 : Cond.constantLong R_P 121 33 ∈ TG := (tg_in (List.mem_append_right _ (List.mem_of_getElem? (i := 164) rfl)) rfl)
theorem kf_P_111 : Cond.fieldLink R_P 111 "PostDrawer" "SIGNS" "[I" ∈ TG := (tg_in (List.mem_append_right _ (List.mem_of_getElem? (i := 157) rfl)) rfl)
theorem kc_P_69 : CS R_P 69 y_P_isInked b_P_isInked 4 (some .boolean) 3 := ⟨(tg_in (List.mem_append_right _ (List.mem_of_getElem? (i := 154) rfl)) rfl), (tg_in (List.mem_append_right _ (List.mem_of_getElem? (i := 155) rfl)) rfl), (tg_in (List.mem_append_right _ (List.mem_of_getElem? (i := 1) rfl)) rfl), (tg_in (List.mem_append_right _ (List.mem_of_getElem? (i := 156) rfl)) rfl), by decide +kernel, by decide +kernel, by decide +kernel⟩
theorem kn_P_73 : Cond.fieldLinkNest R_P 73 "PostDrawer$Drawing" "seed" "J" "PostDrawer" ∈ lw_tbl := (List.mem_append_right _ (List.mem_of_getElem? (i := 23) rfl))
theorem kc_P_76 : CS R_P 76 y_P_noise b_P_noise 9 (some .int) 4 := ⟨(tg_in (List.mem_append_right _ (List.mem_of_getElem? (i := 159) rfl)) rfl), (tg_in (List.mem_append_right _ (List.mem_of_getElem? (i := 160) rfl)) rfl), (tg_in (List.mem_append_right _ (List.mem_of_getElem? (i := 1) rfl)) rfl), (tg_in (List.mem_append_right _ (List.mem_of_getElem? (i := 161) rfl)) rfl), by decide +kernel, by decide +kernel, by decide +kernel⟩
theorem km_D_3 : Cond.methodLink R_D 3 Lib.objectInit ∈ TG := (tg_in (List.mem_append_right _ (List.mem_of_getElem? (i := 20) rfl)) rfl)
theorem k_objI : Cond.instanceMethod Lib.objectInit ∈ TG := (tg_in (List.mem_append_right _ (List.mem_of_getElem? (i := 13) rfl)) rfl)
theorem k_objC : Cond.code Lib.objectInit ⟨#[0xb1]⟩ 1 none ∈ TG := (tg_in (List.mem_append_right _ (List.mem_of_getElem? (i := 14) rfl)) rfl)
theorem k_arr_long : Cond.arrayClass .long ∈ TG := (tg_in (List.mem_append_right _ (List.mem_of_getElem? (i := 41) rfl)) rfl)
theorem km_V_3 : Cond.methodLink R_V 3 Lib.objectInit ∈ TG := (tg_in (List.mem_append_right _ (List.mem_of_getElem? (i := 47) rfl)) rfl)
theorem k_arr_int : Cond.arrayClass .int ∈ TG := (tg_in (List.mem_append_right _ (List.mem_of_getElem? (i := 59) rfl)) rfl)
theorem k_arr_boolean : Cond.arrayClass .boolean ∈ TG := (tg_in (List.mem_append_right _ (List.mem_of_getElem? (i := 60) rfl)) rfl)
theorem km_P_1 : Cond.methodLink R_P 1 Lib.objectInit ∈ TG := (tg_in (List.mem_append_right _ (List.mem_of_getElem? (i := 12) rfl)) rfl)
theorem kw_P_17 : Cond.classLink R_P 17 R_D ∈ TG := (tg_in (List.mem_append_right _ (List.mem_of_getElem? (i := 15) rfl)) rfl)
theorem ki_D : Cond.instantiable R_D 5 ∈ TG := (tg_in (List.mem_append_right _ (List.mem_of_getElem? (i := 16) rfl)) rfl)
theorem kz_D : Cond.initialized R_D ∈ TG := (tg_in (List.mem_append_right _ (List.mem_of_getElem? (i := 2) rfl)) rfl)
theorem kc_P_19 : CNI R_P 19 y_D_init "PostDrawer" b_D_init 1 0 := ⟨(List.mem_append_right _ (List.mem_of_getElem? (i := 17) rfl)), (tg_in (List.mem_append_right _ (List.mem_of_getElem? (i := 18) rfl)) rfl), (tg_in (List.mem_append_right _ (List.mem_of_getElem? (i := 2) rfl)) rfl), (tg_in (List.mem_append_right _ (List.mem_of_getElem? (i := 19) rfl)) rfl), rfl, by decide +kernel, by decide +kernel, by decide +kernel⟩
theorem kf_P_24 : Cond.fieldLink R_P 24 "PostDrawer" "ours" "LPostDrawer$Drawing;" ∈ TG := (tg_in (List.mem_append_right _ (List.mem_of_getElem? (i := 63) rfl)) rfl)
theorem kf_P_27 : Cond.fieldLink R_P 27 "PostDrawer" "theirs" "LPostDrawer$Drawing;" ∈ TG := (tg_in (List.mem_append_right _ (List.mem_of_getElem? (i := 64) rfl)) rfl)
theorem kw_P_30 : Cond.classLink R_P 30 R_V ∈ TG := (tg_in (List.mem_append_right _ (List.mem_of_getElem? (i := 42) rfl)) rfl)
theorem ki_V : Cond.instantiable R_V 3 ∈ TG := (tg_in (List.mem_append_right _ (List.mem_of_getElem? (i := 43) rfl)) rfl)
theorem kz_V : Cond.initialized R_V ∈ TG := (tg_in (List.mem_append_right _ (List.mem_of_getElem? (i := 3) rfl)) rfl)
theorem kc_P_32 : CNI R_P 32 y_V_init "PostDrawer" b_V_init 1 0 := ⟨(List.mem_append_right _ (List.mem_of_getElem? (i := 44) rfl)), (tg_in (List.mem_append_right _ (List.mem_of_getElem? (i := 45) rfl)) rfl), (tg_in (List.mem_append_right _ (List.mem_of_getElem? (i := 3) rfl)) rfl), (tg_in (List.mem_append_right _ (List.mem_of_getElem? (i := 46) rfl)) rfl), rfl, by decide +kernel, by decide +kernel, by decide +kernel⟩
theorem kc_P_104 : CS R_P 104 y_P_haveSameParts b_P_haveSameParts 4 (some .boolean) 2 := ⟨(tg_in (List.mem_append_right _ (List.mem_of_getElem? (i := 223) rfl)) rfl), (tg_in (List.mem_append_right _ (List.mem_of_getElem? (i := 224) rfl)) rfl), (tg_in (List.mem_append_right _ (List.mem_of_getElem? (i := 1) rfl)) rfl), (tg_in (List.mem_append_right _ (List.mem_of_getElem? (i := 225) rfl)) rfl), by decide +kernel, by decide +kernel, by decide +kernel⟩
theorem kl_J_265 : Cond.constant R_J 265 1431655765 ∈ TG := (tg_in (List.mem_append_right _ (List.mem_of_getElem? (i := 204) rfl)) rfl)
theorem kl_J_266 : Cond.constant R_J 266 858993459 ∈ TG := (tg_in (List.mem_append_right _ (List.mem_of_getElem? (i := 205) rfl)) rfl)
theorem kl_J_267 : Cond.constant R_J 267 252645135 ∈ TG := (tg_in (List.mem_append_right _ (List.mem_of_getElem? (i := 206) rfl)) rfl)
theorem kc_P_92 : CV R_P 92 R_P y_P_leaveOutAll b_P_leaveOutAll 3 none 0 := ⟨(tg_in (List.mem_append_right _ (List.mem_of_getElem? (i := 189) rfl)) rfl), (tg_in (List.mem_append_right _ (List.mem_of_getElem? (i := 191) rfl)) rfl), (tg_in (List.mem_append_left _ (by decide +kernel)) rfl), (tg_in (List.mem_append_right _ (List.mem_of_getElem? (i := 1) rfl)) rfl), (tg_in (List.mem_append_right _ (List.mem_of_getElem? (i := 192) rfl)) rfl), rfl, by decide +kernel, by decide +kernel, by decide +kernel⟩
theorem kc_P_95 : CS R_P 95 y_J_bitCount b_J_bitCount 1 (some .int) 1 := ⟨(tg_in (List.mem_append_right _ (List.mem_of_getElem? (i := 201) rfl)) rfl), (tg_in (List.mem_append_right _ (List.mem_of_getElem? (i := 202) rfl)) rfl), (tg_in (List.mem_append_right _ (List.mem_of_getElem? (i := 6) rfl)) rfl), (tg_in (List.mem_append_right _ (List.mem_of_getElem? (i := 203) rfl)) rfl), by decide +kernel, by decide +kernel, by decide +kernel⟩
theorem kl_M_28 : Cond.constantLong R_M 28 64 ∈ TG := (tg_in (List.mem_append_right _ (List.mem_of_getElem? (i := 287) rfl)) rfl)
theorem kl_M_30 : Cond.constantLong R_M 30 (-7046029254386353131) ∈ TG := (tg_in (List.mem_append_right _ (List.mem_of_getElem? (i := 288) rfl)) rfl)
theorem kl_M_32 : Cond.constantLong R_M 32 (-4658895280553007687) ∈ TG := (tg_in (List.mem_append_right _ (List.mem_of_getElem? (i := 289) rfl)) rfl)
theorem kl_M_34 : Cond.constantLong R_M 34 (-7723592293110705685) ∈ TG := (tg_in (List.mem_append_right _ (List.mem_of_getElem? (i := 290) rfl)) rfl)
theorem kl_M_36 : Cond.constantLong R_M 36 2 ∈ TG := (tg_in (List.mem_append_right _ (List.mem_of_getElem? (i := 301) rfl)) rfl)
theorem kl_M_38 : Cond.constantLong R_M 38 (-9223372036854775808) ∈ TG := (tg_in (List.mem_append_right _ (List.mem_of_getElem? (i := 294) rfl)) rfl)
theorem kc_M_40 : CS R_M 40 y_M_rest b_M_rest 5 (some .int) 2 := ⟨(tg_in (List.mem_append_right _ (List.mem_of_getElem? (i := 298) rfl)) rfl), (tg_in (List.mem_append_right _ (List.mem_of_getElem? (i := 299) rfl)) rfl), (tg_in (List.mem_append_right _ (List.mem_of_getElem? (i := 4) rfl)) rfl), (tg_in (List.mem_append_right _ (List.mem_of_getElem? (i := 300) rfl)) rfl), by decide +kernel, by decide +kernel, by decide +kernel⟩
theorem kc_M_44 : CS R_M 44 y_M_number b_M_number 6 (some .long) 3 := ⟨(tg_in (List.mem_append_right _ (List.mem_of_getElem? (i := 284) rfl)) rfl), (tg_in (List.mem_append_right _ (List.mem_of_getElem? (i := 285) rfl)) rfl), (tg_in (List.mem_append_right _ (List.mem_of_getElem? (i := 4) rfl)) rfl), (tg_in (List.mem_append_right _ (List.mem_of_getElem? (i := 286) rfl)) rfl), by decide +kernel, by decide +kernel, by decide +kernel⟩
theorem kc_M_48 : CS R_M 48 y_M_isLess b_M_isLess 4 (some .boolean) 2 := ⟨(tg_in (List.mem_append_right _ (List.mem_of_getElem? (i := 291) rfl)) rfl), (tg_in (List.mem_append_right _ (List.mem_of_getElem? (i := 292) rfl)) rfl), (tg_in (List.mem_append_right _ (List.mem_of_getElem? (i := 4) rfl)) rfl), (tg_in (List.mem_append_right _ (List.mem_of_getElem? (i := 293) rfl)) rfl), by decide +kernel, by decide +kernel, by decide +kernel⟩
theorem kf_M_68 : Cond.fieldLink R_M 68 "PostDrawerModel" "sets" "I" ∈ TG := (tg_in (List.mem_append_right _ (List.mem_of_getElem? (i := 241) rfl)) rfl)
theorem kf_M_7 : Cond.fieldLink R_M 7 "PostDrawerModel" "set" "[I" ∈ TG := (tg_in (List.mem_append_right _ (List.mem_of_getElem? (i := 242) rfl)) rfl)
theorem kc_M_78 : CV R_M 78 R_M y_M_placeOf b_M_placeOf 4 (some .int) 1 := ⟨(tg_in (List.mem_append_right _ (List.mem_of_getElem? (i := 310) rfl)) rfl), (tg_in (List.mem_append_right _ (List.mem_of_getElem? (i := 312) rfl)) rfl), (tg_in (List.mem_append_left _ (by decide +kernel)) rfl), (tg_in (List.mem_append_right _ (List.mem_of_getElem? (i := 4) rfl)) rfl), (tg_in (List.mem_append_right _ (List.mem_of_getElem? (i := 313) rfl)) rfl), rfl, by decide +kernel, by decide +kernel, by decide +kernel⟩
theorem kf_M_13 : Cond.fieldLink R_M 13 "PostDrawerModel" "staying" "[Z" ∈ TG := (tg_in (List.mem_append_right _ (List.mem_of_getElem? (i := 243) rfl)) rfl)
theorem kf_M_62 : Cond.fieldLink R_M 62 "PostDrawerModel" "parts" "I" ∈ TG := (tg_in (List.mem_append_right _ (List.mem_of_getElem? (i := 238) rfl)) rfl)
theorem kc_M_82 : CV R_M 82 R_M y_M_stays b_M_stays 3 (some .boolean) 1 := ⟨(tg_in (List.mem_append_right _ (List.mem_of_getElem? (i := 318) rfl)) rfl), (tg_in (List.mem_append_right _ (List.mem_of_getElem? (i := 320) rfl)) rfl), (tg_in (List.mem_append_left _ (by decide +kernel)) rfl), (tg_in (List.mem_append_right _ (List.mem_of_getElem? (i := 4) rfl)) rfl), (tg_in (List.mem_append_right _ (List.mem_of_getElem? (i := 321) rfl)) rfl), rfl, by decide +kernel, by decide +kernel, by decide +kernel⟩
theorem kf_M_24 : Cond.fieldLink R_M 24 "PostDrawerModel" "thrown" "I" ∈ TG := (tg_in (List.mem_append_right _ (List.mem_of_getElem? (i := 235) rfl)) rfl)
theorem kf_M_20 : Cond.fieldLink R_M 20 "PostDrawerModel" "seed" "J" ∈ TG := (tg_in (List.mem_append_right _ (List.mem_of_getElem? (i := 236) rfl)) rfl)
theorem kc_M_52 : CS R_M 52 y_M_in b_M_in 3 (some .boolean) 3 := ⟨(tg_in (List.mem_append_right _ (List.mem_of_getElem? (i := 274) rfl)) rfl), (tg_in (List.mem_append_right _ (List.mem_of_getElem? (i := 275) rfl)) rfl), (tg_in (List.mem_append_right _ (List.mem_of_getElem? (i := 4) rfl)) rfl), (tg_in (List.mem_append_right _ (List.mem_of_getElem? (i := 276) rfl)) rfl), by decide +kernel, by decide +kernel, by decide +kernel⟩
theorem kf_M_56 : Cond.fieldLink R_M 56 "PostDrawerModel" "drawnBy" "J" ∈ TG := (tg_in (List.mem_append_right _ (List.mem_of_getElem? (i := 237) rfl)) rfl)
theorem kf_M_59 : Cond.fieldLink R_M 59 "PostDrawerModel" "kind" "I" ∈ TG := (tg_in (List.mem_append_right _ (List.mem_of_getElem? (i := 239) rfl)) rfl)
theorem kf_M_65 : Cond.fieldLink R_M 65 "PostDrawerModel" "leftBits" "I" ∈ TG := (tg_in (List.mem_append_right _ (List.mem_of_getElem? (i := 240) rfl)) rfl)
theorem kc_M_75 : CS R_M 75 y_M_fact b_M_fact 3 (some .int) 2 := ⟨(tg_in (List.mem_append_right _ (List.mem_of_getElem? (i := 295) rfl)) rfl), (tg_in (List.mem_append_right _ (List.mem_of_getElem? (i := 296) rfl)) rfl), (tg_in (List.mem_append_right _ (List.mem_of_getElem? (i := 4) rfl)) rfl), (tg_in (List.mem_append_right _ (List.mem_of_getElem? (i := 297) rfl)) rfl), by decide +kernel, by decide +kernel, by decide +kernel⟩
theorem kc_M_71 : CS R_M 71 y_M_hasFaults b_M_hasFaults 11 (some .boolean) 4 := ⟨(tg_in (List.mem_append_right _ (List.mem_of_getElem? (i := 281) rfl)) rfl), (tg_in (List.mem_append_right _ (List.mem_of_getElem? (i := 282) rfl)) rfl), (tg_in (List.mem_append_right _ (List.mem_of_getElem? (i := 4) rfl)) rfl), (tg_in (List.mem_append_right _ (List.mem_of_getElem? (i := 283) rfl)) rfl), by decide +kernel, by decide +kernel, by decide +kernel⟩
theorem kc_M_86 : CV R_M 86 R_M y_M_without b_M_without 5 (some .int) 2 := ⟨(tg_in (List.mem_append_right _ (List.mem_of_getElem? (i := 322) rfl)) rfl), (tg_in (List.mem_append_right _ (List.mem_of_getElem? (i := 324) rfl)) rfl), (tg_in (List.mem_append_left _ (by decide +kernel)) rfl), (tg_in (List.mem_append_right _ (List.mem_of_getElem? (i := 4) rfl)) rfl), (tg_in (List.mem_append_right _ (List.mem_of_getElem? (i := 325) rfl)) rfl), rfl, by decide +kernel, by decide +kernel, by decide +kernel⟩
theorem kf_M_17 : Cond.fieldLink R_M 17 "PostDrawerModel" "inks" "[I" ∈ TG := (tg_in (List.mem_append_right _ (List.mem_of_getElem? (i := 244) rfl)) rfl)
theorem kc_M_90 : CS R_M 90 y_M_countOf b_M_countOf 3 (some .int) 1 := ⟨(tg_in (List.mem_append_right _ (List.mem_of_getElem? (i := 326) rfl)) rfl), (tg_in (List.mem_append_right _ (List.mem_of_getElem? (i := 327) rfl)) rfl), (tg_in (List.mem_append_right _ (List.mem_of_getElem? (i := 4) rfl)) rfl), (tg_in (List.mem_append_right _ (List.mem_of_getElem? (i := 328) rfl)) rfl), by decide +kernel, by decide +kernel, by decide +kernel⟩
theorem km_M_1 : Cond.methodLink R_M 1 Lib.objectInit ∈ TG := (tg_in (List.mem_append_right _ (List.mem_of_getElem? (i := 234) rfl)) rfl)
theorem kl_L_21 : Cond.constantLong R_L 21 4294967295 ∈ TG := (tg_in (List.mem_append_right _ (List.mem_of_getElem? (i := 345) rfl)) rfl)
theorem kc_L_23 : CV R_L 23 R_P y_P_seed b_P_seed 5 (some .long) 1 := ⟨(tg_in (List.mem_append_right _ (List.mem_of_getElem? (i := 80) rfl)) rfl), (tg_in (List.mem_append_right _ (List.mem_of_getElem? (i := 81) rfl)) rfl), (tg_in (List.mem_append_right _ (List.mem_of_getElem? (i := 82) rfl)) rfl), (tg_in (List.mem_append_right _ (List.mem_of_getElem? (i := 1) rfl)) rfl), (tg_in (List.mem_append_right _ (List.mem_of_getElem? (i := 83) rfl)) rfl), rfl, by decide +kernel, by decide +kernel, by decide +kernel⟩
theorem kc_L_27 : CV R_L 27 R_M y_M_seed b_M_seed 5 (some .long) 1 := ⟨(tg_in (List.mem_append_right _ (List.mem_of_getElem? (i := 266) rfl)) rfl), (tg_in (List.mem_append_right _ (List.mem_of_getElem? (i := 267) rfl)) rfl), (tg_in (List.mem_append_right _ (List.mem_of_getElem? (i := 268) rfl)) rfl), (tg_in (List.mem_append_right _ (List.mem_of_getElem? (i := 4) rfl)) rfl), (tg_in (List.mem_append_right _ (List.mem_of_getElem? (i := 269) rfl)) rfl), rfl, by decide +kernel, by decide +kernel, by decide +kernel⟩
theorem kc_L_28 : CV R_L 28 R_P y_P_draw b_P_draw 3 (some .int) 2 := ⟨(tg_in (List.mem_append_right _ (List.mem_of_getElem? (i := 84) rfl)) rfl), (tg_in (List.mem_append_right _ (List.mem_of_getElem? (i := 85) rfl)) rfl), (tg_in (List.mem_append_right _ (List.mem_of_getElem? (i := 86) rfl)) rfl), (tg_in (List.mem_append_right _ (List.mem_of_getElem? (i := 1) rfl)) rfl), (tg_in (List.mem_append_right _ (List.mem_of_getElem? (i := 87) rfl)) rfl), rfl, by decide +kernel, by decide +kernel, by decide +kernel⟩
theorem kc_L_32 : CV R_L 32 R_M y_M_draw b_M_draw 3 (some .int) 2 := ⟨(tg_in (List.mem_append_right _ (List.mem_of_getElem? (i := 270) rfl)) rfl), (tg_in (List.mem_append_right _ (List.mem_of_getElem? (i := 271) rfl)) rfl), (tg_in (List.mem_append_right _ (List.mem_of_getElem? (i := 272) rfl)) rfl), (tg_in (List.mem_append_right _ (List.mem_of_getElem? (i := 4) rfl)) rfl), (tg_in (List.mem_append_right _ (List.mem_of_getElem? (i := 273) rfl)) rfl), rfl, by decide +kernel, by decide +kernel, by decide +kernel⟩
theorem kc_L_33 : CV R_L 33 R_P y_P_part b_P_part 3 (some .int) 2 := ⟨(tg_in (List.mem_append_right _ (List.mem_of_getElem? (i := 133) rfl)) rfl), (tg_in (List.mem_append_right _ (List.mem_of_getElem? (i := 134) rfl)) rfl), (tg_in (List.mem_append_right _ (List.mem_of_getElem? (i := 135) rfl)) rfl), (tg_in (List.mem_append_right _ (List.mem_of_getElem? (i := 1) rfl)) rfl), (tg_in (List.mem_append_right _ (List.mem_of_getElem? (i := 136) rfl)) rfl), rfl, by decide +kernel, by decide +kernel, by decide +kernel⟩
theorem kc_L_36 : CV R_L 36 R_M y_M_part b_M_part 3 (some .int) 2 := ⟨(tg_in (List.mem_append_right _ (List.mem_of_getElem? (i := 277) rfl)) rfl), (tg_in (List.mem_append_right _ (List.mem_of_getElem? (i := 278) rfl)) rfl), (tg_in (List.mem_append_right _ (List.mem_of_getElem? (i := 279) rfl)) rfl), (tg_in (List.mem_append_right _ (List.mem_of_getElem? (i := 4) rfl)) rfl), (tg_in (List.mem_append_right _ (List.mem_of_getElem? (i := 280) rfl)) rfl), rfl, by decide +kernel, by decide +kernel, by decide +kernel⟩
theorem kc_L_37 : CV R_L 37 R_P y_P_point b_P_point 5 (some .int) 3 := ⟨(tg_in (List.mem_append_right _ (List.mem_of_getElem? (i := 150) rfl)) rfl), (tg_in (List.mem_append_right _ (List.mem_of_getElem? (i := 151) rfl)) rfl), (tg_in (List.mem_append_right _ (List.mem_of_getElem? (i := 152) rfl)) rfl), (tg_in (List.mem_append_right _ (List.mem_of_getElem? (i := 1) rfl)) rfl), (tg_in (List.mem_append_right _ (List.mem_of_getElem? (i := 153) rfl)) rfl), rfl, by decide +kernel, by decide +kernel, by decide +kernel⟩
theorem kc_L_41 : CV R_L 41 R_M y_M_point b_M_point 6 (some .int) 3 := ⟨(tg_in (List.mem_append_right _ (List.mem_of_getElem? (i := 302) rfl)) rfl), (tg_in (List.mem_append_right _ (List.mem_of_getElem? (i := 303) rfl)) rfl), (tg_in (List.mem_append_right _ (List.mem_of_getElem? (i := 304) rfl)) rfl), (tg_in (List.mem_append_right _ (List.mem_of_getElem? (i := 4) rfl)) rfl), (tg_in (List.mem_append_right _ (List.mem_of_getElem? (i := 305) rfl)) rfl), rfl, by decide +kernel, by decide +kernel, by decide +kernel⟩
theorem kc_L_42 : CV R_L 42 R_P y_P_verdict b_P_verdict 3 (some .int) 2 := ⟨(tg_in (List.mem_append_right _ (List.mem_of_getElem? (i := 165) rfl)) rfl), (tg_in (List.mem_append_right _ (List.mem_of_getElem? (i := 166) rfl)) rfl), (tg_in (List.mem_append_right _ (List.mem_of_getElem? (i := 167) rfl)) rfl), (tg_in (List.mem_append_right _ (List.mem_of_getElem? (i := 1) rfl)) rfl), (tg_in (List.mem_append_right _ (List.mem_of_getElem? (i := 168) rfl)) rfl), rfl, by decide +kernel, by decide +kernel, by decide +kernel⟩
theorem kc_L_46 : CV R_L 46 R_M y_M_verdict b_M_verdict 4 (some .int) 2 := ⟨(tg_in (List.mem_append_right _ (List.mem_of_getElem? (i := 306) rfl)) rfl), (tg_in (List.mem_append_right _ (List.mem_of_getElem? (i := 307) rfl)) rfl), (tg_in (List.mem_append_right _ (List.mem_of_getElem? (i := 308) rfl)) rfl), (tg_in (List.mem_append_right _ (List.mem_of_getElem? (i := 4) rfl)) rfl), (tg_in (List.mem_append_right _ (List.mem_of_getElem? (i := 309) rfl)) rfl), rfl, by decide +kernel, by decide +kernel, by decide +kernel⟩
theorem kc_L_47 : CV R_L 47 R_P y_P_shorter b_P_shorter 1 (some .int) 0 := ⟨(tg_in (List.mem_append_right _ (List.mem_of_getElem? (i := 181) rfl)) rfl), (tg_in (List.mem_append_right _ (List.mem_of_getElem? (i := 182) rfl)) rfl), (tg_in (List.mem_append_right _ (List.mem_of_getElem? (i := 183) rfl)) rfl), (tg_in (List.mem_append_right _ (List.mem_of_getElem? (i := 1) rfl)) rfl), (tg_in (List.mem_append_right _ (List.mem_of_getElem? (i := 184) rfl)) rfl), rfl, by decide +kernel, by decide +kernel, by decide +kernel⟩
theorem kc_L_51 : CV R_L 51 R_M y_M_shorter b_M_shorter 4 (some .int) 0 := ⟨(tg_in (List.mem_append_right _ (List.mem_of_getElem? (i := 314) rfl)) rfl), (tg_in (List.mem_append_right _ (List.mem_of_getElem? (i := 315) rfl)) rfl), (tg_in (List.mem_append_right _ (List.mem_of_getElem? (i := 316) rfl)) rfl), (tg_in (List.mem_append_right _ (List.mem_of_getElem? (i := 4) rfl)) rfl), (tg_in (List.mem_append_right _ (List.mem_of_getElem? (i := 317) rfl)) rfl), rfl, by decide +kernel, by decide +kernel, by decide +kernel⟩
theorem kc_L_52 : CV R_L 52 R_P y_P_left b_P_left 4 (some .int) 1 := ⟨(tg_in (List.mem_append_right _ (List.mem_of_getElem? (i := 207) rfl)) rfl), (tg_in (List.mem_append_right _ (List.mem_of_getElem? (i := 208) rfl)) rfl), (tg_in (List.mem_append_right _ (List.mem_of_getElem? (i := 209) rfl)) rfl), (tg_in (List.mem_append_right _ (List.mem_of_getElem? (i := 1) rfl)) rfl), (tg_in (List.mem_append_right _ (List.mem_of_getElem? (i := 210) rfl)) rfl), rfl, by decide +kernel, by decide +kernel, by decide +kernel⟩
theorem kc_L_56 : CV R_L 56 R_M y_M_left b_M_left 4 (some .int) 1 := ⟨(tg_in (List.mem_append_right _ (List.mem_of_getElem? (i := 329) rfl)) rfl), (tg_in (List.mem_append_right _ (List.mem_of_getElem? (i := 330) rfl)) rfl), (tg_in (List.mem_append_right _ (List.mem_of_getElem? (i := 331) rfl)) rfl), (tg_in (List.mem_append_right _ (List.mem_of_getElem? (i := 4) rfl)) rfl), (tg_in (List.mem_append_right _ (List.mem_of_getElem? (i := 332) rfl)) rfl), rfl, by decide +kernel, by decide +kernel, by decide +kernel⟩
theorem kc_L_57 : CV R_L 57 R_P y_P_minimal b_P_minimal 2 (some .boolean) 0 := ⟨(tg_in (List.mem_append_right _ (List.mem_of_getElem? (i := 211) rfl)) rfl), (tg_in (List.mem_append_right _ (List.mem_of_getElem? (i := 212) rfl)) rfl), (tg_in (List.mem_append_right _ (List.mem_of_getElem? (i := 213) rfl)) rfl), (tg_in (List.mem_append_right _ (List.mem_of_getElem? (i := 1) rfl)) rfl), (tg_in (List.mem_append_right _ (List.mem_of_getElem? (i := 214) rfl)) rfl), rfl, by decide +kernel, by decide +kernel, by decide +kernel⟩
theorem kc_L_61 : CV R_L 61 R_M y_M_minimal b_M_minimal 1 (some .boolean) 0 := ⟨(tg_in (List.mem_append_right _ (List.mem_of_getElem? (i := 333) rfl)) rfl), (tg_in (List.mem_append_right _ (List.mem_of_getElem? (i := 334) rfl)) rfl), (tg_in (List.mem_append_right _ (List.mem_of_getElem? (i := 335) rfl)) rfl), (tg_in (List.mem_append_right _ (List.mem_of_getElem? (i := 4) rfl)) rfl), (tg_in (List.mem_append_right _ (List.mem_of_getElem? (i := 336) rfl)) rfl), rfl, by decide +kernel, by decide +kernel, by decide +kernel⟩
theorem kc_L_62 : CV R_L 62 R_P y_P_faultless b_P_faultless 2 (some .boolean) 1 := ⟨(tg_in (List.mem_append_right _ (List.mem_of_getElem? (i := 215) rfl)) rfl), (tg_in (List.mem_append_right _ (List.mem_of_getElem? (i := 216) rfl)) rfl), (tg_in (List.mem_append_right _ (List.mem_of_getElem? (i := 217) rfl)) rfl), (tg_in (List.mem_append_right _ (List.mem_of_getElem? (i := 1) rfl)) rfl), (tg_in (List.mem_append_right _ (List.mem_of_getElem? (i := 218) rfl)) rfl), rfl, by decide +kernel, by decide +kernel, by decide +kernel⟩
theorem kc_L_66 : CV R_L 66 R_M y_M_faultless b_M_faultless 2 (some .boolean) 1 := ⟨(tg_in (List.mem_append_right _ (List.mem_of_getElem? (i := 337) rfl)) rfl), (tg_in (List.mem_append_right _ (List.mem_of_getElem? (i := 338) rfl)) rfl), (tg_in (List.mem_append_right _ (List.mem_of_getElem? (i := 339) rfl)) rfl), (tg_in (List.mem_append_right _ (List.mem_of_getElem? (i := 4) rfl)) rfl), (tg_in (List.mem_append_right _ (List.mem_of_getElem? (i := 340) rfl)) rfl), rfl, by decide +kernel, by decide +kernel, by decide +kernel⟩
theorem kc_L_67 : CV R_L 67 R_P y_P_same b_P_same 5 (some .boolean) 3 := ⟨(tg_in (List.mem_append_right _ (List.mem_of_getElem? (i := 219) rfl)) rfl), (tg_in (List.mem_append_right _ (List.mem_of_getElem? (i := 220) rfl)) rfl), (tg_in (List.mem_append_right _ (List.mem_of_getElem? (i := 221) rfl)) rfl), (tg_in (List.mem_append_right _ (List.mem_of_getElem? (i := 1) rfl)) rfl), (tg_in (List.mem_append_right _ (List.mem_of_getElem? (i := 222) rfl)) rfl), rfl, by decide +kernel, by decide +kernel, by decide +kernel⟩
theorem kc_L_71 : CV R_L 71 R_M y_M_same b_M_same 8 (some .boolean) 3 := ⟨(tg_in (List.mem_append_right _ (List.mem_of_getElem? (i := 341) rfl)) rfl), (tg_in (List.mem_append_right _ (List.mem_of_getElem? (i := 342) rfl)) rfl), (tg_in (List.mem_append_right _ (List.mem_of_getElem? (i := 343) rfl)) rfl), (tg_in (List.mem_append_right _ (List.mem_of_getElem? (i := 4) rfl)) rfl), (tg_in (List.mem_append_right _ (List.mem_of_getElem? (i := 344) rfl)) rfl), rfl, by decide +kernel, by decide +kernel, by decide +kernel⟩
end
section
/-! ===== Int32 by its bits: bt x i ===== -/
def bt (x : Int32) (i : Nat) : Bool := x.toBitVec.getLsbD i
theorem b_ext {x y : Int32} (h : ∀ i, i < 32 → bt x i = bt y i) : x = y := Int32.toBitVec_inj.mp (BitVec.eq_of_getLsbD_eq (fun i hi => h i hi))
theorem b_or (x y : Int32) (i : Nat) : bt (x ||| y) i = (bt x i || bt y i) := by unfold bt; rw [Int32.toBitVec_or, BitVec.getLsbD_or]
theorem b_and (x y : Int32) (i : Nat) : bt (x &&& y) i = (bt x i && bt y i) := by unfold bt; rw [Int32.toBitVec_and, BitVec.getLsbD_and]
theorem b_xor (x y : Int32) (i : Nat) : bt (x ^^^ y) i = (bt x i ^^ bt y i) := by unfold bt; rw [Int32.toBitVec_xor, BitVec.getLsbD_xor]
theorem b_big {x : Int32} {i : Nat} (h : 32 ≤ i) : bt x i = false := BitVec.getLsbD_of_ge _ _ h
theorem b_255 (i : Nat) : bt 255 i = decide (i < 8) := by
  rcases Nat.lt_or_ge i 32 with h | h
  · exact (by decide +kernel : ∀ i, i < 32 → bt 255 i = decide (i < 8)) i h
  · rw [b_big h, decide_eq_false (by omega)]
theorem b_65535 (i : Nat) : bt 65535 i = decide (i < 16) := by
  rcases Nat.lt_or_ge i 32 with h | h
  · exact (by decide +kernel : ∀ i, i < 32 → bt 65535 i = decide (i < 16)) i h
  · rw [b_big h, decide_eq_false (by omega)]
theorem b_m1 : ∀ i, i < 32 → bt (-1) i = true := by decide +kernel
theorem b_0 (i : Nat) : bt 0 i = false := BitVec.getLsbD_zero
theorem s_l : ∀ n, n < 32 → ((nI n &&& 31).toBitVec.smod 32).toNat = n := by decide +kernel
theorem s_u : ∀ n, n < 32 → (((nI n).toUInt32 &&& Int32.toUInt32 31).toBitVec % 32).toNat = n := by decide +kernel
theorem b_shl (n : Nat) (hn : n < 32) (x : Int32) {i : Nat} (hi : i < 32) : bt (x <<< (nI n &&& 31)) i = (decide (n ≤ i) && bt x (i - n)) := by
  unfold bt
  rw [Int32.toBitVec_shiftLeft]
  show (x.toBitVec <<< ((nI n &&& 31).toBitVec.smod 32).toNat).getLsbD i = _
  rw [s_l n hn, BitVec.getLsbD_shiftLeft]
  rcases Nat.lt_or_ge i n with h | h
  · simp [h, Nat.not_le.mpr h]
  · simp [hi, h, Nat.not_lt.mpr h]
theorem b_ushr (n : Nat) (hn : n < 32) (x : Int32) (i : Nat) : bt ((x.toUInt32 >>> ((nI n).toUInt32 &&& Int32.toUInt32 31)).toInt32) i = bt x (n + i) := by
  show (x.toUInt32 >>> ((nI n).toUInt32 &&& Int32.toUInt32 31)).toBitVec.getLsbD i = x.toUInt32.toBitVec.getLsbD (n + i)
  rw [UInt32.toBitVec_shiftRight]
  show (x.toUInt32.toBitVec >>> (((nI n).toUInt32 &&& Int32.toUInt32 31).toBitVec % 32).toNat).getLsbD i = _
  rw [s_u n hn, BitVec.getLsbD_ushiftRight]
theorem b_sshr (n : Nat) (hn : n < 32) (x : Int32) {i : Nat} (hi : i < 32) : bt (x >>> (nI n &&& 31)) i = if n + i < 32 then bt x (n + i) else bt x 31 := by
  unfold bt
  rw [Int32.toBitVec_shiftRight]
  show (x.toBitVec.sshiftRight ((nI n &&& 31).toBitVec.smod 32).toNat).getLsbD i = _
  rw [s_l n hn, BitVec.getLsbD_sshiftRight, BitVec.msb_eq_getLsbD_last]
  simp [hi]
theorem b_shl8 (x : Int32) {i : Nat} (hi : i < 32) : bt (x <<< ((8 : Int32) &&& 31)) i = (decide (8 ≤ i) && bt x (i - 8)) := b_shl 8 (by omega) x hi
theorem b_shl16 (x : Int32) {i : Nat} (hi : i < 32) : bt (x <<< ((16 : Int32) &&& 31)) i = (decide (16 ≤ i) && bt x (i - 16)) := b_shl 16 (by omega) x hi
theorem b_shl24 (x : Int32) {i : Nat} (hi : i < 32) : bt (x <<< ((24 : Int32) &&& 31)) i = (decide (24 ≤ i) && bt x (i - 24)) := b_shl 24 (by omega) x hi
theorem b_sshr8 (x : Int32) {i : Nat} (hi : i < 32) : bt (x >>> ((8 : Int32) &&& 31)) i = if 8 + i < 32 then bt x (8 + i) else bt x 31 := b_sshr 8 (by omega) x hi
/-! ===== nI under and, xor, >>>, one bit, 65535 ===== -/
theorem nx_and (a b : Nat) : nI a &&& nI b = nI (a &&& b) := by
  apply Int32.toBitVec_inj.1
  show BitVec.ofNat 32 a &&& BitVec.ofNat 32 b = BitVec.ofNat 32 (a &&& b)
  apply BitVec.eq_of_getLsbD_eq
  intro i hi
  simp [hi]
theorem nx_xor (a b : Nat) : nI a ^^^ nI b = nI (a ^^^ b) := by
  apply Int32.toBitVec_inj.1
  show BitVec.ofNat 32 a ^^^ BitVec.ofNat 32 b = BitVec.ofNat 32 (a ^^^ b)
  apply BitVec.eq_of_getLsbD_eq
  intro i hi
  simp [hi]
theorem nx_cnt : ∀ j : Fin 32, (UInt32.ofNat j.val &&& Int32.toUInt32 31).toNat % 32 = j.val := by decide +kernel
theorem nx_ush {k j : Nat} (hk : k < 65536) (hj : j < 32) : ((nI k).toUInt32 >>> ((nI j).toUInt32 &&& Int32.toUInt32 31)).toInt32 = nI (k >>> j) := by
  have hs : k >>> j ≤ k := by
    rw [Nat.shiftRight_eq_div_pow]
    exact Nat.div_le_self _ _
  have e2 : UInt32.ofNat k >>> (UInt32.ofNat j &&& Int32.toUInt32 31) = UInt32.ofNat (k >>> j) := by
    apply UInt32.toNat_inj.1
    have h1 : (UInt32.ofNat k).toNat = k := Nat.mod_eq_of_lt (by omega)
    have h2 : (UInt32.ofNat (k >>> j)).toNat = k >>> j := Nat.mod_eq_of_lt (by omega)
    rw [UInt32.toNat_shiftRight, nx_cnt ⟨j, hj⟩, h1, h2]
  show (UInt32.ofNat k >>> (UInt32.ofNat j &&& Int32.toUInt32 31)).toInt32 = _
  rw [e2]
  rfl
theorem nx_bit {k j : Nat} (hk : k < 65536) (hj : j < 16) : (((nI k).toUInt32 >>> ((nI j).toUInt32 &&& Int32.toUInt32 31)).toInt32 &&& 1) = 0 ↔ k.testBit j = false := by
  rw [nx_ush hk (by omega)]
  show nI (k >>> j) &&& nI 1 = 0 ↔ _
  rw [nx_and, Nat.and_one_is_mod, ← nI_0, nI_eq (by omega) (by omega), Nat.testBit_eq_decide_div_mod_eq, Nat.shiftRight_eq_div_pow, decide_eq_false_iff_not]
  generalize k / 2 ^ j = z
  omega
theorem nx_mod (k : Nat) : nI k &&& 65535 = nI (k % 65536) := by
  show nI k &&& nI 65535 = _
  rw [nx_and, show (65535 : Nat) = 2 ^ 16 - 1 from rfl, Nat.and_two_pow_sub_one_eq_mod]
theorem nx_m16 {k : Nat} (h : k < 65536) : nI k &&& 65535 = nI k := by rw [nx_mod, Nat.mod_eq_of_lt h]
theorem nx_mask (x : Int32) : ∃ k, k < 65536 ∧ x &&& 65535 = nI k := by
  have e : x = nI x.toBitVec.toNat := by
    apply Int32.toBitVec_inj.1
    show x.toBitVec = BitVec.ofNat 32 x.toBitVec.toNat
    simp
  refine ⟨x.toBitVec.toNat % 65536, Nat.mod_lt _ (by omega), ?_⟩
  rw [← nx_mod, ← e]
/-! ===== Int32 as a set of bits: test, set ===== -/
def nf_M (m : Int32) : Nat := 4294967296 - m.toBitVec.toNat
theorem nf_sh : ∀ l, l < 32 → ((1 : Int32) <<< (nI l &&& 31)).toBitVec = BitVec.twoPow 32 l := by decide +kernel
theorem nf_sl : ∀ l, l < 32 → (((nI l).toUInt32 &&& Int32.toUInt32 31).toBitVec % 32).toNat = l := by decide +kernel
theorem nf_tp : ∀ l, l < 32 → BitVec.twoPow 32 l ≠ 0#32 := by decide +kernel
theorem nf_bit (m : Int32) (l : Nat) (hl : l < 32) : ((m.toUInt32 >>> ((nI l).toUInt32 &&& Int32.toUInt32 31)).toInt32 &&& 1) = 0 ↔ (m &&& ((1 : Int32) <<< (nI l &&& 31))) = 0 := by
  have e : ((m.toUInt32 >>> ((nI l).toUInt32 &&& Int32.toUInt32 31)).toInt32).toBitVec = m.toBitVec >>> l := by
    show m.toBitVec >>> (((nI l).toUInt32 &&& Int32.toUInt32 31).toBitVec % 32) = m.toBitVec >>> l
    rw [BitVec.ushiftRight_eq', nf_sl l hl]
  rw [← Int32.toBitVec_inj, ← Int32.toBitVec_inj, Int32.toBitVec_and, Int32.toBitVec_and, nf_sh l hl, e, BitVec.and_twoPow]
  show (m.toBitVec >>> l &&& 1#32) = 0#32 ↔ _ = 0#32
  rw [BitVec.and_one_eq_setWidth_ofBool_getLsbD, BitVec.getLsbD_ushiftRight, Nat.add_zero]
  cases hb : m.toBitVec.getLsbD l
  · exact ⟨fun _ => by simp, fun _ => by decide⟩
  · exact ⟨fun z => absurd z (by decide), fun z => absurd ((if_pos rfl).symm.trans z) (nf_tp l hl)⟩
theorem nf_gr (m k : Int32) (h : m &&& k = 0) (hk : k ≠ 0) : nf_M (m ||| k) < nf_M m := by
  have hm := m.toBitVec.isLt
  have hm' := (m ||| k).toBitVec.isLt
  have h1 : m.toBitVec.toNat ≤ (m ||| k).toBitVec.toNat := by
    rw [Int32.toBitVec_or, BitVec.toNat_or]
    exact Nat.left_le_or
  have h2 : m.toBitVec.toNat ≠ (m ||| k).toBitVec.toNat := by
    intro e
    have e2 : m = m ||| k := Int32.toBitVec_inj.mp (BitVec.eq_of_toNat_eq e)
    apply hk
    apply Int32.toBitVec_inj.mp
    show k.toBitVec = 0#32
    apply BitVec.eq_of_getLsbD_eq
    intro i hi
    have a : m.toBitVec.getLsbD i = (m.toBitVec.getLsbD i || k.toBitVec.getLsbD i) := by rw [← BitVec.getLsbD_or, ← Int32.toBitVec_or, ← e2]
    have b : (m.toBitVec.getLsbD i && k.toBitVec.getLsbD i) = false := by
      rw [← BitVec.getLsbD_and, ← Int32.toBitVec_and, h]
      exact BitVec.getLsbD_zero
    rw [BitVec.getLsbD_zero]
    revert a b
    cases m.toBitVec.getLsbD i <;> cases k.toBitVec.getLsbD i <;> simp
  unfold nf_M
  omega
/-! ===== lN n to 2^64: shifts, and, or, masks, one bit ===== -/
theorem wb_tb (n : Nat) : (lN n).toBitVec = BitVec.ofNat 64 n := rfl
theorem wb_inj {a b : Int64} (h : a.toBitVec = b.toBitVec) : a = b := Int64.toBitVec_inj.mp h
theorem wb_tn {n : Nat} (h : n < 2 ^ 64) : (lN n).toBitVec.toNat = n := by rw [wb_tb, BitVec.toNat_ofNat, Nat.mod_eq_of_lt h]
theorem wb_of (x : Int64) : ∃ n, n < 2 ^ 64 ∧ x = lN n := ⟨x.toBitVec.toNat, x.toBitVec.isLt, wb_inj (by rw [wb_tb]; simp)⟩
theorem wb_of32 (x : Int32) : ∃ n, n < 2 ^ 32 ∧ x = nI n := ⟨x.toBitVec.toNat, x.toBitVec.isLt, Int32.toBitVec_inj.mp (by show _ = BitVec.ofNat 32 _; simp)⟩
theorem wb_c : ∀ k, k < 64 → ((nI k).toInt64 &&& 63) = lN k := by decide +kernel
theorem wb_cu : ∀ k, k < 64 → ((nI k).toInt64.toUInt64 &&& Int64.toUInt64 63) = UInt64.ofNat k := by decide +kernel
theorem wb_sm : ∀ k, k < 64 → (BitVec.ofNat 64 k).smod 64 = BitVec.ofNat 64 k := by decide +kernel
theorem wb_pw {a b : Nat} (h : a ≤ b) : 2 ^ b = 2 ^ a * 2 ^ (b - a) := by rw [← Nat.pow_add]; congr 1; omega
theorem wb_lt2 {a b : Nat} (h : a < b) : 2 ^ a < 2 ^ b := Nat.pow_lt_pow_right (by decide) h
theorem wb_mod (n : Nat) : lN n = lN (n % 2 ^ 64) := wb_inj (by rw [wb_tb, wb_tb]; apply BitVec.eq_of_toNat_eq; rw [BitVec.toNat_ofNat, BitVec.toNat_ofNat, Nat.mod_mod])
theorem wb_shr {n k : Nat} (hn : n < 2 ^ 64) (hk : k < 64) : ((lN n).toUInt64 >>> ((nI k).toInt64.toUInt64 &&& Int64.toUInt64 63)).toInt64 = lN (n / 2 ^ k) := by
  rw [wb_cu k hk]
  apply wb_inj
  apply BitVec.eq_of_toNat_eq
  show ((lN n).toUInt64 >>> UInt64.ofNat k).toNat = (BitVec.ofNat 64 _).toNat
  have h1 : (UInt64.ofNat k).toNat = k := by
    show (BitVec.ofNat 64 k).toNat = k
    rw [BitVec.toNat_ofNat, Nat.mod_eq_of_lt (by omega)]
  have h2 : (lN n).toUInt64.toNat = n := wb_tn hn
  rw [UInt64.toNat_shiftRight, h1, h2, Nat.mod_eq_of_lt hk, Nat.shiftRight_eq_div_pow, BitVec.toNat_ofNat, Nat.mod_eq_of_lt (Nat.lt_of_le_of_lt (Nat.div_le_self _ _) hn)]
theorem wb_shl (n : Nat) {k : Nat} (hk : k < 64) : lN n <<< ((nI k).toInt64 &&& 63) = lN (n * 2 ^ k) := by
  rw [wb_c k hk]
  apply wb_inj
  rw [Int64.toBitVec_shiftLeft, wb_tb, wb_tb, wb_tb, wb_sm k hk]
  apply BitVec.eq_of_toNat_eq
  rw [BitVec.shiftLeft_eq', BitVec.toNat_shiftLeft, BitVec.toNat_ofNat, BitVec.toNat_ofNat, BitVec.toNat_ofNat, Nat.mod_eq_of_lt (show k < 2 ^ 64 by omega), Nat.shiftLeft_eq, Nat.mul_mod, Nat.mod_mod, ← Nat.mul_mod]
theorem wb_and {a b : Nat} (ha : a < 2 ^ 64) (hb : b < 2 ^ 64) : lN a &&& lN b = lN (a &&& b) := by
  apply wb_inj
  rw [Int64.toBitVec_and, wb_tb, wb_tb, wb_tb]
  apply BitVec.eq_of_toNat_eq
  rw [BitVec.toNat_and, BitVec.toNat_ofNat, BitVec.toNat_ofNat, BitVec.toNat_ofNat, Nat.mod_eq_of_lt ha, Nat.mod_eq_of_lt hb, Nat.mod_eq_of_lt (Nat.and_lt_two_pow _ hb)]
theorem wb_or {a b : Nat} (ha : a < 2 ^ 64) (hb : b < 2 ^ 64) : lN a ||| lN b = lN (a ||| b) := by
  apply wb_inj
  rw [Int64.toBitVec_or, wb_tb, wb_tb, wb_tb]
  apply BitVec.eq_of_toNat_eq
  rw [BitVec.toNat_or, BitVec.toNat_ofNat, BitVec.toNat_ofNat, BitVec.toNat_ofNat, Nat.mod_eq_of_lt ha, Nat.mod_eq_of_lt hb, Nat.mod_eq_of_lt (Nat.or_lt_two_pow ha hb)]
theorem wb_mask {n k : Nat} (hn : n < 2 ^ 64) (hk : k < 64) : lN n &&& lN (2 ^ k - 1) = lN (n % 2 ^ k) := by
  rw [wb_and hn (by have := wb_lt2 hk; omega), Nat.and_two_pow_sub_one_eq_mod]
theorem wb_a1 {n : Nat} (hn : n < 2 ^ 64) : lN n &&& 1 = lN (n % 2) := wb_mask (k := 1) hn (by decide)
theorem wb_bit {n k : Nat} (hn : n < 2 ^ 64) (hk : k < 64) : ((lN n).toUInt64 >>> ((nI k).toInt64.toUInt64 &&& Int64.toUInt64 63)).toInt64 &&& 1 = lN (n / 2 ^ k % 2) := by
  rw [wb_shr hn hk, wb_a1 (Nat.lt_of_le_of_lt (Nat.div_le_self _ _) hn)]
theorem wb_xor {q k : Nat} (hk : k < 63) (h : 2 ^ k ≤ q) (h2 : q < 2 ^ (k + 1)) : lN q ^^^ lN (2 ^ k) = lN (q - 2 ^ k) := by
  obtain ⟨r, rfl⟩ : ∃ r, q = 2 ^ k + r := ⟨q - 2 ^ k, by omega⟩
  have hr : r < 2 ^ k := by rw [Nat.pow_succ] at h2; omega
  have hx : (2 ^ k + r) ^^^ 2 ^ k = r := by
    apply Nat.eq_of_testBit_eq
    intro i
    rw [Nat.testBit_xor, Nat.testBit_two_pow]
    rcases Nat.lt_trichotomy i k with h | h | h
    · rw [Nat.testBit_two_pow_add_gt h]
      simp [show ¬ k = i by omega]
    · subst h
      rw [Nat.testBit_two_pow_add_eq]
      simp
    · have a1 : 2 ^ (k + 1) ≤ 2 ^ i := Nat.pow_le_pow_right (by decide) h
      rw [Nat.testBit_lt_two_pow (show 2 ^ k + r < 2 ^ i by omega), Nat.testBit_lt_two_pow (show r < 2 ^ i by omega)]
      simp [show ¬ k = i by omega]
  have b1 := wb_lt2 (show k + 1 < 64 by omega)
  have b2 := wb_lt2 (show k < 64 by omega)
  apply wb_inj
  rw [Int64.toBitVec_xor, wb_tb, wb_tb, wb_tb]
  apply BitVec.eq_of_toNat_eq
  rw [BitVec.toNat_xor, BitVec.toNat_ofNat, BitVec.toNat_ofNat, BitVec.toNat_ofNat, Nat.mod_eq_of_lt (by omega : 2 ^ k + r < 2 ^ 64), Nat.mod_eq_of_lt b2, hx, Nat.add_sub_cancel_left, Nat.mod_eq_of_lt (by omega)]
/-! ===== Int64 as an unsigned number: uN x ===== -/
def uN (x : Int64) : Nat := x.toUInt64.toNat
theorem uN_lt (x : Int64) : uN x < 18446744073709551616 := x.toUInt64.toNat_lt
theorem uN_inj {x y : Int64} (h : uN x = uN y) : x = y := congrArg UInt64.toInt64 (UInt64.toNat_inj.mp h)
theorem uN_add (x y : Int64) : uN (x + y) = (uN x + uN y) % 18446744073709551616 := by
  show (x.toUInt64 + y.toUInt64).toNat = _
  exact UInt64.toNat_add _ _
theorem uN_mul (x y : Int64) : uN (x * y) = (uN x * uN y) % 18446744073709551616 := by
  show (x.toUInt64 * y.toUInt64).toNat = _
  exact UInt64.toNat_mul _ _
theorem uN_shl (x : Int64) : uN (x <<< ((1 : Int32).toInt64 &&& 63)) = (2 * uN x) % 18446744073709551616 := by
  have h : (((1 : Int32).toInt64 &&& 63).toBitVec.smod 64).toNat = 1 := by decide
  show (x.toBitVec <<< (((1 : Int32).toInt64 &&& 63).toBitVec.smod 64).toNat).toNat = _
  rw [h, BitVec.toNat_shiftLeft, Nat.shiftLeft_eq, Nat.mul_comm]
  rfl
theorem uN_shr (x : Int64) (s : UInt64) : uN (x.toUInt64 >>> s).toInt64 = uN x / 2 ^ (s.toNat % 64) := by
  show (x.toUInt64 >>> s).toNat = _
  rw [UInt64.toNat_shiftRight, Nat.shiftRight_eq_div_pow]
  rfl
theorem uN_s32 (x : Int64) : uN (x.toUInt64 >>> ((32 : Int32).toInt64.toUInt64 &&& Int64.toUInt64 63)).toInt64 = uN x / 4294967296 := by
  have h : ((32 : Int32).toInt64.toUInt64 &&& Int64.toUInt64 63).toNat % 64 = 32 := by decide
  rw [uN_shr, h]
theorem uN_s63 (x : Int64) : uN (x.toUInt64 >>> ((63 : Int32).toInt64.toUInt64 &&& Int64.toUInt64 63)).toInt64 = uN x / 9223372036854775808 := by
  have h : ((63 : Int32).toInt64.toUInt64 &&& Int64.toUInt64 63).toNat % 64 = 63 := by decide
  rw [uN_shr, h]
theorem uN_lo (x : Int64) : uN (x &&& 4294967295) = uN x % 4294967296 := by
  show (x.toUInt64 &&& Int64.toUInt64 4294967295).toNat = _
  rw [UInt64.toNat_and]
  exact Nat.and_two_pow_sub_one_eq_mod _ 32
theorem uN_bit (x : Int64) : (x &&& 1) = 0 ↔ uN x % 2 = 0 := by
  have h : uN (x &&& 1) = uN x % 2 := by
    show (x.toUInt64 &&& Int64.toUInt64 1).toNat = _
    rw [UInt64.toNat_and]
    exact Nat.and_two_pow_sub_one_eq_mod _ 1
  rw [← h]
  exact ⟨fun z => by rw [z]; rfl, fun z => uN_inj (z.trans rfl)⟩
theorem uN_or {x y : Int64} (hy : uN y < 2) : uN ((x <<< ((1 : Int32).toInt64 &&& 63)) ||| y) = (2 * uN x) % 18446744073709551616 + uN y := by
  have h1 : uN ((x <<< ((1 : Int32).toInt64 &&& 63)) ||| y) = uN (x <<< ((1 : Int32).toInt64 &&& 63)) ||| uN y := UInt64.toNat_or _ _
  have h2 : (2 * uN x) % 18446744073709551616 = 2 ^ 1 * (uN x % 9223372036854775808) := by omega
  rw [h1, uN_shl, h2]
  exact (Nat.two_pow_add_eq_or_of_lt (i := 1) hy _).symm
theorem nat_xor {a : Nat} (h : a < 18446744073709551616) : a ^^^ 2 ^ 63 = (a + 9223372036854775808) % 18446744073709551616 := by
  have h1 : (a ^^^ 2 ^ 63) % 2 ^ 63 = a % 2 ^ 63 := by rw [Nat.xor_mod_two_pow, Nat.mod_self, Nat.xor_zero]
  have h2 : (a ^^^ 2 ^ 63) / 2 ^ 63 = (a / 2 ^ 63) ^^^ 1 := by rw [Nat.xor_div_two_pow, Nat.div_self (Nat.two_pow_pos 63)]
  have h3 : a / 2 ^ 63 = 0 ∨ a / 2 ^ 63 = 1 := by omega
  generalize a ^^^ 2 ^ 63 = t at h1 h2
  rcases h3 with h3 | h3
  · rw [h3] at h2
    have h2 : t / 2 ^ 63 = 1 := h2
    omega
  · rw [h3] at h2
    have h2 : t / 2 ^ 63 = 0 := h2
    omega
theorem uN_xor (x : Int64) : uN (x ^^^ (-9223372036854775808)) = (uN x + 9223372036854775808) % 18446744073709551616 := by
  rw [← nat_xor (uN_lt x)]
  exact UInt64.toNat_xor _ _
theorem uN_int (x : Int64) : x.toInt = if 2 * uN x < 18446744073709551616 then (uN x : Int) else (uN x : Int) - 18446744073709551616 := BitVec.toInt_eq_toNat_cond _
theorem uN_le (x y : Int64) : (x ^^^ (-9223372036854775808)) ≤ (y ^^^ (-9223372036854775808)) ↔ uN x ≤ uN y := by
  have hx := uN_lt x
  have hy := uN_lt y
  rw [Int64.le_iff_toInt_le, uN_int, uN_int, uN_xor, uN_xor]
  omega
theorem uN_sk (x : Int64) {k : Nat} (hk : k < 64) : uN (x.toUInt64 >>> ((nI k).toInt64.toUInt64 &&& Int64.toUInt64 63)).toInt64 = uN x / 2 ^ k := by
  have h : ((nI k).toInt64.toUInt64 &&& Int64.toUInt64 63).toNat % 64 = k := by
    rw [nI_l (by omega), UInt64.toNat_and]
    have e : (lN k).toUInt64.toNat = k % 2 ^ 64 := rfl
    have e2 : (Int64.toUInt64 63).toNat = 2 ^ 6 - 1 := by decide
    rw [e, e2, Nat.and_two_pow_sub_one_eq_mod]
    omega
  rw [uN_shr, h]
end
section
theorem uN_of (z : Int64) : z = lN (uN z) := wb_inj (by rw [wb_tb]; show z.toBitVec = BitVec.ofNat 64 z.toBitVec.toNat; simp)
theorem uN_lN {n : Nat} (h : n < 2 ^ 64) : uN (lN n) = n := wb_tn h
theorem shr_lN (z : Int64) (k : Nat) (hk : k < 64) : (z.toUInt64 >>> ((nI k).toInt64.toUInt64 &&& Int64.toUInt64 63)).toInt64 = lN (uN z / 2 ^ k) := by
  apply uN_inj
  rw [uN_sk z hk, uN_lN (Nat.lt_of_le_of_lt (Nat.div_le_self _ _) (uN_lt z))]
theorem and1_lN (z : Int64) : z &&& 1 = lN (uN z % 2) := by
  have h := wb_a1 (n := uN z) (uN_lt z)
  rw [← uN_of z] at h
  exact h
theorem rem_lN {a b : Nat} (ha : a < 2 ^ 63) (h0 : 0 < b) (hb : b < 2 ^ 63) : lN a - lN a / lN b * lN b = lN (a % b) := pk_lRem ha h0 hb
theorem sh1 (z : Int64) : (z.toUInt64 >>> ((1 : Int32).toInt64.toUInt64 &&& Int64.toUInt64 63)).toInt64 = lN (uN z / 2) := shr_lN z 1 (by omega)
theorem sh8 (z : Int64) : (z.toUInt64 >>> ((8 : Int32).toInt64.toUInt64 &&& Int64.toUInt64 63)).toInt64 = lN (uN z / 256) := shr_lN z 8 (by omega)
theorem sh24 (z : Int64) : (z.toUInt64 >>> ((24 : Int32).toInt64.toUInt64 &&& Int64.toUInt64 63)).toInt64 = lN (uN z / 16777216) := shr_lN z 24 (by omega)
theorem sh40 (z : Int64) : (z.toUInt64 >>> ((40 : Int32).toInt64.toUInt64 &&& Int64.toUInt64 63)).toInt64 = lN (uN z / 1099511627776) := shr_lN z 40 (by omega)
theorem um_dbl (z : Int64) (d : Nat) (h0 : 0 < d) (hd : d < 2 ^ 31) : 2 * (lN (uN z / 2) - lN (uN z / 2) / lN d * lN d) + (z &&& 1) = lN (2 * (uN z / 2 % d) + uN z % 2) := by
  have h := uN_lt z
  rw [rem_lN (by omega) h0 (by omega), and1_lN, show (2 : Int64) = lN 2 from rfl, lN_mul, lN_add]
theorem fct1 (z : Int64) : ((2 * ((z.toUInt64 >>> ((1 : Int32).toInt64.toUInt64 &&& Int64.toUInt64 63)).toInt64 - (z.toUInt64 >>> ((1 : Int32).toInt64.toUInt64 &&& Int64.toUInt64 63)).toInt64 / 50 * 50)) + (z &&& 1)).toInt32 = nI (uN z % 100) := by
  have e := um_dbl z 50 (by omega) (by omega)
  rw [sh1, show (50 : Int64) = lN 50 from rfl, e, lN_i]
  congr 1
  omega
theorem fct2 (z : Int64) : ((z.toUInt64 >>> ((8 : Int32).toInt64.toUInt64 &&& Int64.toUInt64 63)).toInt64 - (z.toUInt64 >>> ((8 : Int32).toInt64.toUInt64 &&& Int64.toUInt64 63)).toInt64 / 1000 * 1000).toInt32 = nI (uN z / 256 % 1000) := by
  have h := uN_lt z
  rw [sh8, show (1000 : Int64) = lN 1000 from rfl, rem_lN (by omega) (by omega) (by omega), lN_i]
theorem fct3 (z : Int64) : ((z.toUInt64 >>> ((24 : Int32).toInt64.toUInt64 &&& Int64.toUInt64 63)).toInt64 - (z.toUInt64 >>> ((24 : Int32).toInt64.toUInt64 &&& Int64.toUInt64 63)).toInt64 / 24 * 24).toInt32 = nI (uN z / 16777216 % 24) := by
  have h := uN_lt z
  rw [sh24, show (24 : Int64) = lN 24 from rfl, rem_lN (by omega) (by omega) (by omega), lN_i]
theorem fct4 (z : Int64) : ((z.toUInt64 >>> ((40 : Int32).toInt64.toUInt64 &&& Int64.toUInt64 63)).toInt64 - (z.toUInt64 >>> ((40 : Int32).toInt64.toUInt64 &&& Int64.toUInt64 63)).toInt64 / 2 * 2).toInt32 = nI (uN z / 1099511627776 % 2) := by
  have h := uN_lt z
  rw [sh40, show (2 : Int64) = lN 2 from rfl, rem_lN (by omega) (by omega) (by omega), lN_i]
end
section
def fn_D_isEmpty (n : Nat) : Int32 := (if nI n = 0 then 1 else 0)
set_option maxHeartbeats 4000000 in
set_option maxRecDepth 100000 in
theorem c_D_isEmpty (l : Launch) (G : GT) (H : Heap) (a : Nat) (b : Nat) (sd : Int64) (k : Int32) (n : Nat) (fb : Int32) (f : Nat → Int64) (hP : va_P G.1 classes [(a, .inr (1, [.ref b, .long sd, .int k, .int (nI n), .int fb])), (b, .inl (G.2.1, 16, .inr (.inl f)))] H) (hn : n ≤ 16) : Met l y_D_isEmpty (Cond.code y_D_isEmpty b_D_isEmpty 1 (some .boolean) :: TG) ({ frames := 0, cells := 0, slots := 0, locals := 0 }) (PC G H [.ref a]) (QcRead (fn_D_isEmpty n)) 0 0 (fun _ => False) := by
  refine Met.ofW (cc := b_D_isEmpty) (maxL := 1) (ret := (some .boolean)) (by decide) rfl ?_
  intro p e s m args below meth c s₁ B hml hv
  obtain ⟨rfl, hH, hKN⟩ := hv
  subst hH
  have hx := B.exec
  have hb := B.bytes
  have hr := B.returns
  have hts := atoms_spec (ws := (Cond.code y_D_isEmpty b_D_isEmpty 1 (some .boolean) :: TG)) B.pre
  have ht : ∀ w ∈ TG, w.before _ s = true := fun w h => hts w (List.mem_cons_of_mem _ h)
  have hown : s.vm.findClass R_D = some m.cls := findClass_of_methodNamed B.named
  have hlocks := B.notSynchronized
  have hK := hKN.1
  have hl := lv_entry ([.ref a]) (n := 1) (Nat.le_of_ble_eq_true rfl)
  rw [lg_entry_eq]
  generalize (lg_sl ([.ref a]) ++ List.replicate (1 - (lg_sl ([.ref a])).length) Slot.unset).toArray = ls at hl ⊢
  have hl : lv_has ls 1 [(0, .ref a)] := hl
  refine lv_aload_n hx hb d_D_isEmpty_0 rfl (lv_at hl 0 rfl) ?_
  refine va_get (D := G.1) (ci := 1) (v := .int (nI n)) (C := R_D) (T := F_D) (N := 5) hx hb ht in_D hown hK hP 0 rfl rfl 3 (by decide) (ht _ kf_D_23) (fun _ h9 => h9) rfl d_D_isEmpty_1 ?_
  refine lv_if_ne (tgt := 11) hx hb d_D_isEmpty_4 (by decide) (fun c1 => ?_) (fun c1 => ?_)
  · refine lv_iconst (v := 0) hx hb d_D_isEmpty_11 (by decide) ?_
    exact W.zret (v := 0) hx hb hr rfl (fun t h9 _ => ⟨congrArg (fun z => Outcome.returned (some (Value.int z))) (by unfold fn_D_isEmpty; rw [if_neg c1]), h9⟩) (fun _ h => nomatch h) d_D_isEmpty_12
  · refine lv_iconst (v := 1) hx hb d_D_isEmpty_7 (by decide) ?_
    refine lv_goto (tgt := 12) hx hb d_D_isEmpty_8 (by decide) ?_
    exact W.zret (v := 1) hx hb hr rfl (fun t h9 _ => ⟨congrArg (fun z => Outcome.returned (some (Value.int z))) (by unfold fn_D_isEmpty; rw [if_pos c1]), h9⟩) (fun _ h => nomatch h) d_D_isEmpty_12
def fn_D_has (n : Nat) (p1 : Int32) : Int32 := (if p1 < 0 then 0 else (if nI n ≤ p1 then 0 else 1))
set_option maxHeartbeats 4000000 in
set_option maxRecDepth 100000 in
theorem c_D_has (l : Launch) (G : GT) (H : Heap) (a : Nat) (b : Nat) (sd : Int64) (k : Int32) (n : Nat) (fb : Int32) (f : Nat → Int64) (p1 : Int32) (hP : va_P G.1 classes [(a, .inr (1, [.ref b, .long sd, .int k, .int (nI n), .int fb])), (b, .inl (G.2.1, 16, .inr (.inl f)))] H) (hn : n ≤ 16) : Met l y_D_has (Cond.code y_D_has b_D_has 2 (some .boolean) :: TG) ({ frames := 0, cells := 0, slots := 0, locals := 0 }) (PC G H [.ref a, .int p1]) (QcRead (fn_D_has n p1)) 0 0 (fun _ => False) := by
  refine Met.ofW (cc := b_D_has) (maxL := 2) (ret := (some .boolean)) (by decide) rfl ?_
  intro p e s m args below meth c s₁ B hml hv
  obtain ⟨rfl, hH, hKN⟩ := hv
  subst hH
  have hx := B.exec
  have hb := B.bytes
  have hr := B.returns
  have hts := atoms_spec (ws := (Cond.code y_D_has b_D_has 2 (some .boolean) :: TG)) B.pre
  have ht : ∀ w ∈ TG, w.before _ s = true := fun w h => hts w (List.mem_cons_of_mem _ h)
  have hown : s.vm.findClass R_D = some m.cls := findClass_of_methodNamed B.named
  have hlocks := B.notSynchronized
  have hK := hKN.1
  have hl := lv_entry ([.ref a, .int p1]) (n := 2) (Nat.le_of_ble_eq_true rfl)
  rw [lg_entry_eq]
  generalize (lg_sl ([.ref a, .int p1]) ++ List.replicate (2 - (lg_sl ([.ref a, .int p1])).length) Slot.unset).toArray = ls at hl ⊢
  have hl : lv_has ls 2 [(0, .ref a), (1, .int p1)] := hl
  refine lv_iload_n hx hb d_D_has_0 rfl (lv_at hl 1 rfl) ?_
  refine lv_if_lt (tgt := 16) hx hb d_D_has_1 (by decide) (fun c1 => ?_) (fun c1 => ?_)
  · refine lv_iconst (v := 0) hx hb d_D_has_16 (by decide) ?_
    exact W.zret (v := 0) hx hb hr rfl (fun t h9 _ => ⟨congrArg (fun z => Outcome.returned (some (Value.int z))) (by unfold fn_D_has; rw [if_pos c1]), h9⟩) (fun _ h => nomatch h) d_D_has_17
  · refine lv_iload_n hx hb d_D_has_4 rfl (lv_at hl 1 rfl) ?_
    refine lv_aload_n hx hb d_D_has_5 rfl (lv_at hl 0 rfl) ?_
    refine va_get (D := G.1) (ci := 1) (v := .int (nI n)) (C := R_D) (T := F_D) (N := 5) hx hb ht in_D hown hK hP 0 rfl rfl 3 (by decide) (ht _ kf_D_23) (fun _ h9 => h9) rfl d_D_has_6 ?_
    refine lv_icmp_ge (tgt := 16) hx hb d_D_has_9 (by decide) (fun c2 => ?_) (fun c2 => ?_)
    · refine lv_iconst (v := 0) hx hb d_D_has_16 (by decide) ?_
      exact W.zret (v := 0) hx hb hr rfl (fun t h9 _ => ⟨congrArg (fun z => Outcome.returned (some (Value.int z))) (by unfold fn_D_has; rw [if_neg c1, if_pos c2]), h9⟩) (fun _ h => nomatch h) d_D_has_17
    · refine lv_iconst (v := 1) hx hb d_D_has_12 (by decide) ?_
      refine lv_goto (tgt := 17) hx hb d_D_has_13 (by decide) ?_
      exact W.zret (v := 1) hx hb hr rfl (fun t h9 _ => ⟨congrArg (fun z => Outcome.returned (some (Value.int z))) (by unfold fn_D_has; rw [if_neg c1, if_neg c2]), h9⟩) (fun _ h => nomatch h) d_D_has_17
theorem has_in {n : Nat} {p1 : Int32} (hn : n ≤ 16) (h : ¬ fn_D_has n p1 = 0) : vp_in p1 16 := by
  unfold fn_D_has at h
  split at h
  · exact absurd rfl h
  · split at h
    · exact absurd rfl h
    · rename_i h1 h2
      obtain ⟨j, hj, rfl⟩ := nI_of h1
      have h3 : j < n := Nat.lt_of_not_le (fun q => h2 (nI_le q hj))
      exact vp_in_nI (by omega) (by omega)
def fn_D_allBits (n : Nat) : Int32 := (((1 : Int32) <<< ((nI n) &&& 31)) - 1)
set_option maxHeartbeats 4000000 in
set_option maxRecDepth 100000 in
theorem c_D_allBits (l : Launch) (G : GT) (H : Heap) (a : Nat) (b : Nat) (sd : Int64) (k : Int32) (n : Nat) (fb : Int32) (f : Nat → Int64) (hP : va_P G.1 classes [(a, .inr (1, [.ref b, .long sd, .int k, .int (nI n), .int fb])), (b, .inl (G.2.1, 16, .inr (.inl f)))] H) (hn : n ≤ 16) : Met l y_D_allBits (Cond.code y_D_allBits b_D_allBits 1 (some .int) :: TG) ({ frames := 0, cells := 0, slots := 0, locals := 0 }) (PC G H [.ref a]) (QcRead (fn_D_allBits n)) 0 0 (fun _ => False) := by
  refine Met.ofW (cc := b_D_allBits) (maxL := 1) (ret := (some .int)) (by decide) rfl ?_
  intro p e s m args below meth c s₁ B hml hv
  obtain ⟨rfl, hH, hKN⟩ := hv
  subst hH
  have hx := B.exec
  have hb := B.bytes
  have hr := B.returns
  have hts := atoms_spec (ws := (Cond.code y_D_allBits b_D_allBits 1 (some .int) :: TG)) B.pre
  have ht : ∀ w ∈ TG, w.before _ s = true := fun w h => hts w (List.mem_cons_of_mem _ h)
  have hown : s.vm.findClass R_D = some m.cls := findClass_of_methodNamed B.named
  have hlocks := B.notSynchronized
  have hK := hKN.1
  have hl := lv_entry ([.ref a]) (n := 1) (Nat.le_of_ble_eq_true rfl)
  rw [lg_entry_eq]
  generalize (lg_sl ([.ref a]) ++ List.replicate (1 - (lg_sl ([.ref a])).length) Slot.unset).toArray = ls at hl ⊢
  have hl : lv_has ls 1 [(0, .ref a)] := hl
  refine lv_iconst (v := 1) hx hb d_D_allBits_0 (by decide) ?_
  refine lv_aload_n hx hb d_D_allBits_1 rfl (lv_at hl 0 rfl) ?_
  refine va_get (D := G.1) (ci := 1) (v := .int (nI n)) (C := R_D) (T := F_D) (N := 5) hx hb ht in_D hown hK hP 0 rfl rfl 3 (by decide) (ht _ kf_D_23) (fun _ h9 => h9) rfl d_D_allBits_2 ?_
  refine lv_ishl hx hb d_D_allBits_5 ?_
  refine lv_iconst (v := 1) hx hb d_D_allBits_6 (by decide) ?_
  refine lv_isub hx hb d_D_allBits_7 ?_
  exact W.iret (v := (((1 : Int32) <<< ((nI n) &&& 31)) - 1)) hx hb hr (fun t h9 _ => ⟨congrArg (fun z => Outcome.returned (some (Value.int z))) rfl, h9⟩) (fun _ h => nomatch h) d_D_allBits_8
def fn_D_hasFaults (n : Nat) (fb : Int32) (p1 : Int32) : Int32 := (if (fn_D_has n p1) = 0 then 0 else (if ((fb >>> (p1 &&& 31)) &&& 1) = 0 then 0 else 1))
set_option maxHeartbeats 4000000 in
set_option maxRecDepth 100000 in
theorem c_D_hasFaults (l : Launch) (G : GT) (H : Heap) (a : Nat) (b : Nat) (sd : Int64) (k : Int32) (n : Nat) (fb : Int32) (f : Nat → Int64) (p1 : Int32) (hP : va_P G.1 classes [(a, .inr (1, [.ref b, .long sd, .int k, .int (nI n), .int fb])), (b, .inl (G.2.1, 16, .inr (.inl f)))] H) (hn : n ≤ 16) : Met l y_D_hasFaults (Cond.code y_D_hasFaults b_D_hasFaults 2 (some .boolean) :: TG) ({ frames := 1, cells := 0, slots := 0, locals := 21 }) (PC G H [.ref a, .int p1]) (QcRead (fn_D_hasFaults n fb p1)) 0 0 (fun _ => False) := by
  refine Met.ofW (cc := b_D_hasFaults) (maxL := 2) (ret := (some .boolean)) (by decide) rfl ?_
  intro p e s m args below meth c s₁ B hml hv
  obtain ⟨rfl, hH, hKN⟩ := hv
  subst hH
  have hx := B.exec
  have hb := B.bytes
  have hr := B.returns
  have hts := atoms_spec (ws := (Cond.code y_D_hasFaults b_D_hasFaults 2 (some .boolean) :: TG)) B.pre
  have ht : ∀ w ∈ TG, w.before _ s = true := fun w h => hts w (List.mem_cons_of_mem _ h)
  have hown : s.vm.findClass R_D = some m.cls := findClass_of_methodNamed B.named
  have hlocks := B.notSynchronized
  have hK := hKN.1
  have hl := lv_entry ([.ref a, .int p1]) (n := 2) (Nat.le_of_ble_eq_true rfl)
  rw [lg_entry_eq]
  generalize (lg_sl ([.ref a, .int p1]) ++ List.replicate (2 - (lg_sl ([.ref a, .int p1])).length) Slot.unset).toArray = ls at hl ⊢
  have hl : lv_has ls 2 [(0, .ref a), (1, .int p1)] := hl
  refine lv_aload_n hx hb d_D_hasFaults_0 rfl (lv_at hl 0 rfl) ?_
  refine lv_iload_n hx hb d_D_hasFaults_1 rfl (lv_at hl 1 rfl) ?_
  refine pr_i (ru_V (b := a) (As := [.int p1]) (rest := []) ⟨hx, hb, hml, hown, ht⟩ hKN (c_D_has l G _ a b sd k n fb f p1 (hP.sub [0, 1] rfl) hn) kc_D_46 ⟨rfl, rfl⟩ ⟨Nat.le_of_ble_eq_true rfl, Nat.le_of_ble_eq_true rfl⟩ (va_recv hK hP (ci := 1) (q0 := 0) rfl rfl) rfl hl.1 rfl (Nat.le_of_ble_eq_true rfl) d_D_hasFaults_2 ⟨Nat.le_of_ble_eq_true rfl, Nat.le_of_ble_eq_true rfl⟩) ?_
  refine lv_if_eq (tgt := 23) hx hb d_D_hasFaults_5 (by decide) (fun c1 => ?_) (fun c1 => ?_)
  · refine lv_iconst (v := 0) hx hb d_D_hasFaults_23 (by decide) ?_
    exact W.zret (v := 0) hx hb hr rfl (fun t h9 _ => ⟨congrArg (fun z => Outcome.returned (some (Value.int z))) (by unfold fn_D_hasFaults; rw [if_pos c1]), h9⟩) (fun _ h => nomatch h) d_D_hasFaults_24
  · refine lv_aload_n hx hb d_D_hasFaults_8 rfl (lv_at hl 0 rfl) ?_
    refine va_get (D := G.1) (ci := 1) (v := .int fb) (C := R_D) (T := F_D) (N := 5) hx hb ht in_D hown hK hP 0 rfl rfl 4 (by decide) (ht _ kf_D_26) (fun _ h9 => h9) rfl d_D_hasFaults_9 ?_
    refine lv_iload_n hx hb d_D_hasFaults_12 rfl (lv_at hl 1 rfl) ?_
    refine lv_ishr hx hb d_D_hasFaults_13 ?_
    refine lv_iconst (v := 1) hx hb d_D_hasFaults_14 (by decide) ?_
    refine lv_iand hx hb d_D_hasFaults_15 ?_
    refine lv_if_eq (tgt := 23) hx hb d_D_hasFaults_16 (by decide) (fun c2 => ?_) (fun c2 => ?_)
    · refine lv_iconst (v := 0) hx hb d_D_hasFaults_23 (by decide) ?_
      exact W.zret (v := 0) hx hb hr rfl (fun t h9 _ => ⟨congrArg (fun z => Outcome.returned (some (Value.int z))) (by unfold fn_D_hasFaults; rw [if_neg c1, if_pos c2]), h9⟩) (fun _ h => nomatch h) d_D_hasFaults_24
    · refine lv_iconst (v := 1) hx hb d_D_hasFaults_19 (by decide) ?_
      refine lv_goto (tgt := 24) hx hb d_D_hasFaults_20 (by decide) ?_
      exact W.zret (v := 1) hx hb hr rfl (fun t h9 _ => ⟨congrArg (fun z => Outcome.returned (some (Value.int z))) (by unfold fn_D_hasFaults; rw [if_neg c1, if_neg c2]), h9⟩) (fun _ h => nomatch h) d_D_hasFaults_24
theorem sw_out {x : Int32} (h1 : ¬ x = 1) (h2 : ¬ x = 2) (h3 : ¬ x = 3) (h4 : ¬ x = 4) : x.toInt < 1 ∨ 4 < x.toInt := by
  have e1 : ¬ x.toInt = 1 := fun q => h1 (Int32.toInt_inj.mp q)
  have e2 : ¬ x.toInt = 2 := fun q => h2 (Int32.toInt_inj.mp q)
  have e3 : ¬ x.toInt = 3 := fun q => h3 (Int32.toInt_inj.mp q)
  have e4 : ¬ x.toInt = 4 := fun q => h4 (Int32.toInt_inj.mp q)
  omega
def fn_D_fact (n : Nat) (f : Nat → Int64) (p1 : Int32) (p2 : Int32) : Int32 := (if (fn_D_has n p1) = 0 then (-1) else (if p2 = 1 then (((2 * ((((f p1.toNatClampNeg).toUInt64 >>> ((1 : Int32).toInt64.toUInt64 &&& Int64.toUInt64 63)).toInt64) - (((f p1.toNatClampNeg).toUInt64 >>> ((1 : Int32).toInt64.toUInt64 &&& Int64.toUInt64 63)).toInt64) / 50 * 50)) + ((f p1.toNatClampNeg) &&& 1)).toInt32) else (if p2 = 2 then (((((f p1.toNatClampNeg).toUInt64 >>> ((8 : Int32).toInt64.toUInt64 &&& Int64.toUInt64 63)).toInt64) - (((f p1.toNatClampNeg).toUInt64 >>> ((8 : Int32).toInt64.toUInt64 &&& Int64.toUInt64 63)).toInt64) / 1000 * 1000).toInt32) else (if p2 = 3 then (((((f p1.toNatClampNeg).toUInt64 >>> ((24 : Int32).toInt64.toUInt64 &&& Int64.toUInt64 63)).toInt64) - (((f p1.toNatClampNeg).toUInt64 >>> ((24 : Int32).toInt64.toUInt64 &&& Int64.toUInt64 63)).toInt64) / 24 * 24).toInt32) else (if p2 = 4 then (((((f p1.toNatClampNeg).toUInt64 >>> ((40 : Int32).toInt64.toUInt64 &&& Int64.toUInt64 63)).toInt64) - (((f p1.toNatClampNeg).toUInt64 >>> ((40 : Int32).toInt64.toUInt64 &&& Int64.toUInt64 63)).toInt64) / 2 * 2).toInt32) else (-1))))))
set_option maxHeartbeats 4000000 in
set_option maxRecDepth 100000 in
theorem c_D_fact (l : Launch) (G : GT) (H : Heap) (a : Nat) (b : Nat) (sd : Int64) (k : Int32) (n : Nat) (fb : Int32) (f : Nat → Int64) (p1 : Int32) (p2 : Int32) (hP : va_P G.1 classes [(a, .inr (1, [.ref b, .long sd, .int k, .int (nI n), .int fb])), (b, .inl (G.2.1, 16, .inr (.inl f)))] H) (hn : n ≤ 16) : Met l y_D_fact (Cond.code y_D_fact b_D_fact 5 (some .int) :: TG) ({ frames := 1, cells := 0, slots := 0, locals := 21 }) (PC G H [.ref a, .int p1, .int p2]) (QcRead (fn_D_fact n f p1 p2)) 0 0 (fun _ => False) := by
  refine Met.ofW (cc := b_D_fact) (maxL := 5) (ret := (some .int)) (by decide) rfl ?_
  intro p e s m args below meth c s₁ B hml hv
  obtain ⟨rfl, hH, hKN⟩ := hv
  subst hH
  have hx := B.exec
  have hb := B.bytes
  have hr := B.returns
  have hts := atoms_spec (ws := (Cond.code y_D_fact b_D_fact 5 (some .int) :: TG)) B.pre
  have ht : ∀ w ∈ TG, w.before _ s = true := fun w h => hts w (List.mem_cons_of_mem _ h)
  have hown : s.vm.findClass R_D = some m.cls := findClass_of_methodNamed B.named
  have hlocks := B.notSynchronized
  have hK := hKN.1
  have hl := lv_entry ([.ref a, .int p1, .int p2]) (n := 5) (Nat.le_of_ble_eq_true rfl)
  rw [lg_entry_eq]
  generalize (lg_sl ([.ref a, .int p1, .int p2]) ++ List.replicate (5 - (lg_sl ([.ref a, .int p1, .int p2])).length) Slot.unset).toArray = ls at hl ⊢
  have hl : lv_has ls 5 [(0, .ref a), (1, .int p1), (2, .int p2)] := hl
  refine lv_aload_n hx hb d_D_fact_0 rfl (lv_at hl 0 rfl) ?_
  refine lv_iload_n hx hb d_D_fact_1 rfl (lv_at hl 1 rfl) ?_
  refine pr_i (ru_V (b := a) (As := [.int p1]) (rest := []) ⟨hx, hb, hml, hown, ht⟩ hKN (c_D_has l G _ a b sd k n fb f p1 (hP.sub [0, 1] rfl) hn) kc_D_46 ⟨rfl, rfl⟩ ⟨Nat.le_of_ble_eq_true rfl, Nat.le_of_ble_eq_true rfl⟩ (va_recv hK hP (ci := 1) (q0 := 0) rfl rfl) rfl hl.1 rfl (Nat.le_of_ble_eq_true rfl) d_D_fact_2 ⟨Nat.le_of_ble_eq_true rfl, Nat.le_of_ble_eq_true rfl⟩) ?_
  refine lv_if_ne (tgt := 10) hx hb d_D_fact_5 (by decide) (fun c1 => ?_) (fun c1 => ?_)
  · refine lv_aload_n hx hb d_D_fact_10 rfl (lv_at hl 0 rfl) ?_
    refine va_get (D := G.1) (ci := 1) (v := .ref b) (C := R_D) (T := F_D) (N := 5) hx hb ht in_D hown hK hP 0 rfl rfl 0 (by decide) (ht _ kf_D_9) (fun _ h9 => h9) rfl d_D_fact_11 ?_
    refine lv_iload_n hx hb d_D_fact_14 rfl (lv_at hl 1 rfl) ?_
    refine va_lald hx hb hK hP 1 0 rfl rfl (i := p1) (has_in hn c1) d_D_fact_15 ?_
    refine lv_lstore_n (lv' := [(3, .long (f p1.toNatClampNeg)), (0, .ref a), (1, .int p1), (2, .int p2)]) hx hb d_D_fact_16 rfl hl (by decide) rfl (fun ls hl => ?_)
    refine lv_iload_n hx hb d_D_fact_17 rfl (lv_at hl 3 rfl) ?_
    by_cases c2 : p2 = 1
    · subst c2
      refine lv_tableIn (tgt := 48) hx hb d_D_fact_18 (by decide) (by decide) rfl (by decide) ?_
      refine lv_ldc2 (v := 2) hx hb hown (ht _ kl_D_50) d_D_fact_48 ?_
      refine lv_lload_n hx hb d_D_fact_51 rfl (lv_at hl 0 rfl) ?_
      refine lv_iconst (v := 1) hx hb d_D_fact_52 (by decide) ?_
      refine lv_lushr hx hb d_D_fact_53 rfl ?_
      refine lv_ldc2 (v := 50) hx hb hown (ht _ kl_D_52) d_D_fact_54 ?_
      refine lv_lrem hx hb d_D_fact_57 (by decide) ?_
      refine lv_lmul hx hb d_D_fact_58 ?_
      refine lv_lload_n hx hb d_D_fact_59 rfl (lv_at hl 0 rfl) ?_
      refine lv_lconst (v := 1) hx hb d_D_fact_60 (by decide) ?_
      refine lv_land hx hb d_D_fact_61 ?_
      refine lv_ladd hx hb d_D_fact_62 ?_
      refine lv_l2i hx hb d_D_fact_63 rfl ?_
      exact W.iret (v := (((2 * ((((f p1.toNatClampNeg).toUInt64 >>> ((1 : Int32).toInt64.toUInt64 &&& Int64.toUInt64 63)).toInt64) - (((f p1.toNatClampNeg).toUInt64 >>> ((1 : Int32).toInt64.toUInt64 &&& Int64.toUInt64 63)).toInt64) / 50 * 50)) + ((f p1.toNatClampNeg) &&& 1)).toInt32)) hx hb hr (fun t h9 _ => ⟨congrArg (fun z => Outcome.returned (some (Value.int z))) (by unfold fn_D_fact; rw [if_neg c1, if_pos rfl]), h9⟩) (fun _ h => nomatch h) d_D_fact_64
    by_cases c3 : p2 = 2
    · subst c3
      refine lv_tableIn (tgt := 65) hx hb d_D_fact_18 (by decide) (by decide) rfl (by decide) ?_
      refine lv_lload_n hx hb d_D_fact_65 rfl (lv_at hl 0 rfl) ?_
      refine lv_bipush (v := 8) hx hb d_D_fact_66 (by decide) ?_
      refine lv_lushr hx hb d_D_fact_68 rfl ?_
      refine lv_ldc2 (v := 1000) hx hb hown (ht _ kl_D_54) d_D_fact_69 ?_
      refine lv_lrem hx hb d_D_fact_72 (by decide) ?_
      refine lv_l2i hx hb d_D_fact_73 rfl ?_
      exact W.iret (v := (((((f p1.toNatClampNeg).toUInt64 >>> ((8 : Int32).toInt64.toUInt64 &&& Int64.toUInt64 63)).toInt64) - (((f p1.toNatClampNeg).toUInt64 >>> ((8 : Int32).toInt64.toUInt64 &&& Int64.toUInt64 63)).toInt64) / 1000 * 1000).toInt32)) hx hb hr (fun t h9 _ => ⟨congrArg (fun z => Outcome.returned (some (Value.int z))) (by unfold fn_D_fact; rw [if_neg c1, if_neg (by decide : ¬ (2 : Int32) = 1), if_pos rfl]), h9⟩) (fun _ h => nomatch h) d_D_fact_74
    by_cases c4 : p2 = 3
    · subst c4
      refine lv_tableIn (tgt := 75) hx hb d_D_fact_18 (by decide) (by decide) rfl (by decide) ?_
      refine lv_lload_n hx hb d_D_fact_75 rfl (lv_at hl 0 rfl) ?_
      refine lv_bipush (v := 24) hx hb d_D_fact_76 (by decide) ?_
      refine lv_lushr hx hb d_D_fact_78 rfl ?_
      refine lv_ldc2 (v := 24) hx hb hown (ht _ kl_D_56) d_D_fact_79 ?_
      refine lv_lrem hx hb d_D_fact_82 (by decide) ?_
      refine lv_l2i hx hb d_D_fact_83 rfl ?_
      exact W.iret (v := (((((f p1.toNatClampNeg).toUInt64 >>> ((24 : Int32).toInt64.toUInt64 &&& Int64.toUInt64 63)).toInt64) - (((f p1.toNatClampNeg).toUInt64 >>> ((24 : Int32).toInt64.toUInt64 &&& Int64.toUInt64 63)).toInt64) / 24 * 24).toInt32)) hx hb hr (fun t h9 _ => ⟨congrArg (fun z => Outcome.returned (some (Value.int z))) (by unfold fn_D_fact; rw [if_neg c1, if_neg (by decide : ¬ (3 : Int32) = 1), if_neg (by decide : ¬ (3 : Int32) = 2), if_pos rfl]), h9⟩) (fun _ h => nomatch h) d_D_fact_84
    by_cases c5 : p2 = 4
    · subst c5
      refine lv_tableIn (tgt := 85) hx hb d_D_fact_18 (by decide) (by decide) rfl (by decide) ?_
      refine lv_lload_n hx hb d_D_fact_85 rfl (lv_at hl 0 rfl) ?_
      refine lv_bipush (v := 40) hx hb d_D_fact_86 (by decide) ?_
      refine lv_lushr hx hb d_D_fact_88 rfl ?_
      refine lv_ldc2 (v := 2) hx hb hown (ht _ kl_D_50) d_D_fact_89 ?_
      refine lv_lrem hx hb d_D_fact_92 (by decide) ?_
      refine lv_l2i hx hb d_D_fact_93 rfl ?_
      exact W.iret (v := (((((f p1.toNatClampNeg).toUInt64 >>> ((40 : Int32).toInt64.toUInt64 &&& Int64.toUInt64 63)).toInt64) - (((f p1.toNatClampNeg).toUInt64 >>> ((40 : Int32).toInt64.toUInt64 &&& Int64.toUInt64 63)).toInt64) / 2 * 2).toInt32)) hx hb hr (fun t h9 _ => ⟨congrArg (fun z => Outcome.returned (some (Value.int z))) (by unfold fn_D_fact; rw [if_neg c1, if_neg (by decide : ¬ (4 : Int32) = 1), if_neg (by decide : ¬ (4 : Int32) = 2), if_neg (by decide : ¬ (4 : Int32) = 3), if_pos rfl]), h9⟩) (fun _ h => nomatch h) d_D_fact_94
    refine lv_tableOut (tgt := 95) hx hb d_D_fact_18 (sw_out c2 c3 c4 c5) (by decide) ?_
    refine lv_iconst (v := (-1)) hx hb d_D_fact_95 (by decide) ?_
    exact W.iret (v := (-1)) hx hb hr (fun t h9 _ => ⟨congrArg (fun z => Outcome.returned (some (Value.int z))) (by unfold fn_D_fact; rw [if_neg c1, if_neg c2, if_neg c3, if_neg c4, if_neg c5]), h9⟩) (fun _ h => nomatch h) d_D_fact_96
  · refine lv_iconst (v := (-1)) hx hb d_D_fact_8 (by decide) ?_
    exact W.iret (v := (-1)) hx hb hr (fun t h9 _ => ⟨congrArg (fun z => Outcome.returned (some (Value.int z))) (by unfold fn_D_fact; rw [if_pos c1]), h9⟩) (fun _ h => nomatch h) d_D_fact_9
def fn_D_isAbove (n : Nat) (f : Nat → Int64) (p1 : Int32) (p2 : Int32) : Int32 := (if (fn_D_has n p1) = 0 then 0 else (if (fn_D_has n p2) = 0 then 0 else (if 0 < (lg_cmp ((f p1.toNatClampNeg) ^^^ (-9223372036854775808)) ((f p2.toNatClampNeg) ^^^ (-9223372036854775808))) then 1 else (if (lg_cmp ((f p1.toNatClampNeg) ^^^ (-9223372036854775808)) ((f p2.toNatClampNeg) ^^^ (-9223372036854775808))) = 0 then (if p1 ≤ p2 then 0 else 1) else 0))))
set_option maxHeartbeats 4000000 in
set_option maxRecDepth 100000 in
theorem c_D_isAbove (l : Launch) (G : GT) (H : Heap) (a : Nat) (b : Nat) (sd : Int64) (k : Int32) (n : Nat) (fb : Int32) (f : Nat → Int64) (p1 : Int32) (p2 : Int32) (hP : va_P G.1 classes [(a, .inr (1, [.ref b, .long sd, .int k, .int (nI n), .int fb])), (b, .inl (G.2.1, 16, .inr (.inl f)))] H) (hn : n ≤ 16) : Met l y_D_isAbove (Cond.code y_D_isAbove b_D_isAbove 7 (some .boolean) :: TG) ({ frames := 1, cells := 0, slots := 0, locals := 21 }) (PC G H [.ref a, .int p1, .int p2]) (QcRead (fn_D_isAbove n f p1 p2)) 0 0 (fun _ => False) := by
  refine Met.ofW (cc := b_D_isAbove) (maxL := 7) (ret := (some .boolean)) (by decide) rfl ?_
  intro p e s m args below meth c s₁ B hml hv
  obtain ⟨rfl, hH, hKN⟩ := hv
  subst hH
  have hx := B.exec
  have hb := B.bytes
  have hr := B.returns
  have hts := atoms_spec (ws := (Cond.code y_D_isAbove b_D_isAbove 7 (some .boolean) :: TG)) B.pre
  have ht : ∀ w ∈ TG, w.before _ s = true := fun w h => hts w (List.mem_cons_of_mem _ h)
  have hown : s.vm.findClass R_D = some m.cls := findClass_of_methodNamed B.named
  have hlocks := B.notSynchronized
  have hK := hKN.1
  have hl := lv_entry ([.ref a, .int p1, .int p2]) (n := 7) (Nat.le_of_ble_eq_true rfl)
  rw [lg_entry_eq]
  generalize (lg_sl ([.ref a, .int p1, .int p2]) ++ List.replicate (7 - (lg_sl ([.ref a, .int p1, .int p2])).length) Slot.unset).toArray = ls at hl ⊢
  have hl : lv_has ls 7 [(0, .ref a), (1, .int p1), (2, .int p2)] := hl
  refine lv_aload_n hx hb d_D_isAbove_0 rfl (lv_at hl 0 rfl) ?_
  refine lv_iload_n hx hb d_D_isAbove_1 rfl (lv_at hl 1 rfl) ?_
  refine pr_i (ru_V (b := a) (As := [.int p1]) (rest := []) ⟨hx, hb, hml, hown, ht⟩ hKN (c_D_has l G _ a b sd k n fb f p1 (hP.sub [0, 1] rfl) hn) kc_D_46 ⟨rfl, rfl⟩ ⟨Nat.le_of_ble_eq_true rfl, Nat.le_of_ble_eq_true rfl⟩ (va_recv hK hP (ci := 1) (q0 := 0) rfl rfl) rfl hl.1 rfl (Nat.le_of_ble_eq_true rfl) d_D_isAbove_2 ⟨Nat.le_of_ble_eq_true rfl, Nat.le_of_ble_eq_true rfl⟩) ?_
  refine lv_if_eq (tgt := 16) hx hb d_D_isAbove_5 (by decide) (fun c1 => ?_) (fun c1 => ?_)
  · refine lv_iconst (v := 0) hx hb d_D_isAbove_16 (by decide) ?_
    exact W.zret (v := 0) hx hb hr rfl (fun t h9 _ => ⟨congrArg (fun z => Outcome.returned (some (Value.int z))) (by unfold fn_D_isAbove; rw [if_pos c1]), h9⟩) (fun _ h => nomatch h) d_D_isAbove_17
  · refine lv_aload_n hx hb d_D_isAbove_8 rfl (lv_at hl 0 rfl) ?_
    refine lv_iload_n hx hb d_D_isAbove_9 rfl (lv_at hl 2 rfl) ?_
    refine pr_i (ru_V (b := a) (As := [.int p2]) (rest := []) ⟨hx, hb, hml, hown, ht⟩ hKN (c_D_has l G _ a b sd k n fb f p2 (hP.sub [0, 1] rfl) hn) kc_D_46 ⟨rfl, rfl⟩ ⟨Nat.le_of_ble_eq_true rfl, Nat.le_of_ble_eq_true rfl⟩ (va_recv hK hP (ci := 1) (q0 := 0) rfl rfl) rfl hl.1 rfl (Nat.le_of_ble_eq_true rfl) d_D_isAbove_10 ⟨Nat.le_of_ble_eq_true rfl, Nat.le_of_ble_eq_true rfl⟩) ?_
    refine lv_if_ne (tgt := 18) hx hb d_D_isAbove_13 (by decide) (fun c2 => ?_) (fun c2 => ?_)
    · refine lv_aload_n hx hb d_D_isAbove_18 rfl (lv_at hl 0 rfl) ?_
      refine va_get (D := G.1) (ci := 1) (v := .ref b) (C := R_D) (T := F_D) (N := 5) hx hb ht in_D hown hK hP 0 rfl rfl 0 (by decide) (ht _ kf_D_9) (fun _ h9 => h9) rfl d_D_isAbove_19 ?_
      refine lv_iload_n hx hb d_D_isAbove_22 rfl (lv_at hl 1 rfl) ?_
      refine va_lald hx hb hK hP 1 0 rfl rfl (i := p1) (has_in hn c1) d_D_isAbove_23 ?_
      refine lv_ldc2 (v := (-9223372036854775808)) hx hb hown (ht _ kl_D_68) d_D_isAbove_24 ?_
      refine lv_lxor hx hb d_D_isAbove_27 ?_
      refine lv_lstore_n (lv' := [(3, .long ((f p1.toNatClampNeg) ^^^ (-9223372036854775808))), (0, .ref a), (1, .int p1), (2, .int p2)]) hx hb d_D_isAbove_28 rfl hl (by decide) rfl (fun ls hl => ?_)
      refine lv_aload_n hx hb d_D_isAbove_29 rfl (lv_at hl 1 rfl) ?_
      refine va_get (D := G.1) (ci := 1) (v := .ref b) (C := R_D) (T := F_D) (N := 5) hx hb ht in_D hown hK hP 0 rfl rfl 0 (by decide) (ht _ kf_D_9) (fun _ h9 => h9) rfl d_D_isAbove_30 ?_
      refine lv_iload_n hx hb d_D_isAbove_33 rfl (lv_at hl 3 rfl) ?_
      refine va_lald hx hb hK hP 1 0 rfl rfl (i := p2) (has_in hn c2) d_D_isAbove_34 ?_
      refine lv_ldc2 (v := (-9223372036854775808)) hx hb hown (ht _ kl_D_68) d_D_isAbove_35 ?_
      refine lv_lxor hx hb d_D_isAbove_38 ?_
      refine lv_lstore (lv' := [(5, .long ((f p2.toNatClampNeg) ^^^ (-9223372036854775808))), (3, .long ((f p1.toNatClampNeg) ^^^ (-9223372036854775808))), (0, .ref a), (1, .int p1), (2, .int p2)]) hx hb d_D_isAbove_39 hl (by decide) rfl (fun ls hl => ?_)
      refine lv_lload_n hx hb d_D_isAbove_41 rfl (lv_at hl 1 rfl) ?_
      refine lv_lload hx hb d_D_isAbove_42 (lv_at hl 0 rfl) ?_
      refine W.lcmp hx hb d_D_isAbove_44 ?_
      refine lv_if_gt (tgt := 60) hx hb d_D_isAbove_45 (by decide) (fun c3 => ?_) (fun c3 => ?_)
      · refine lv_iconst (v := 1) hx hb d_D_isAbove_60 (by decide) ?_
        refine lv_goto (tgt := 65) hx hb d_D_isAbove_61 (by decide) ?_
        exact W.zret (v := 1) hx hb hr rfl (fun t h9 _ => ⟨congrArg (fun z => Outcome.returned (some (Value.int z))) (by unfold fn_D_isAbove; rw [if_neg c1, if_neg c2, if_pos c3]), h9⟩) (fun _ h => nomatch h) d_D_isAbove_65
      · refine lv_lload_n hx hb d_D_isAbove_48 rfl (lv_at hl 1 rfl) ?_
        refine lv_lload hx hb d_D_isAbove_49 (lv_at hl 0 rfl) ?_
        refine W.lcmp hx hb d_D_isAbove_51 ?_
        refine lv_if_ne (tgt := 64) hx hb d_D_isAbove_52 (by decide) (fun c4 => ?_) (fun c4 => ?_)
        · refine lv_iconst (v := 0) hx hb d_D_isAbove_64 (by decide) ?_
          exact W.zret (v := 0) hx hb hr rfl (fun t h9 _ => ⟨congrArg (fun z => Outcome.returned (some (Value.int z))) (by unfold fn_D_isAbove; rw [if_neg c1, if_neg c2, if_neg c3, if_neg c4]), h9⟩) (fun _ h => nomatch h) d_D_isAbove_65
        · refine lv_iload_n hx hb d_D_isAbove_55 rfl (lv_at hl 3 rfl) ?_
          refine lv_iload_n hx hb d_D_isAbove_56 rfl (lv_at hl 4 rfl) ?_
          refine lv_icmp_le (tgt := 64) hx hb d_D_isAbove_57 (by decide) (fun c5 => ?_) (fun c5 => ?_)
          · refine lv_iconst (v := 0) hx hb d_D_isAbove_64 (by decide) ?_
            exact W.zret (v := 0) hx hb hr rfl (fun t h9 _ => ⟨congrArg (fun z => Outcome.returned (some (Value.int z))) (by unfold fn_D_isAbove; rw [if_neg c1, if_neg c2, if_neg c3, if_pos c4, if_pos c5]), h9⟩) (fun _ h => nomatch h) d_D_isAbove_65
          · refine lv_iconst (v := 1) hx hb d_D_isAbove_60 (by decide) ?_
            refine lv_goto (tgt := 65) hx hb d_D_isAbove_61 (by decide) ?_
            exact W.zret (v := 1) hx hb hr rfl (fun t h9 _ => ⟨congrArg (fun z => Outcome.returned (some (Value.int z))) (by unfold fn_D_isAbove; rw [if_neg c1, if_neg c2, if_neg c3, if_pos c4, if_neg c5]), h9⟩) (fun _ h => nomatch h) d_D_isAbove_65
    · refine lv_iconst (v := 0) hx hb d_D_isAbove_16 (by decide) ?_
      exact W.zret (v := 0) hx hb hr rfl (fun t h9 _ => ⟨congrArg (fun z => Outcome.returned (some (Value.int z))) (by unfold fn_D_isAbove; rw [if_neg c1, if_pos c2]), h9⟩) (fun _ h => nomatch h) d_D_isAbove_17
def zA (z : Int64) : Int64 := (z ^^^ (z.toUInt64 >>> ((30 : Int32).toInt64.toUInt64 &&& Int64.toUInt64 63)).toInt64) * (-4658895280553007687)
def zB (z : Int64) : Int64 := (z ^^^ (z.toUInt64 >>> ((27 : Int32).toInt64.toUInt64 &&& Int64.toUInt64 63)).toInt64) * (-7723592293110705685)
def zC (z : Int64) : Int64 := z ^^^ (z.toUInt64 >>> ((31 : Int32).toInt64.toUInt64 &&& Int64.toUInt64 63)).toInt64
/-- THE NUMBER of a seed, a kind and a place -/
def zN (sd : Int64) (k i : Int32) : Int64 := zC (zB (zA (sd + ((1 + i.toInt64) + 64 * k.toInt64) * (-7046029254386353131))))
set_option maxHeartbeats 4000000 in
set_option maxRecDepth 100000 in
theorem c_P_number (l : Launch) (G : GT) (H : Heap) (sd : Int64) (k : Int32) (i : Int32) : Met l y_P_number (Cond.code y_P_number b_P_number 6 (some .long) :: TG) ({ frames := 0, cells := 0, slots := 0, locals := 0 }) (PC G H [.long sd, .int k, .int i]) (QcReadL (zN sd k i)) 0 0 (fun _ => False) := by
  refine Met.ofW (cc := b_P_number) (maxL := 6) (ret := (some .long)) (by decide) rfl ?_
  intro p e s m args below meth c s₁ B hml hv
  obtain ⟨rfl, hH, hKN⟩ := hv
  subst hH
  have hx := B.exec
  have hb := B.bytes
  have hr := B.returns
  have hts := atoms_spec (ws := (Cond.code y_P_number b_P_number 6 (some .long) :: TG)) B.pre
  have ht : ∀ w ∈ TG, w.before _ s = true := fun w h => hts w (List.mem_cons_of_mem _ h)
  have hown : s.vm.findClass R_P = some m.cls := findClass_of_methodNamed B.named
  have hlocks := B.notSynchronized
  have hK := hKN.1
  have hl := lv_entry ([.long sd, .int k, .int i]) (n := 6) (Nat.le_of_ble_eq_true rfl)
  rw [lg_entry_eq]
  generalize (lg_sl ([.long sd, .int k, .int i]) ++ List.replicate (6 - (lg_sl ([.long sd, .int k, .int i])).length) Slot.unset).toArray = ls at hl ⊢
  have hl : lv_has ls 6 [(0, .long sd), (2, .int k), (3, .int i)] := hl
  refine lv_lload_n hx hb d_P_number_0 rfl (lv_at hl 0 rfl) ?_
  refine lv_lconst (v := 1) hx hb d_P_number_1 (by decide) ?_
  refine lv_iload_n hx hb d_P_number_2 rfl (lv_at hl 2 rfl) ?_
  refine lv_i2l hx hb d_P_number_3 rfl ?_
  refine lv_ladd hx hb d_P_number_4 ?_
  refine lv_ldc2 (v := 64) hx hb hown (ht _ kl_P_123) d_P_number_5 ?_
  refine lv_iload_n hx hb d_P_number_8 rfl (lv_at hl 1 rfl) ?_
  refine lv_i2l hx hb d_P_number_9 rfl ?_
  refine lv_lmul hx hb d_P_number_10 ?_
  refine lv_ladd hx hb d_P_number_11 ?_
  refine lv_ldc2 (v := (-7046029254386353131)) hx hb hown (ht _ kl_P_125) d_P_number_12 ?_
  refine lv_lmul hx hb d_P_number_15 ?_
  refine lv_ladd hx hb d_P_number_16 ?_
  refine lv_topl (fun v1 e1 => ?_)
  refine lv_lstore (lv' := [(4, .long v1), (0, .long sd), (2, .int k), (3, .int i)]) hx hb d_P_number_17 hl (by decide) rfl (fun ls hl => ?_)
  refine lv_lload hx hb d_P_number_19 (lv_at hl 0 rfl) ?_
  refine lv_lload hx hb d_P_number_21 (lv_at hl 0 rfl) ?_
  refine lv_bipush (v := 30) hx hb d_P_number_23 (by decide) ?_
  refine lv_lushr hx hb d_P_number_25 rfl ?_
  refine lv_lxor hx hb d_P_number_26 ?_
  refine lv_ldc2 (v := (-4658895280553007687)) hx hb hown (ht _ kl_P_127) d_P_number_27 ?_
  refine lv_lmul hx hb d_P_number_30 ?_
  refine lv_topl (fun v2 e2 => ?_)
  refine lv_lstore (lv' := [(4, .long v2), (0, .long sd), (2, .int k), (3, .int i)]) hx hb d_P_number_31 hl (by decide) rfl (fun ls hl => ?_)
  refine lv_lload hx hb d_P_number_33 (lv_at hl 0 rfl) ?_
  refine lv_lload hx hb d_P_number_35 (lv_at hl 0 rfl) ?_
  refine lv_bipush (v := 27) hx hb d_P_number_37 (by decide) ?_
  refine lv_lushr hx hb d_P_number_39 rfl ?_
  refine lv_lxor hx hb d_P_number_40 ?_
  refine lv_ldc2 (v := (-7723592293110705685)) hx hb hown (ht _ kl_P_129) d_P_number_41 ?_
  refine lv_lmul hx hb d_P_number_44 ?_
  refine lv_topl (fun v3 e3 => ?_)
  refine lv_lstore (lv' := [(4, .long v3), (0, .long sd), (2, .int k), (3, .int i)]) hx hb d_P_number_45 hl (by decide) rfl (fun ls hl => ?_)
  refine lv_lload hx hb d_P_number_47 (lv_at hl 0 rfl) ?_
  refine lv_lload hx hb d_P_number_49 (lv_at hl 0 rfl) ?_
  refine lv_bipush (v := 31) hx hb d_P_number_51 (by decide) ?_
  refine lv_lushr hx hb d_P_number_53 rfl ?_
  refine lv_lxor hx hb d_P_number_54 ?_
  exact W.lret (v := (v3 ^^^ ((v3.toUInt64 >>> ((31 : Int32).toInt64.toUInt64 &&& Int64.toUInt64 63)).toInt64))) hx hb hr (fun t h9 _ => ⟨congrArg (fun z => Outcome.returned (some (Value.long z))) (by subst e1; subst e2; subst e3; rfl), h9⟩) (fun _ h => nomatch h) d_P_number_55
def ca (n : Nat) (f : Nat → Int64) (i : Int32) : Nat → Int32
  | 0 => 0
  | j + 1 => if fn_D_isAbove n f (nI j) i = 0 then ca n f i j else ca n f i j + 1
set_option maxHeartbeats 4000000 in
set_option maxRecDepth 100000 in
theorem c_D_countAbove (l : Launch) (G : GT) (H : Heap) (a : Nat) (b : Nat) (sd : Int64) (k : Int32) (n : Nat) (fb : Int32) (f : Nat → Int64) (p1 : Int32) (hP : va_P G.1 classes [(a, .inr (1, [.ref b, .long sd, .int k, .int (nI n), .int fb])), (b, .inl (G.2.1, 16, .inr (.inl f)))] H) (hn : n ≤ 16) : Met l y_D_countAbove (Cond.code y_D_countAbove b_D_countAbove 4 (some .int) :: TG) ({ frames := 2, cells := 0, slots := 0, locals := 47 }) (PC G H [.ref a, .int p1]) (QcRead (ca n f p1 n)) 0 0 (fun _ => False) := by
  refine Met.ofW (cc := b_D_countAbove) (maxL := 4) (ret := (some .int)) (by decide) rfl ?_
  intro p e s m args below meth c s₁ B hml hv
  obtain ⟨rfl, hH, hKN⟩ := hv
  subst hH
  have hx := B.exec
  have hb := B.bytes
  have hr := B.returns
  have hts := atoms_spec (ws := (Cond.code y_D_countAbove b_D_countAbove 4 (some .int) :: TG)) B.pre
  have ht : ∀ w ∈ TG, w.before _ s = true := fun w h => hts w (List.mem_cons_of_mem _ h)
  have hown : s.vm.findClass R_D = some m.cls := findClass_of_methodNamed B.named
  have hlocks := B.notSynchronized
  have hK := hKN.1
  have hl := lv_entry ([.ref a, .int p1]) (n := 4) (Nat.le_of_ble_eq_true rfl)
  rw [lg_entry_eq]
  generalize (lg_sl ([.ref a, .int p1]) ++ List.replicate (4 - (lg_sl ([.ref a, .int p1])).length) Slot.unset).toArray = ls at hl ⊢
  have hl : lv_has ls 4 [(0, .ref a), (1, .int p1)] := hl
  refine lv_iconst (v := 0) hx hb d_D_countAbove_0 (by decide) ?_
  refine lv_istore_n (lv' := [(2, .int 0), (0, .ref a), (1, .int p1)]) hx hb d_D_countAbove_1 rfl hl (by decide) rfl (fun ls hl => ?_)
  refine lv_iconst (v := 0) hx hb d_D_countAbove_2 (by decide) ?_
  refine lv_istore_n (lv' := [(3, .int 0), (2, .int 0), (0, .ref a), (1, .int p1)]) hx hb d_D_countAbove_3 rfl hl (by decide) rfl (fun ls hl => ?_)
  have loop : ∀ (kk j : Nat) (ls : Array Slot), j + kk = n → lv_has ls 4 [(0, .ref a), (1, .int p1), (2, .int (ca n f p1 j)), (3, .int (nI j))] → W p l e (headSpec (Cond.code y_D_countAbove b_D_countAbove 4 (some .int) :: TG) ({ frames := 2, cells := 0, slots := 0, locals := 47 })).room s m ([.ref a, .int p1] : List Value).toArray below meth c s.heap [] 0 0 (MQ below (QcRead (ca n f p1 n)) ([.ref a, .int p1] : List Value).toArray s 0 0 (fun _ => False)) (F0 m 4 ls []) := by
    intro kk
    induction kk with
    | zero =>
      intro j  ls hj  hl
      refine lv_iload_n hx hb d_D_countAbove_4 rfl (lv_at hl 3 rfl) ?_
      refine lv_aload_n hx hb d_D_countAbove_5 rfl (lv_at hl 0 rfl) ?_
      refine va_get (D := G.1) (ci := 1) (v := .int (nI n)) (C := R_D) (T := F_D) (N := 5) hx hb ht in_D hown hK hP 0 rfl rfl 3 (by decide) (ht _ kf_D_23) (fun _ h9 => h9) rfl d_D_countAbove_6 ?_
      refine lv_icmp_ge (tgt := 30) hx hb d_D_countAbove_9 (by decide) (fun c1 => ?_) (fun c1 => ?_)
      · refine lv_iload_n hx hb d_D_countAbove_30 rfl (lv_at hl 2 rfl) ?_
        exact W.iret (v := ca n f p1 j) hx hb hr (fun t h9 _ => ⟨congrArg (fun z => Outcome.returned (some (Value.int z))) (by rw [show j = n by omega]), h9⟩) (fun _ h => nomatch h) d_D_countAbove_31
      · exact absurd (show nI n ≤ nI j from nI_le (by omega) (by omega)) c1
    | succ kk ih =>
      intro j  ls hj  hl
      refine lv_iload_n hx hb d_D_countAbove_4 rfl (lv_at hl 3 rfl) ?_
      refine lv_aload_n hx hb d_D_countAbove_5 rfl (lv_at hl 0 rfl) ?_
      refine va_get (D := G.1) (ci := 1) (v := .int (nI n)) (C := R_D) (T := F_D) (N := 5) hx hb ht in_D hown hK hP 0 rfl rfl 3 (by decide) (ht _ kf_D_23) (fun _ h9 => h9) rfl d_D_countAbove_6 ?_
      refine lv_icmp_ge (tgt := 30) hx hb d_D_countAbove_9 (by decide) (fun c2 => ?_) (fun c2 => ?_)
      · exact absurd c2 (nI_ge (show j < n by omega) (by omega))
      · refine lv_aload_n hx hb d_D_countAbove_12 rfl (lv_at hl 0 rfl) ?_
        refine lv_iload_n hx hb d_D_countAbove_13 rfl (lv_at hl 3 rfl) ?_
        refine lv_iload_n hx hb d_D_countAbove_14 rfl (lv_at hl 1 rfl) ?_
        refine pr_i (ru_V (b := a) (As := [.int (nI j), .int p1]) (rest := []) ⟨hx, hb, hml, hown, ht⟩ hKN (c_D_isAbove l G _ a b sd k n fb f (nI j) p1 (hP.sub [0, 1] rfl) hn) kc_D_62 ⟨rfl, rfl⟩ ⟨Nat.le_of_ble_eq_true rfl, Nat.le_of_ble_eq_true rfl⟩ (va_recv hK hP (ci := 1) (q0 := 0) rfl rfl) rfl hl.1 rfl (Nat.le_of_ble_eq_true rfl) d_D_countAbove_15 ⟨Nat.le_of_ble_eq_true rfl, Nat.le_of_ble_eq_true rfl⟩) ?_
        refine lv_if_eq (tgt := 24) hx hb d_D_countAbove_18 (by decide) (fun c3 => ?_) (fun c3 => ?_)
        · refine lv_iinc (v := nI (j + 1)) (lv' := [(3, .int (nI (j + 1))), (0, .ref a), (1, .int p1), (2, .int (ca n f p1 j))]) hx hb d_D_countAbove_24 hl (k := 3) rfl (nI_1 j) (by decide) rfl (fun ls hl => ?_)
          refine lv_goto (tgt := 4) hx hb d_D_countAbove_27 (by decide) ?_
          exact ih (j + 1) ls (by omega) (by rw [show ca n f p1 (j + 1) = ca n f p1 j from by simp only [ca]; rw [if_pos c3]]; exact lv_sub hl [1, 2, 3, 0] rfl)
        · refine lv_iinc (v := (ca n f p1 j) + 1) (lv' := [(2, .int ((ca n f p1 j) + 1)), (0, .ref a), (1, .int p1), (3, .int (nI j))]) hx hb d_D_countAbove_21 hl (k := 2) rfl rfl (by decide) rfl (fun ls hl => ?_)
          refine lv_iinc (v := nI (j + 1)) (lv' := [(3, .int (nI (j + 1))), (2, .int ((ca n f p1 j) + 1)), (0, .ref a), (1, .int p1)]) hx hb d_D_countAbove_24 hl (k := 3) rfl (nI_1 j) (by decide) rfl (fun ls hl => ?_)
          refine lv_goto (tgt := 4) hx hb d_D_countAbove_27 (by decide) ?_
          exact ih (j + 1) ls (by omega) (by rw [show ca n f p1 (j + 1) = (ca n f p1 j) + 1 from by simp only [ca]; rw [if_neg c3]]; exact lv_sub hl [2, 3, 1, 0] rfl)
  exact loop n 0 ls (by omega) (by exact lv_sub hl [2, 3, 1, 0] rfl)
def gh (n : Nat) (f : Nat → Int64) : Nat → Int32
  | 0 => 0
  | i + 1 => if nI n / 2 ≤ ca n f (nI i) n then gh n f i else gh n f i ||| ((1 : Int32) <<< (nI i &&& 31))
set_option maxHeartbeats 4000000 in
set_option maxRecDepth 100000 in
theorem c_D_greaterHalf (l : Launch) (G : GT) (H : Heap) (a : Nat) (b : Nat) (sd : Int64) (k : Int32) (n : Nat) (fb : Int32) (f : Nat → Int64) (hP : va_P G.1 classes [(a, .inr (1, [.ref b, .long sd, .int k, .int (nI n), .int fb])), (b, .inl (G.2.1, 16, .inr (.inl f)))] H) (hn : n ≤ 16) : Met l y_D_greaterHalf (Cond.code y_D_greaterHalf b_D_greaterHalf 3 (some .int) :: TG) ({ frames := 3, cells := 0, slots := 0, locals := 70 }) (PC G H [.ref a]) (QcRead (gh n f n)) 0 0 (fun _ => False) := by
  refine Met.ofW (cc := b_D_greaterHalf) (maxL := 3) (ret := (some .int)) (by decide) rfl ?_
  intro p e s m args below meth c s₁ B hml hv
  obtain ⟨rfl, hH, hKN⟩ := hv
  subst hH
  have hx := B.exec
  have hb := B.bytes
  have hr := B.returns
  have hts := atoms_spec (ws := (Cond.code y_D_greaterHalf b_D_greaterHalf 3 (some .int) :: TG)) B.pre
  have ht : ∀ w ∈ TG, w.before _ s = true := fun w h => hts w (List.mem_cons_of_mem _ h)
  have hown : s.vm.findClass R_D = some m.cls := findClass_of_methodNamed B.named
  have hlocks := B.notSynchronized
  have hK := hKN.1
  have hl := lv_entry ([.ref a]) (n := 3) (Nat.le_of_ble_eq_true rfl)
  rw [lg_entry_eq]
  generalize (lg_sl ([.ref a]) ++ List.replicate (3 - (lg_sl ([.ref a])).length) Slot.unset).toArray = ls at hl ⊢
  have hl : lv_has ls 3 [(0, .ref a)] := hl
  refine lv_iconst (v := 0) hx hb d_D_greaterHalf_0 (by decide) ?_
  refine lv_istore_n (lv' := [(1, .int 0), (0, .ref a)]) hx hb d_D_greaterHalf_1 rfl hl (by decide) rfl (fun ls hl => ?_)
  refine lv_iconst (v := 0) hx hb d_D_greaterHalf_2 (by decide) ?_
  refine lv_istore_n (lv' := [(2, .int 0), (1, .int 0), (0, .ref a)]) hx hb d_D_greaterHalf_3 rfl hl (by decide) rfl (fun ls hl => ?_)
  have loop : ∀ (kk j : Nat) (ls : Array Slot), j + kk = n → lv_has ls 3 [(0, .ref a), (1, .int (gh n f j)), (2, .int (nI j))] → W p l e (headSpec (Cond.code y_D_greaterHalf b_D_greaterHalf 3 (some .int) :: TG) ({ frames := 3, cells := 0, slots := 0, locals := 70 })).room s m ([.ref a] : List Value).toArray below meth c s.heap [] 0 0 (MQ below (QcRead (gh n f n)) ([.ref a] : List Value).toArray s 0 0 (fun _ => False)) (F0 m 4 ls []) := by
    intro kk
    induction kk with
    | zero =>
      intro j  ls hj  hl
      refine lv_iload_n hx hb d_D_greaterHalf_4 rfl (lv_at hl 2 rfl) ?_
      refine lv_aload_n hx hb d_D_greaterHalf_5 rfl (lv_at hl 0 rfl) ?_
      refine va_get (D := G.1) (ci := 1) (v := .int (nI n)) (C := R_D) (T := F_D) (N := 5) hx hb ht in_D hown hK hP 0 rfl rfl 3 (by decide) (ht _ kf_D_23) (fun _ h9 => h9) rfl d_D_greaterHalf_6 ?_
      refine lv_icmp_ge (tgt := 38) hx hb d_D_greaterHalf_9 (by decide) (fun c1 => ?_) (fun c1 => ?_)
      · refine lv_iload_n hx hb d_D_greaterHalf_38 rfl (lv_at hl 1 rfl) ?_
        exact W.iret (v := gh n f j) hx hb hr (fun t h9 _ => ⟨congrArg (fun z => Outcome.returned (some (Value.int z))) (by rw [show j = n by omega]), h9⟩) (fun _ h => nomatch h) d_D_greaterHalf_39
      · exact absurd (show nI n ≤ nI j from nI_le (by omega) (by omega)) c1
    | succ kk ih =>
      intro j  ls hj  hl
      refine lv_iload_n hx hb d_D_greaterHalf_4 rfl (lv_at hl 2 rfl) ?_
      refine lv_aload_n hx hb d_D_greaterHalf_5 rfl (lv_at hl 0 rfl) ?_
      refine va_get (D := G.1) (ci := 1) (v := .int (nI n)) (C := R_D) (T := F_D) (N := 5) hx hb ht in_D hown hK hP 0 rfl rfl 3 (by decide) (ht _ kf_D_23) (fun _ h9 => h9) rfl d_D_greaterHalf_6 ?_
      refine lv_icmp_ge (tgt := 38) hx hb d_D_greaterHalf_9 (by decide) (fun c2 => ?_) (fun c2 => ?_)
      · exact absurd c2 (nI_ge (show j < n by omega) (by omega))
      · refine lv_aload_n hx hb d_D_greaterHalf_12 rfl (lv_at hl 0 rfl) ?_
        refine lv_iload_n hx hb d_D_greaterHalf_13 rfl (lv_at hl 2 rfl) ?_
        refine pr_i (ru_V (b := a) (As := [.int (nI j)]) (rest := []) ⟨hx, hb, hml, hown, ht⟩ hKN (c_D_countAbove l G _ a b sd k n fb f (nI j) (hP.sub [0, 1] rfl) hn) kc_D_58 ⟨rfl, rfl⟩ ⟨Nat.le_of_ble_eq_true rfl, Nat.le_of_ble_eq_true rfl⟩ (va_recv hK hP (ci := 1) (q0 := 0) rfl rfl) rfl hl.1 rfl (Nat.le_of_ble_eq_true rfl) d_D_greaterHalf_14 ⟨Nat.le_of_ble_eq_true rfl, Nat.le_of_ble_eq_true rfl⟩) ?_
        refine lv_aload_n hx hb d_D_greaterHalf_17 rfl (lv_at hl 0 rfl) ?_
        refine va_get (D := G.1) (ci := 1) (v := .int (nI n)) (C := R_D) (T := F_D) (N := 5) hx hb ht in_D hown hK hP 0 rfl rfl 3 (by decide) (ht _ kf_D_23) (fun _ h9 => h9) rfl d_D_greaterHalf_18 ?_
        refine lv_iconst (v := 2) hx hb d_D_greaterHalf_21 (by decide) ?_
        refine lv_idiv hx hb d_D_greaterHalf_22 (by decide) ?_
        refine lv_icmp_ge (tgt := 32) hx hb d_D_greaterHalf_23 (by decide) (fun c3 => ?_) (fun c3 => ?_)
        · refine lv_iinc (v := nI (j + 1)) (lv' := [(2, .int (nI (j + 1))), (0, .ref a), (1, .int (gh n f j))]) hx hb d_D_greaterHalf_32 hl (k := 2) rfl (nI_1 j) (by decide) rfl (fun ls hl => ?_)
          refine lv_goto (tgt := 4) hx hb d_D_greaterHalf_35 (by decide) ?_
          exact ih (j + 1) ls (by omega) (by rw [show gh n f (j + 1) = gh n f j from by simp only [gh]; rw [if_pos c3]]; exact lv_sub hl [1, 2, 0] rfl)
        · refine lv_iload_n hx hb d_D_greaterHalf_26 rfl (lv_at hl 1 rfl) ?_
          refine lv_iconst (v := 1) hx hb d_D_greaterHalf_27 (by decide) ?_
          refine lv_iload_n hx hb d_D_greaterHalf_28 rfl (lv_at hl 2 rfl) ?_
          refine lv_ishl hx hb d_D_greaterHalf_29 ?_
          refine lv_ior hx hb d_D_greaterHalf_30 ?_
          refine lv_istore_n (lv' := [(1, .int ((gh n f j) ||| ((1 : Int32) <<< ((nI j) &&& 31)))), (0, .ref a), (2, .int (nI j))]) hx hb d_D_greaterHalf_31 rfl hl (by decide) rfl (fun ls hl => ?_)
          refine lv_iinc (v := nI (j + 1)) (lv' := [(2, .int (nI (j + 1))), (1, .int ((gh n f j) ||| ((1 : Int32) <<< ((nI j) &&& 31)))), (0, .ref a)]) hx hb d_D_greaterHalf_32 hl (k := 2) rfl (nI_1 j) (by decide) rfl (fun ls hl => ?_)
          refine lv_goto (tgt := 4) hx hb d_D_greaterHalf_35 (by decide) ?_
          exact ih (j + 1) ls (by omega) (by rw [show gh n f (j + 1) = ((gh n f j) ||| ((1 : Int32) <<< ((nI j) &&& 31))) from by simp only [gh]; rw [if_neg c3]]; exact lv_sub hl [2, 1, 0] rfl)
  exact loop n 0 ls (by omega) (by exact lv_sub hl [2, 1, 0] rfl)
end
section
def vf (g : Nat → Int32) (x : Int32) : Nat → Nat → Nat
  | 0, j => j
  | k + 1, j => if g j = x then j else vf g x k (j + 1)
theorem vf_le (g : Nat → Int32) (x : Int32) : ∀ k j, vf g x k j ≤ j + k
  | 0, j => Nat.le_refl _
  | k + 1, j => by
    unfold vf
    split
    · omega
    · have := vf_le g x k (j + 1)
      omega
set_option maxHeartbeats 4000000 in
set_option maxRecDepth 100000 in
theorem c_V_find (l : Launch) (G : GT) (H : Heap) (a : Nat) (b : Nat) (b3 : Nat) (g : Nat → Int32) (h : Nat → Int32) (n : Nat) (p1 : Int32) (hP : va_P G.1 classes [(a, .inr (2, [.ref b, .ref b3, .int (nI n)])), (b, .inl (G.2.2.1, 100, .inl g)), (b3, .inl (G.2.2.2, 100, .inl h))] H) (hn : n ≤ 100) : Met l y_V_find (Cond.code y_V_find b_V_find 3 (some .int) :: TG) ({ frames := 0, cells := 0, slots := 0, locals := 0 }) (PC G H [.ref a, .int p1]) (QcRead (nI (vf g p1 n 0))) 0 0 (fun _ => False) := by
  refine Met.ofW (cc := b_V_find) (maxL := 3) (ret := (some .int)) (by decide) rfl ?_
  intro p e s m args below meth c s₁ B hml hv
  obtain ⟨rfl, hH, hKN⟩ := hv
  subst hH
  have hx := B.exec
  have hb := B.bytes
  have hr := B.returns
  have hts := atoms_spec (ws := (Cond.code y_V_find b_V_find 3 (some .int) :: TG)) B.pre
  have ht : ∀ w ∈ TG, w.before _ s = true := fun w h => hts w (List.mem_cons_of_mem _ h)
  have hown : s.vm.findClass R_V = some m.cls := findClass_of_methodNamed B.named
  have hlocks := B.notSynchronized
  have hK := hKN.1
  have hl := lv_entry ([.ref a, .int p1]) (n := 3) (Nat.le_of_ble_eq_true rfl)
  rw [lg_entry_eq]
  generalize (lg_sl ([.ref a, .int p1]) ++ List.replicate (3 - (lg_sl ([.ref a, .int p1])).length) Slot.unset).toArray = ls at hl ⊢
  have hl : lv_has ls 3 [(0, .ref a), (1, .int p1)] := hl
  refine lv_iconst (v := 0) hx hb d_V_find_0 (by decide) ?_
  refine lv_istore_n (lv' := [(2, .int 0), (0, .ref a), (1, .int p1)]) hx hb d_V_find_1 rfl hl (by decide) rfl (fun ls hl => ?_)
  have loop : ∀ (kk j : Nat) (ls : Array Slot), j + kk = n → vf g p1 kk j = vf g p1 n 0 → lv_has ls 3 [(0, .ref a), (1, .int p1), (2, .int (nI j))] → W p l e (headSpec (Cond.code y_V_find b_V_find 3 (some .int) :: TG) ({ frames := 0, cells := 0, slots := 0, locals := 0 })).room s m ([.ref a, .int p1] : List Value).toArray below meth c s.heap [] 0 0 (MQ below (QcRead (nI (vf g p1 n 0))) ([.ref a, .int p1] : List Value).toArray s 0 0 (fun _ => False)) (F0 m 2 ls []) := by
    intro kk
    induction kk with
    | zero =>
      intro j  ls hj hv hl
      refine lv_iload_n hx hb d_V_find_2 rfl (lv_at hl 2 rfl) ?_
      refine lv_aload_n hx hb d_V_find_3 rfl (lv_at hl 0 rfl) ?_
      refine va_get (D := G.1) (ci := 2) (v := .int (nI n)) (C := R_V) (T := F_V) (N := 3) hx hb ht in_V hown hK hP 0 rfl rfl 2 (by decide) (ht _ kf_V_19) (fun _ h9 => h9) rfl d_V_find_4 ?_
      refine lv_icmp_ge (tgt := 28) hx hb d_V_find_7 (by decide) (fun c1 => ?_) (fun c1 => ?_)
      · refine lv_aload_n hx hb d_V_find_28 rfl (lv_at hl 0 rfl) ?_
        refine va_get (D := G.1) (ci := 2) (v := .int (nI n)) (C := R_V) (T := F_V) (N := 3) hx hb ht in_V hown hK hP 0 rfl rfl 2 (by decide) (ht _ kf_V_19) (fun _ h9 => h9) rfl d_V_find_29 ?_
        exact W.iret (v := nI n) hx hb hr (fun t h9 _ => ⟨congrArg (fun z => Outcome.returned (some (Value.int z))) (by rw [← hv]; simp only [vf]; rw [show j = n by omega]), h9⟩) (fun _ h => nomatch h) d_V_find_32
      · exact absurd (show nI n ≤ nI j from nI_le (by omega) (by omega)) c1
    | succ kk ih =>
      intro j  ls hj hv hl
      refine lv_iload_n hx hb d_V_find_2 rfl (lv_at hl 2 rfl) ?_
      refine lv_aload_n hx hb d_V_find_3 rfl (lv_at hl 0 rfl) ?_
      refine va_get (D := G.1) (ci := 2) (v := .int (nI n)) (C := R_V) (T := F_V) (N := 3) hx hb ht in_V hown hK hP 0 rfl rfl 2 (by decide) (ht _ kf_V_19) (fun _ h9 => h9) rfl d_V_find_4 ?_
      refine lv_icmp_ge (tgt := 28) hx hb d_V_find_7 (by decide) (fun c2 => ?_) (fun c2 => ?_)
      · exact absurd c2 (nI_ge (show j < n by omega) (by omega))
      · refine lv_aload_n hx hb d_V_find_10 rfl (lv_at hl 0 rfl) ?_
        refine va_get (D := G.1) (ci := 2) (v := .ref b) (C := R_V) (T := F_V) (N := 3) hx hb ht in_V hown hK hP 0 rfl rfl 0 (by decide) (ht _ kf_V_9) (fun _ h9 => h9) rfl d_V_find_11 ?_
        refine lv_iload_n hx hb d_V_find_14 rfl (lv_at hl 2 rfl) ?_
        refine va_iald hx hb hK hP 1 1 rfl rfl (i := (nI j)) (vp_in_nI (show j < 100 by omega) (by omega)) d_V_find_15 ?_
        rw [nI_clamp (show j < 2 ^ 31 by omega)]
        refine lv_iload_n hx hb d_V_find_16 rfl (lv_at hl 1 rfl) ?_
        refine lv_icmp_ne (tgt := 22) hx hb d_V_find_17 (by decide) (fun c3 => ?_) (fun c3 => ?_)
        · refine lv_iinc (v := nI (j + 1)) (lv' := [(2, .int (nI (j + 1))), (0, .ref a), (1, .int p1)]) hx hb d_V_find_22 hl (k := 2) rfl (nI_1 j) (by decide) rfl (fun ls hl => ?_)
          refine lv_goto (tgt := 2) hx hb d_V_find_25 (by decide) ?_
          exact ih (j + 1) ls (by omega) (by rw [← hv]; simp only [vf]; rw [if_neg c3]) (lv_sub hl [1, 2, 0] rfl)
        · refine lv_iload_n hx hb d_V_find_20 rfl (lv_at hl 2 rfl) ?_
          exact W.iret (v := nI j) hx hb hr (fun t h9 _ => ⟨congrArg (fun z => Outcome.returned (some (Value.int z))) (by rw [← hv]; simp only [vf]; rw [if_pos c3]), h9⟩) (fun _ h => nomatch h) d_V_find_21
  exact loop n 0 ls (by omega) rfl (by exact lv_sub hl [1, 2, 0] rfl)
theorem vf_in {g : Nat → Int32} {x : Int32} {n : Nat} (hn : n ≤ 100) (c : ¬ nI n ≤ nI (vf g x n 0)) : vf g x n 0 < n := by
  have h := vf_le g x n 0
  exact Nat.lt_of_not_le (fun q => c (nI_le q (by omega)))
def fn_V_stayFor (g : Nat → Int32) (h : Nat → Int32) (n : Nat) (p1 : Int32) : Int32 := (if nI n ≤ (nI (vf g p1 n 0)) then 0 else (if (h (vf g p1 n 0)) = 0 then 0 else 1))
set_option maxHeartbeats 4000000 in
set_option maxRecDepth 100000 in
theorem c_V_stayFor (l : Launch) (G : GT) (H : Heap) (a : Nat) (b : Nat) (b3 : Nat) (g : Nat → Int32) (h : Nat → Int32) (n : Nat) (p1 : Int32) (hP : va_P G.1 classes [(a, .inr (2, [.ref b, .ref b3, .int (nI n)])), (b, .inl (G.2.2.1, 100, .inl g)), (b3, .inl (G.2.2.2, 100, .inl h))] H) (hn : n ≤ 100) : Met l y_V_stayFor (Cond.code y_V_stayFor b_V_stayFor 3 (some .boolean) :: TG) ({ frames := 1, cells := 0, slots := 0, locals := 22 }) (PC G H [.ref a, .int p1]) (QcRead (fn_V_stayFor g h n p1)) 0 0 (fun _ => False) := by
  refine Met.ofW (cc := b_V_stayFor) (maxL := 3) (ret := (some .boolean)) (by decide) rfl ?_
  intro p e s m args below meth c s₁ B hml hv
  obtain ⟨rfl, hH, hKN⟩ := hv
  subst hH
  have hx := B.exec
  have hb := B.bytes
  have hr := B.returns
  have hts := atoms_spec (ws := (Cond.code y_V_stayFor b_V_stayFor 3 (some .boolean) :: TG)) B.pre
  have ht : ∀ w ∈ TG, w.before _ s = true := fun w h => hts w (List.mem_cons_of_mem _ h)
  have hown : s.vm.findClass R_V = some m.cls := findClass_of_methodNamed B.named
  have hlocks := B.notSynchronized
  have hK := hKN.1
  have hl := lv_entry ([.ref a, .int p1]) (n := 3) (Nat.le_of_ble_eq_true rfl)
  rw [lg_entry_eq]
  generalize (lg_sl ([.ref a, .int p1]) ++ List.replicate (3 - (lg_sl ([.ref a, .int p1])).length) Slot.unset).toArray = ls at hl ⊢
  have hl : lv_has ls 3 [(0, .ref a), (1, .int p1)] := hl
  refine lv_aload_n hx hb d_V_stayFor_0 rfl (lv_at hl 0 rfl) ?_
  refine lv_iload_n hx hb d_V_stayFor_1 rfl (lv_at hl 1 rfl) ?_
  refine pr_i (ru_V (b := a) (As := [.int p1]) (rest := []) ⟨hx, hb, hml, hown, ht⟩ hKN (c_V_find l G _ a b b3 g h n p1 (hP.sub [0, 1, 2] rfl) hn) kc_V_23 ⟨rfl, rfl⟩ ⟨Nat.le_of_ble_eq_true rfl, Nat.le_of_ble_eq_true rfl⟩ (va_recv hK hP (ci := 2) (q0 := 0) rfl rfl) rfl hl.1 rfl (Nat.le_of_ble_eq_true rfl) d_V_stayFor_2 ⟨Nat.le_of_ble_eq_true rfl, Nat.le_of_ble_eq_true rfl⟩) ?_
  refine lv_istore_n (lv' := [(2, .int (nI (vf g p1 n 0))), (0, .ref a), (1, .int p1)]) hx hb d_V_stayFor_5 rfl hl (by decide) rfl (fun ls hl => ?_)
  refine lv_iload_n hx hb d_V_stayFor_6 rfl (lv_at hl 0 rfl) ?_
  refine lv_aload_n hx hb d_V_stayFor_7 rfl (lv_at hl 1 rfl) ?_
  refine va_get (D := G.1) (ci := 2) (v := .int (nI n)) (C := R_V) (T := F_V) (N := 3) hx hb ht in_V hown hK hP 0 rfl rfl 2 (by decide) (ht _ kf_V_19) (fun _ h9 => h9) rfl d_V_stayFor_8 ?_
  refine lv_icmp_ge (tgt := 27) hx hb d_V_stayFor_11 (by decide) (fun c1 => ?_) (fun c1 => ?_)
  · refine lv_iconst (v := 0) hx hb d_V_stayFor_27 (by decide) ?_
    exact W.zret (v := 0) hx hb hr rfl (fun t h9 _ => ⟨congrArg (fun z => Outcome.returned (some (Value.int z))) (by unfold fn_V_stayFor; rw [if_pos c1]), h9⟩) (fun _ h => nomatch h) d_V_stayFor_28
  · have hvi : vf g p1 n 0 < n := vf_in hn c1
    refine lv_aload_n hx hb d_V_stayFor_14 rfl (lv_at hl 1 rfl) ?_
    refine va_get (D := G.1) (ci := 2) (v := .ref b3) (C := R_V) (T := F_V) (N := 3) hx hb ht in_V hown hK hP 0 rfl rfl 1 (by decide) (ht _ kf_V_15) (fun _ h9 => h9) rfl d_V_stayFor_15 ?_
    refine lv_iload_n hx hb d_V_stayFor_18 rfl (lv_at hl 0 rfl) ?_
    refine va_zald hx hb hK hP 2 2 rfl rfl (i := (nI (vf g p1 n 0))) (vp_in_nI (show (vf g p1 n 0) < 100 by omega) (by omega)) d_V_stayFor_19 ?_
    rw [nI_clamp (show (vf g p1 n 0) < 2 ^ 31 by omega)]
    refine lv_if_eq (tgt := 27) hx hb d_V_stayFor_20 (by decide) (fun c2 => ?_) (fun c2 => ?_)
    · refine lv_iconst (v := 0) hx hb d_V_stayFor_27 (by decide) ?_
      exact W.zret (v := 0) hx hb hr rfl (fun t h9 _ => ⟨congrArg (fun z => Outcome.returned (some (Value.int z))) (by unfold fn_V_stayFor; rw [if_neg c1, if_pos c2]), h9⟩) (fun _ h => nomatch h) d_V_stayFor_28
    · refine lv_iconst (v := 1) hx hb d_V_stayFor_23 (by decide) ?_
      refine lv_goto (tgt := 28) hx hb d_V_stayFor_24 (by decide) ?_
      exact W.zret (v := 1) hx hb hr rfl (fun t h9 _ => ⟨congrArg (fun z => Outcome.returned (some (Value.int z))) (by unfold fn_V_stayFor; rw [if_neg c1, if_neg c2]), h9⟩) (fun _ h => nomatch h) d_V_stayFor_28
end
section
def fl (sd : Int64) (k : Int32) (f : Nat → Int64) : Nat → Nat → Int64
  | 0 => f
  | j + 1 => vp_updL (fl sd k f j) j (zN sd k (nI j))
def fbN (k : Int32) (n : Nat) (f : Nat → Int64) : Int32 := if k = 3 then gh n f n else 0
theorem fill_mm {n : Nat} (h : n ≤ 16) : (if 0 < (if 16 < nI n then 16 else nI n) then (if 16 < nI n then 16 else nI n) else 0) = nI n := by
  have key : ∀ n : Fin 17, (if 0 < (if 16 < nI n.val then 16 else nI n.val) then (if 16 < nI n.val then 16 else nI n.val) else 0) = nI n.val := by decide +kernel
  exact key ⟨n, by omega⟩
set_option maxHeartbeats 4000000 in
set_option maxRecDepth 100000 in
theorem c_D_fill (l : Launch) (G : GT) (H : Heap) (a : Nat) (b : Nat) (sd : Int64) (k : Int32) (n : Nat) (fb : Int32) (f : Nat → Int64) (sd1 : Int64) (k1 : Int32) (n1 : Nat) (hP : va_P G.1 classes [(a, .inr (1, [.ref b, .long sd, .int k, .int (nI n), .int fb])), (b, .inl (G.2.1, 16, .inr (.inl f)))] H) (hD0 : va_D (fun _ => True) [(a, .inr (1, [.ref b, .long sd, .int k, .int (nI n), .int fb])), (b, .inl (G.2.1, 16, .inr (.inl f)))]) (hn : n ≤ 16) (hn1 : n1 ≤ 16) : Met l y_D_fill (Cond.code y_D_fill b_D_fill 6 none :: TG) ({ frames := 4, cells := 0, slots := 0, locals := 92 }) (PC G H [.ref a, .long sd1, .int k1, .int (nI n1)]) (QMv G [(a, .inr (1, [.ref b, .long sd1, .int k1, .int (nI n1), .int (fbN k1 n1 (fl sd1 k1 f n1))])), (b, .inl (G.2.1, 16, .inr (.inl (fl sd1 k1 f n1))))] (va_A [(a, .inr (1, [.ref b, .long sd, .int k, .int (nI n), .int fb])), (b, .inl (G.2.1, 16, .inr (.inl f)))] H.size)) 0 0 (va_A [(a, .inr (1, [.ref b, .long sd, .int k, .int (nI n), .int fb])), (b, .inl (G.2.1, 16, .inr (.inl f)))] H.size) := by
  refine Met.ofW (cc := b_D_fill) (maxL := 6) (ret := none) (by decide) rfl ?_
  intro p e s m args below meth c s₁ B hml hv
  obtain ⟨rfl, hH, hKN⟩ := hv
  subst hH
  have hx := B.exec
  have hb := B.bytes
  have hr := B.returns
  have hts := atoms_spec (ws := (Cond.code y_D_fill b_D_fill 6 none :: TG)) B.pre
  have ht : ∀ w ∈ TG, w.before _ s = true := fun w h => hts w (List.mem_cons_of_mem _ h)
  have hown : s.vm.findClass R_D = some m.cls := findClass_of_methodNamed B.named
  have hlocks := B.notSynchronized
  have hK := hKN.1
  have hl := lv_entry ([.ref a, .long sd1, .int k1, .int (nI n1)]) (n := 6) (Nat.le_of_ble_eq_true rfl)
  rw [lg_entry_eq]
  generalize (lg_sl ([.ref a, .long sd1, .int k1, .int (nI n1)]) ++ List.replicate (6 - (lg_sl ([.ref a, .long sd1, .int k1, .int (nI n1)])).length) Slot.unset).toArray = ls at hl ⊢
  have hl : lv_has ls 6 [(0, .ref a), (1, .long sd1), (3, .int k1), (4, .int (nI n1))] := hl
  have hD := hD0.self (sz := s.heap.size)
  generalize hAe : va_A [(a, .inr (1, [.ref b, .long sd, .int k, .int (nI n), .int fb])), (b, .inl (G.2.1, 16, .inr (.inl f)))] s.heap.size = A at hD ⊢
  have hA : ∀ q : Nat, s.heap.size ≤ q → A q := fun q h => by rw [← hAe]; exact Or.inr h
  have hS : va_S A s.heap s.heap [] := va_S.rf
  refine lv_aload_n hx hb d_D_fill_0 rfl (lv_at hl 0 rfl) ?_
  refine lv_lload_n hx hb d_D_fill_1 rfl (lv_at hl 1 rfl) ?_
  refine va_put (D := G.1) (ci := 1) (v := .long sd1) (ty := .long) (C := R_D) (T := F_D) (N := 5) hx hb ht in_D t_D tk_D n_D hown hK hP hD hS 0 rfl rfl 1 (by decide) (ht _ kf_D_15) (fun _ h9 => h9) rfl (by decide +kernel) rfl rfl (Nat.le_of_ble_eq_true rfl) d_D_fill_2 (fun H locs hP hD hS => ?_)
  have hP : va_P G.1 classes [(a, .inr (1, [.ref b, .long sd1, .int k, .int (nI n), .int fb])), (b, .inl (G.2.1, 16, .inr (.inl f)))] H := hP
  have hD : va_D A [(a, .inr (1, [.ref b, .long sd1, .int k, .int (nI n), .int fb])), (b, .inl (G.2.1, 16, .inr (.inl f)))] := hD
  refine lv_aload_n hx hb d_D_fill_5 rfl (lv_at hl 0 rfl) ?_
  refine lv_iload_n hx hb d_D_fill_6 rfl (lv_at hl 2 rfl) ?_
  refine va_put (D := G.1) (ci := 1) (v := .int k1) (ty := .int) (C := R_D) (T := F_D) (N := 5) hx hb ht in_D t_D tk_D n_D hown hK hP hD hS 0 rfl rfl 2 (by decide) (ht _ kf_D_19) (fun _ h9 => h9) rfl (by decide +kernel) rfl rfl (Nat.le_of_ble_eq_true rfl) d_D_fill_7 (fun H locs hP hD hS => ?_)
  have hP : va_P G.1 classes [(a, .inr (1, [.ref b, .long sd1, .int k1, .int (nI n), .int fb])), (b, .inl (G.2.1, 16, .inr (.inl f)))] H := hP
  have hD : va_D A [(a, .inr (1, [.ref b, .long sd1, .int k1, .int (nI n), .int fb])), (b, .inl (G.2.1, 16, .inr (.inl f)))] := hD
  refine lv_aload_n hx hb d_D_fill_10 rfl (lv_at hl 0 rfl) ?_
  refine lv_iconst (v := 0) hx hb d_D_fill_11 (by decide) ?_
  refine lv_iload hx hb d_D_fill_12 (lv_at hl 3 rfl) ?_
  refine lv_bipush (v := 16) hx hb d_D_fill_14 (by decide) ?_
  refine va_mmin hx hb (hml.trans hl.1.symm) hown (ht _ km_D_29) (ht _ kms_min) (ht _ kmi) (ht _ kmc_min) (Nat.le_of_ble_eq_true rfl) (Nat.le_of_ble_eq_true rfl) (Nat.le_of_ble_eq_true rfl) (Nat.le_of_ble_eq_true rfl) d_D_fill_16 ?_
  refine va_mmax hx hb (hml.trans hl.1.symm) hown (ht _ km_D_35) (ht _ kms_max) (ht _ kmi) (ht _ kmc_max) (Nat.le_of_ble_eq_true rfl) (Nat.le_of_ble_eq_true rfl) (Nat.le_of_ble_eq_true rfl) (Nat.le_of_ble_eq_true rfl) d_D_fill_19 ?_
  rw [fill_mm hn1]
  refine va_put (D := G.1) (ci := 1) (v := .int (nI n1)) (ty := .int) (C := R_D) (T := F_D) (N := 5) hx hb ht in_D t_D tk_D n_D hown hK hP hD hS 0 rfl rfl 3 (by decide) (ht _ kf_D_23) (fun _ h9 => h9) rfl (by decide +kernel) rfl rfl (Nat.le_of_ble_eq_true rfl) d_D_fill_22 (fun H locs hP hD hS => ?_)
  have hP : va_P G.1 classes [(a, .inr (1, [.ref b, .long sd1, .int k1, .int (nI n1), .int fb])), (b, .inl (G.2.1, 16, .inr (.inl f)))] H := hP
  have hD : va_D A [(a, .inr (1, [.ref b, .long sd1, .int k1, .int (nI n1), .int fb])), (b, .inl (G.2.1, 16, .inr (.inl f)))] := hD
  refine lv_iconst (v := 0) hx hb d_D_fill_25 (by decide) ?_
  refine lv_istore (lv' := [(5, .int 0), (0, .ref a), (1, .long sd1), (3, .int k1), (4, .int (nI n1))]) hx hb d_D_fill_26 hl (by decide) rfl (fun ls hl => ?_)
  have loop : ∀ (kk j : Nat) (H : Heap) (locs : List Loc) (ls : Array Slot), j + kk = n1 → va_P G.1 classes [(a, .inr (1, [.ref b, .long sd1, .int k1, .int (nI n1), .int fb])), (b, .inl (G.2.1, 16, .inr (.inl (fl sd1 k1 f j))))] H → va_D A [(a, .inr (1, [.ref b, .long sd1, .int k1, .int (nI n1), .int fb])), (b, .inl (G.2.1, 16, .inr (.inl (fl sd1 k1 f j))))] → va_S A s.heap H locs → lv_has ls 6 [(0, .ref a), (1, .long sd1), (3, .int k1), (4, .int (nI n1)), (5, .int (nI j))] → W p l e (headSpec (Cond.code y_D_fill b_D_fill 6 none :: TG) ({ frames := 4, cells := 0, slots := 0, locals := 92 })).room s m ([.ref a, .long sd1, .int k1, .int (nI n1)] : List Value).toArray below meth c H locs 0 0 (MQ below (QMv G [(a, .inr (1, [.ref b, .long sd1, .int k1, .int (nI n1), .int (fbN k1 n1 (fl sd1 k1 f n1))])), (b, .inl (G.2.1, 16, .inr (.inl (fl sd1 k1 f n1))))] A) ([.ref a, .long sd1, .int k1, .int (nI n1)] : List Value).toArray s 0 0 A) (F0 m 28 ls []) := by
    intro kk
    induction kk with
    | zero =>
      intro j  H locs ls hj  hP hD hS hl
      refine lv_iload hx hb d_D_fill_28 (lv_at hl 4 rfl) ?_
      refine lv_aload_n hx hb d_D_fill_30 rfl (lv_at hl 0 rfl) ?_
      refine va_get (D := G.1) (ci := 1) (v := .int (nI n1)) (C := R_D) (T := F_D) (N := 5) hx hb ht in_D hown hK hP 0 rfl rfl 3 (by decide) (ht _ kf_D_23) (fun _ h9 => h9) rfl d_D_fill_31 ?_
      refine lv_icmp_ge (tgt := 63) hx hb d_D_fill_34 (by decide) (fun c1 => ?_) (fun c1 => ?_)
      · refine lv_aload_n hx hb d_D_fill_63 rfl (lv_at hl 0 rfl) ?_
        refine lv_aload_n hx hb d_D_fill_64 rfl (lv_at hl 0 rfl) ?_
        refine va_get (D := G.1) (ci := 1) (v := .int k1) (C := R_D) (T := F_D) (N := 5) hx hb ht in_D hown hK hP 0 rfl rfl 2 (by decide) (ht _ kf_D_19) (fun _ h9 => h9) rfl d_D_fill_65 ?_
        refine lv_iconst (v := 3) hx hb d_D_fill_68 (by decide) ?_
        refine lv_icmp_ne (tgt := 79) hx hb d_D_fill_69 (by decide) (fun c2 => ?_) (fun c2 => ?_)
        · refine lv_iconst (v := 0) hx hb d_D_fill_79 (by decide) ?_
          refine va_put (D := G.1) (ci := 1) (v := .int 0) (ty := .int) (C := R_D) (T := F_D) (N := 5) hx hb ht in_D t_D tk_D n_D hown hK hP hD hS 0 rfl rfl 4 (by decide) (ht _ kf_D_26) (fun _ h9 => h9) rfl (by decide +kernel) rfl rfl (Nat.le_of_ble_eq_true rfl) d_D_fill_80 (fun H locs hP hD hS => ?_)
          have hP : va_P G.1 classes [(a, .inr (1, [.ref b, .long sd1, .int k1, .int (nI n1), .int 0])), (b, .inl (G.2.1, 16, .inr (.inl (fl sd1 k1 f j))))] H := hP
          have hD : va_D A [(a, .inr (1, [.ref b, .long sd1, .int k1, .int (nI n1), .int 0])), (b, .inl (G.2.1, 16, .inr (.inl (fl sd1 k1 f j))))] := hD
          exact W.vret hx hb hr (fun t h9 _ => ⟨⟨(), rfl, trivial, by show va_P _ _ _ t.heap; rw [h9]; exact (by rw [show fbN k1 n1 (fl sd1 k1 f n1) = 0 from if_neg c2]; rw [show j = n1 by omega] at hP; exact hP)⟩, hS.F h9⟩) hS.2.2 d_D_fill_83
        · refine lv_aload_n hx hb d_D_fill_72 rfl (lv_at hl 0 rfl) ?_
          refine pr_i (ru_V (b := a) (As := []) (rest := [.ref a]) ⟨hx, hb, hml, hown, ht⟩ hKN (c_D_greaterHalf l G _ a b sd1 k1 n1 fb (fl sd1 k1 f j) (hP.sub [0, 1] rfl) hn1) kc_D_42 ⟨rfl, rfl⟩ ⟨Nat.le_of_ble_eq_true rfl, Nat.le_of_ble_eq_true rfl⟩ (va_recv hK hP (ci := 1) (q0 := 0) rfl rfl) rfl hl.1 rfl (Nat.le_of_ble_eq_true rfl) d_D_fill_73 ⟨Nat.le_of_ble_eq_true rfl, Nat.le_of_ble_eq_true rfl⟩) ?_
          refine lv_goto (tgt := 80) hx hb d_D_fill_76 (by decide) ?_
          refine va_put (D := G.1) (ci := 1) (v := .int (gh n1 (fl sd1 k1 f j) n1)) (ty := .int) (C := R_D) (T := F_D) (N := 5) hx hb ht in_D t_D tk_D n_D hown hK hP hD hS 0 rfl rfl 4 (by decide) (ht _ kf_D_26) (fun _ h9 => h9) rfl (by decide +kernel) rfl rfl (Nat.le_of_ble_eq_true rfl) d_D_fill_80 (fun H locs hP hD hS => ?_)
          have hP : va_P G.1 classes [(a, .inr (1, [.ref b, .long sd1, .int k1, .int (nI n1), .int (gh n1 (fl sd1 k1 f j) n1)])), (b, .inl (G.2.1, 16, .inr (.inl (fl sd1 k1 f j))))] H := hP
          have hD : va_D A [(a, .inr (1, [.ref b, .long sd1, .int k1, .int (nI n1), .int (gh n1 (fl sd1 k1 f j) n1)])), (b, .inl (G.2.1, 16, .inr (.inl (fl sd1 k1 f j))))] := hD
          exact W.vret hx hb hr (fun t h9 _ => ⟨⟨(), rfl, trivial, by show va_P _ _ _ t.heap; rw [h9]; exact (by rw [show fbN k1 n1 (fl sd1 k1 f n1) = gh n1 (fl sd1 k1 f n1) n1 from if_pos c2]; rw [show j = n1 by omega] at hP; exact hP)⟩, hS.F h9⟩) hS.2.2 d_D_fill_83
      · exact absurd (show nI n1 ≤ nI j from nI_le (by omega) (by omega)) c1
    | succ kk ih =>
      intro j  H locs ls hj  hP hD hS hl
      refine lv_iload hx hb d_D_fill_28 (lv_at hl 4 rfl) ?_
      refine lv_aload_n hx hb d_D_fill_30 rfl (lv_at hl 0 rfl) ?_
      refine va_get (D := G.1) (ci := 1) (v := .int (nI n1)) (C := R_D) (T := F_D) (N := 5) hx hb ht in_D hown hK hP 0 rfl rfl 3 (by decide) (ht _ kf_D_23) (fun _ h9 => h9) rfl d_D_fill_31 ?_
      refine lv_icmp_ge (tgt := 63) hx hb d_D_fill_34 (by decide) (fun c3 => ?_) (fun c3 => ?_)
      · exact absurd c3 (nI_ge (show j < n1 by omega) (by omega))
      · refine lv_aload_n hx hb d_D_fill_37 rfl (lv_at hl 0 rfl) ?_
        refine va_get (D := G.1) (ci := 1) (v := .ref b) (C := R_D) (T := F_D) (N := 5) hx hb ht in_D hown hK hP 0 rfl rfl 0 (by decide) (ht _ kf_D_9) (fun _ h9 => h9) rfl d_D_fill_38 ?_
        refine lv_iload hx hb d_D_fill_41 (lv_at hl 4 rfl) ?_
        refine lv_aload_n hx hb d_D_fill_43 rfl (lv_at hl 0 rfl) ?_
        refine va_get (D := G.1) (ci := 1) (v := .long sd1) (C := R_D) (T := F_D) (N := 5) hx hb ht in_D hown hK hP 0 rfl rfl 1 (by decide) (ht _ kf_D_15) (fun _ h9 => h9) rfl d_D_fill_44 ?_
        refine lv_aload_n hx hb d_D_fill_47 rfl (lv_at hl 0 rfl) ?_
        refine va_get (D := G.1) (ci := 1) (v := .int k1) (C := R_D) (T := F_D) (N := 5) hx hb ht in_D hown hK hP 0 rfl rfl 2 (by decide) (ht _ kf_D_19) (fun _ h9 => h9) rfl d_D_fill_48 ?_
        refine lv_iload hx hb d_D_fill_51 (lv_at hl 4 rfl) ?_
        refine pr_l (ru_SN (As := [.long sd1, .int k1, .int (nI j)]) (rest := [.int (nI j), .ref b]) ⟨hx, hb, hml, hown, ht⟩ hKN (c_P_number l G _ sd1 k1 (nI j)) kc_D_38 ⟨rfl, rfl⟩ ⟨Nat.le_of_ble_eq_true rfl, Nat.le_of_ble_eq_true rfl⟩ rfl hl.1 rfl (Nat.le_of_ble_eq_true rfl) d_D_fill_53 ⟨Nat.le_of_ble_eq_true rfl, Nat.le_of_ble_eq_true rfl⟩) ?_
        refine va_last hx hb hK hP hD hS 1 0 rfl rfl (i := (nI j)) (vp_in_nI (show j < 16 by omega) (by omega)) d_D_fill_56 (fun H locs hP hD hS => ?_)
        rw [nI_clamp (show j < 2 ^ 31 by omega)] at hP hD
        have hP : va_P G.1 classes [(a, .inr (1, [.ref b, .long sd1, .int k1, .int (nI n1), .int fb])), (b, .inl (G.2.1, 16, .inr (.inl (vp_updL (fl sd1 k1 f j) j (zN sd1 k1 (nI j))))))] H := hP
        have hD : va_D A [(a, .inr (1, [.ref b, .long sd1, .int k1, .int (nI n1), .int fb])), (b, .inl (G.2.1, 16, .inr (.inl (vp_updL (fl sd1 k1 f j) j (zN sd1 k1 (nI j))))))] := hD
        refine lv_iinc (v := nI (j + 1)) (lv' := [(5, .int (nI (j + 1))), (0, .ref a), (1, .long sd1), (3, .int k1), (4, .int (nI n1))]) hx hb d_D_fill_57 hl (k := 4) rfl (nI_1 j) (by decide) rfl (fun ls hl => ?_)
        refine lv_goto (tgt := 28) hx hb d_D_fill_60 (by decide) ?_
        exact ih (j + 1) H locs ls (by omega) hP hD hS (lv_sub hl [1, 2, 3, 4, 0] rfl)
  exact loop n1 0 _ _ ls (by omega) hP hD hS (by exact lv_sub hl [1, 2, 3, 4, 0] rfl)
set_option maxHeartbeats 4000000 in
set_option maxRecDepth 100000 in
theorem c_V_forget (l : Launch) (G : GT) (H : Heap) (a : Nat) (b : Nat) (b3 : Nat) (g : Nat → Int32) (h : Nat → Int32) (n : Nat) (hP : va_P G.1 classes [(a, .inr (2, [.ref b, .ref b3, .int (nI n)])), (b, .inl (G.2.2.1, 100, .inl g)), (b3, .inl (G.2.2.2, 100, .inl h))] H) (hD0 : va_D (fun _ => True) [(a, .inr (2, [.ref b, .ref b3, .int (nI n)])), (b, .inl (G.2.2.1, 100, .inl g)), (b3, .inl (G.2.2.2, 100, .inl h))]) (hn : n ≤ 100) : Met l y_V_forget (Cond.code y_V_forget b_V_forget 1 none :: TG) ({ frames := 0, cells := 0, slots := 0, locals := 0 }) (PC G H [.ref a]) (QMv G [(a, .inr (2, [.ref b, .ref b3, .int (nI 0)])), (b, .inl (G.2.2.1, 100, .inl g)), (b3, .inl (G.2.2.2, 100, .inl h))] (va_A [(a, .inr (2, [.ref b, .ref b3, .int (nI n)])), (b, .inl (G.2.2.1, 100, .inl g)), (b3, .inl (G.2.2.2, 100, .inl h))] H.size)) 0 0 (va_A [(a, .inr (2, [.ref b, .ref b3, .int (nI n)])), (b, .inl (G.2.2.1, 100, .inl g)), (b3, .inl (G.2.2.2, 100, .inl h))] H.size) := by
  refine Met.ofW (cc := b_V_forget) (maxL := 1) (ret := none) (by decide) rfl ?_
  intro p e s m args below meth c s₁ B hml hv
  obtain ⟨rfl, hH, hKN⟩ := hv
  subst hH
  have hx := B.exec
  have hb := B.bytes
  have hr := B.returns
  have hts := atoms_spec (ws := (Cond.code y_V_forget b_V_forget 1 none :: TG)) B.pre
  have ht : ∀ w ∈ TG, w.before _ s = true := fun w h => hts w (List.mem_cons_of_mem _ h)
  have hown : s.vm.findClass R_V = some m.cls := findClass_of_methodNamed B.named
  have hlocks := B.notSynchronized
  have hK := hKN.1
  have hl := lv_entry ([.ref a]) (n := 1) (Nat.le_of_ble_eq_true rfl)
  rw [lg_entry_eq]
  generalize (lg_sl ([.ref a]) ++ List.replicate (1 - (lg_sl ([.ref a])).length) Slot.unset).toArray = ls at hl ⊢
  have hl : lv_has ls 1 [(0, .ref a)] := hl
  have hD := hD0.self (sz := s.heap.size)
  generalize hAe : va_A [(a, .inr (2, [.ref b, .ref b3, .int (nI n)])), (b, .inl (G.2.2.1, 100, .inl g)), (b3, .inl (G.2.2.2, 100, .inl h))] s.heap.size = A at hD ⊢
  have hA : ∀ q : Nat, s.heap.size ≤ q → A q := fun q h => by rw [← hAe]; exact Or.inr h
  have hS : va_S A s.heap s.heap [] := va_S.rf
  refine lv_aload_n hx hb d_V_forget_0 rfl (lv_at hl 0 rfl) ?_
  refine lv_iconst (v := 0) hx hb d_V_forget_1 (by decide) ?_
  refine va_put (D := G.1) (ci := 2) (v := .int 0) (ty := .int) (C := R_V) (T := F_V) (N := 3) hx hb ht in_V t_V tk_V n_V hown hK hP hD hS 0 rfl rfl 2 (by decide) (ht _ kf_V_19) (fun _ h9 => h9) rfl (by decide +kernel) rfl rfl (Nat.le_of_ble_eq_true rfl) d_V_forget_2 (fun H locs hP hD hS => ?_)
  have hP : va_P G.1 classes [(a, .inr (2, [.ref b, .ref b3, .int 0])), (b, .inl (G.2.2.1, 100, .inl g)), (b3, .inl (G.2.2.2, 100, .inl h))] H := hP
  have hD : va_D A [(a, .inr (2, [.ref b, .ref b3, .int 0])), (b, .inl (G.2.2.1, 100, .inl g)), (b3, .inl (G.2.2.2, 100, .inl h))] := hD
  exact W.vret hx hb hr (fun t h9 _ => ⟨⟨(), rfl, trivial, by show va_P _ _ _ t.heap; rw [h9]; exact hP⟩, hS.F h9⟩) hS.2.2 d_V_forget_5
def tlr (g : Nat → Int32) (n : Nat) (x : Int32) : Int32 := if nI (vf g x n 0) = nI n then (if nI n < 100 then 1 else 0) else 1
def tlg (g : Nat → Int32) (n : Nat) (x : Int32) : Nat → Int32 := if nI (vf g x n 0) = nI n then (if nI n < 100 then upd g (vf g x n 0) x else g) else g
def tlh (g h : Nat → Int32) (n : Nat) (x y : Int32) : Nat → Int32 := if nI (vf g x n 0) = nI n then (if nI n < 100 then upd h (vf g x n 0) (vp_nar .boolean y) else h) else upd h (vf g x n 0) (vp_nar .boolean y)
def tln (g : Nat → Int32) (n : Nat) (x : Int32) : Nat := if nI (vf g x n 0) = nI n then (if nI n < 100 then n + 1 else n) else n
theorem tl_in {g : Nat → Int32} {x : Int32} {n : Nat} (hn : n ≤ 100) (c : ¬ nI (vf g x n 0) = nI n) : vf g x n 0 < 100 := by
  have h := vf_le g x n 0
  have h2 : ¬ vf g x n 0 = n := fun q => c (by rw [q])
  omega
theorem tl_in2 {g : Nat → Int32} {x : Int32} {n : Nat} (hn : n ≤ 100) (c : nI (vf g x n 0) = nI n) (c2 : nI n < 100) : vf g x n 0 < 100 := by
  have h := vf_le g x n 0
  have h1 := (nI_eq (by omega) (by omega)).mp c
  have h2 := (nI_ltI (show n < 2 ^ 31 by omega) (show 100 < 2 ^ 31 by omega)).mp c2
  omega
set_option maxHeartbeats 4000000 in
set_option maxRecDepth 100000 in
theorem c_V_tell (l : Launch) (G : GT) (H : Heap) (a : Nat) (b : Nat) (b3 : Nat) (g : Nat → Int32) (h : Nat → Int32) (n : Nat) (p1 : Int32) (p2 : Int32) (hP : va_P G.1 classes [(a, .inr (2, [.ref b, .ref b3, .int (nI n)])), (b, .inl (G.2.2.1, 100, .inl g)), (b3, .inl (G.2.2.2, 100, .inl h))] H) (hD0 : va_D (fun _ => True) [(a, .inr (2, [.ref b, .ref b3, .int (nI n)])), (b, .inl (G.2.2.1, 100, .inl g)), (b3, .inl (G.2.2.2, 100, .inl h))]) (hn : n ≤ 100) : Met l y_V_tell (Cond.code y_V_tell b_V_tell 4 (some .boolean) :: TG) ({ frames := 1, cells := 0, slots := 0, locals := 22 }) (PC G H [.ref a, .int p1, .int p2]) (QMi G (tlr g n p1) [(a, .inr (2, [.ref b, .ref b3, .int (nI (tln g n p1))])), (b, .inl (G.2.2.1, 100, .inl (tlg g n p1))), (b3, .inl (G.2.2.2, 100, .inl (tlh g h n p1 p2)))] (va_A [(a, .inr (2, [.ref b, .ref b3, .int (nI n)])), (b, .inl (G.2.2.1, 100, .inl g)), (b3, .inl (G.2.2.2, 100, .inl h))] H.size)) 0 0 (va_A [(a, .inr (2, [.ref b, .ref b3, .int (nI n)])), (b, .inl (G.2.2.1, 100, .inl g)), (b3, .inl (G.2.2.2, 100, .inl h))] H.size) := by
  refine Met.ofW (cc := b_V_tell) (maxL := 4) (ret := (some .boolean)) (by decide) rfl ?_
  intro p e s m args below meth c s₁ B hml hv
  obtain ⟨rfl, hH, hKN⟩ := hv
  subst hH
  have hx := B.exec
  have hb := B.bytes
  have hr := B.returns
  have hts := atoms_spec (ws := (Cond.code y_V_tell b_V_tell 4 (some .boolean) :: TG)) B.pre
  have ht : ∀ w ∈ TG, w.before _ s = true := fun w h => hts w (List.mem_cons_of_mem _ h)
  have hown : s.vm.findClass R_V = some m.cls := findClass_of_methodNamed B.named
  have hlocks := B.notSynchronized
  have hK := hKN.1
  have hl := lv_entry ([.ref a, .int p1, .int p2]) (n := 4) (Nat.le_of_ble_eq_true rfl)
  rw [lg_entry_eq]
  generalize (lg_sl ([.ref a, .int p1, .int p2]) ++ List.replicate (4 - (lg_sl ([.ref a, .int p1, .int p2])).length) Slot.unset).toArray = ls at hl ⊢
  have hl : lv_has ls 4 [(0, .ref a), (1, .int p1), (2, .int p2)] := hl
  have hD := hD0.self (sz := s.heap.size)
  generalize hAe : va_A [(a, .inr (2, [.ref b, .ref b3, .int (nI n)])), (b, .inl (G.2.2.1, 100, .inl g)), (b3, .inl (G.2.2.2, 100, .inl h))] s.heap.size = A at hD ⊢
  have hA : ∀ q : Nat, s.heap.size ≤ q → A q := fun q h => by rw [← hAe]; exact Or.inr h
  have hS : va_S A s.heap s.heap [] := va_S.rf
  refine lv_aload_n hx hb d_V_tell_0 rfl (lv_at hl 0 rfl) ?_
  refine lv_iload_n hx hb d_V_tell_1 rfl (lv_at hl 1 rfl) ?_
  refine pr_i (ru_V (b := a) (As := [.int p1]) (rest := []) ⟨hx, hb, hml, hown, ht⟩ hKN (c_V_find l G _ a b b3 g h n p1 (hP.sub [0, 1, 2] rfl) hn) kc_V_23 ⟨rfl, rfl⟩ ⟨Nat.le_of_ble_eq_true rfl, Nat.le_of_ble_eq_true rfl⟩ (va_recv hK hP (ci := 2) (q0 := 0) rfl rfl) rfl hl.1 rfl (Nat.le_of_ble_eq_true rfl) d_V_tell_2 ⟨Nat.le_of_ble_eq_true rfl, Nat.le_of_ble_eq_true rfl⟩) ?_
  refine lv_istore_n (lv' := [(3, .int (nI (vf g p1 n 0))), (0, .ref a), (1, .int p1), (2, .int p2)]) hx hb d_V_tell_5 rfl hl (by decide) rfl (fun ls hl => ?_)
  refine lv_iload_n hx hb d_V_tell_6 rfl (lv_at hl 0 rfl) ?_
  refine lv_aload_n hx hb d_V_tell_7 rfl (lv_at hl 1 rfl) ?_
  refine va_get (D := G.1) (ci := 2) (v := .int (nI n)) (C := R_V) (T := F_V) (N := 3) hx hb ht in_V hown hK hP 0 rfl rfl 2 (by decide) (ht _ kf_V_19) (fun _ h9 => h9) rfl d_V_tell_8 ?_
  refine lv_icmp_ne (tgt := 42) hx hb d_V_tell_11 (by decide) (fun c1 => ?_) (fun c1 => ?_)
  · have hvi : vf g p1 n 0 < 100 := tl_in hn c1
    refine lv_aload_n hx hb d_V_tell_42 rfl (lv_at hl 1 rfl) ?_
    refine va_get (D := G.1) (ci := 2) (v := .ref b3) (C := R_V) (T := F_V) (N := 3) hx hb ht in_V hown hK hP 0 rfl rfl 1 (by decide) (ht _ kf_V_15) (fun _ h9 => h9) rfl d_V_tell_43 ?_
    refine lv_iload_n hx hb d_V_tell_46 rfl (lv_at hl 0 rfl) ?_
    refine lv_iload_n hx hb d_V_tell_47 rfl (lv_at hl 3 rfl) ?_
    refine va_zast hx hb hK hP hD hS 2 2 rfl rfl (i := (nI (vf g p1 n 0))) (vp_in_nI (show (vf g p1 n 0) < 100 by omega) (by omega)) d_V_tell_48 (fun H locs hP hD hS => ?_)
    rw [nI_clamp (show (vf g p1 n 0) < 2 ^ 31 by omega)] at hP hD
    have hP : va_P G.1 classes [(a, .inr (2, [.ref b, .ref b3, .int (nI n)])), (b, .inl (G.2.2.1, 100, .inl g)), (b3, .inl (G.2.2.2, 100, .inl (upd h (vf g p1 n 0) (vp_nar .boolean p2))))] H := hP
    have hD : va_D A [(a, .inr (2, [.ref b, .ref b3, .int (nI n)])), (b, .inl (G.2.2.1, 100, .inl g)), (b3, .inl (G.2.2.2, 100, .inl (upd h (vf g p1 n 0) (vp_nar .boolean p2))))] := hD
    refine lv_iconst (v := 1) hx hb d_V_tell_49 (by decide) ?_
    exact W.zret (v := 1) hx hb hr rfl (fun t h9 _ => ⟨⟨1, (), rfl, (by unfold tlr; rw [if_neg c1]), by show va_P _ _ _ t.heap; rw [h9]; exact (by rw [show tlg g n p1 = _ from (by unfold tlg; rw [if_neg c1]), show tlh g h n p1 p2 = _ from (by unfold tlh; rw [if_neg c1]), show tln g n p1 = _ from (by unfold tln; rw [if_neg c1])]; exact hP)⟩, hS.F h9⟩) hS.2.2 d_V_tell_50
  · refine lv_aload_n hx hb d_V_tell_14 rfl (lv_at hl 1 rfl) ?_
    refine va_get (D := G.1) (ci := 2) (v := .int (nI n)) (C := R_V) (T := F_V) (N := 3) hx hb ht in_V hown hK hP 0 rfl rfl 2 (by decide) (ht _ kf_V_19) (fun _ h9 => h9) rfl d_V_tell_15 ?_
    refine lv_bipush (v := 100) hx hb d_V_tell_18 (by decide) ?_
    refine lv_icmp_lt (tgt := 25) hx hb d_V_tell_20 (by decide) (fun c2 => ?_) (fun c2 => ?_)
    · have hvi : vf g p1 n 0 < 100 := tl_in2 hn c1 c2
      refine lv_aload_n hx hb d_V_tell_25 rfl (lv_at hl 1 rfl) ?_
      refine va_get (D := G.1) (ci := 2) (v := .ref b) (C := R_V) (T := F_V) (N := 3) hx hb ht in_V hown hK hP 0 rfl rfl 0 (by decide) (ht _ kf_V_9) (fun _ h9 => h9) rfl d_V_tell_26 ?_
      refine lv_iload_n hx hb d_V_tell_29 rfl (lv_at hl 0 rfl) ?_
      refine lv_iload_n hx hb d_V_tell_30 rfl (lv_at hl 2 rfl) ?_
      refine va_iast hx hb hK hP hD hS 1 1 rfl rfl (i := (nI (vf g p1 n 0))) (vp_in_nI (show (vf g p1 n 0) < 100 by omega) (by omega)) d_V_tell_31 (fun H locs hP hD hS => ?_)
      rw [nI_clamp (show (vf g p1 n 0) < 2 ^ 31 by omega)] at hP hD
      have hP : va_P G.1 classes [(a, .inr (2, [.ref b, .ref b3, .int (nI n)])), (b, .inl (G.2.2.1, 100, .inl (upd g (vf g p1 n 0) p1))), (b3, .inl (G.2.2.2, 100, .inl h))] H := hP
      have hD : va_D A [(a, .inr (2, [.ref b, .ref b3, .int (nI n)])), (b, .inl (G.2.2.1, 100, .inl (upd g (vf g p1 n 0) p1))), (b3, .inl (G.2.2.2, 100, .inl h))] := hD
      refine lv_aload_n hx hb d_V_tell_32 rfl (lv_at hl 1 rfl) ?_
      refine lv_dup hx hb d_V_tell_33 rfl ?_
      refine va_get (D := G.1) (ci := 2) (v := .int (nI n)) (C := R_V) (T := F_V) (N := 3) hx hb ht in_V hown hK hP 0 rfl rfl 2 (by decide) (ht _ kf_V_19) (fun _ h9 => h9) rfl d_V_tell_34 ?_
      refine lv_iconst (v := 1) hx hb d_V_tell_37 (by decide) ?_
      refine lv_iadd hx hb d_V_tell_38 ?_
      rw [show nI n + 1 = nI (n + 1) from nI_add n 1]
      refine va_put (D := G.1) (ci := 2) (v := .int (nI (n + 1))) (ty := .int) (C := R_V) (T := F_V) (N := 3) hx hb ht in_V t_V tk_V n_V hown hK hP hD hS 0 rfl rfl 2 (by decide) (ht _ kf_V_19) (fun _ h9 => h9) rfl (by decide +kernel) rfl rfl (Nat.le_of_ble_eq_true rfl) d_V_tell_39 (fun H locs hP hD hS => ?_)
      have hP : va_P G.1 classes [(a, .inr (2, [.ref b, .ref b3, .int (nI (n + 1))])), (b, .inl (G.2.2.1, 100, .inl (upd g (vf g p1 n 0) p1))), (b3, .inl (G.2.2.2, 100, .inl h))] H := hP
      have hD : va_D A [(a, .inr (2, [.ref b, .ref b3, .int (nI (n + 1))])), (b, .inl (G.2.2.1, 100, .inl (upd g (vf g p1 n 0) p1))), (b3, .inl (G.2.2.2, 100, .inl h))] := hD
      refine lv_aload_n hx hb d_V_tell_42 rfl (lv_at hl 1 rfl) ?_
      refine va_get (D := G.1) (ci := 2) (v := .ref b3) (C := R_V) (T := F_V) (N := 3) hx hb ht in_V hown hK hP 0 rfl rfl 1 (by decide) (ht _ kf_V_15) (fun _ h9 => h9) rfl d_V_tell_43 ?_
      refine lv_iload_n hx hb d_V_tell_46 rfl (lv_at hl 0 rfl) ?_
      refine lv_iload_n hx hb d_V_tell_47 rfl (lv_at hl 3 rfl) ?_
      refine va_zast hx hb hK hP hD hS 2 2 rfl rfl (i := (nI (vf g p1 n 0))) (vp_in_nI (show (vf g p1 n 0) < 100 by omega) (by omega)) d_V_tell_48 (fun H locs hP hD hS => ?_)
      rw [nI_clamp (show (vf g p1 n 0) < 2 ^ 31 by omega)] at hP hD
      have hP : va_P G.1 classes [(a, .inr (2, [.ref b, .ref b3, .int (nI (n + 1))])), (b, .inl (G.2.2.1, 100, .inl (upd g (vf g p1 n 0) p1))), (b3, .inl (G.2.2.2, 100, .inl (upd h (vf g p1 n 0) (vp_nar .boolean p2))))] H := hP
      have hD : va_D A [(a, .inr (2, [.ref b, .ref b3, .int (nI (n + 1))])), (b, .inl (G.2.2.1, 100, .inl (upd g (vf g p1 n 0) p1))), (b3, .inl (G.2.2.2, 100, .inl (upd h (vf g p1 n 0) (vp_nar .boolean p2))))] := hD
      refine lv_iconst (v := 1) hx hb d_V_tell_49 (by decide) ?_
      exact W.zret (v := 1) hx hb hr rfl (fun t h9 _ => ⟨⟨1, (), rfl, (by unfold tlr; rw [if_pos c1, if_pos c2]), by show va_P _ _ _ t.heap; rw [h9]; exact (by rw [show tlg g n p1 = _ from (by unfold tlg; rw [if_pos c1, if_pos c2]), show tlh g h n p1 p2 = _ from (by unfold tlh; rw [if_pos c1, if_pos c2]), show tln g n p1 = _ from (by unfold tln; rw [if_pos c1, if_pos c2])]; exact hP)⟩, hS.F h9⟩) hS.2.2 d_V_tell_50
    · refine lv_iconst (v := 0) hx hb d_V_tell_23 (by decide) ?_
      exact W.zret (v := 0) hx hb hr rfl (fun t h9 _ => ⟨⟨0, (), rfl, (by unfold tlr; rw [if_pos c1, if_neg c2]), by show va_P _ _ _ t.heap; rw [h9]; exact (by rw [show tlg g n p1 = _ from (by unfold tlg; rw [if_pos c1, if_neg c2]), show tlh g h n p1 p2 = _ from (by unfold tlh; rw [if_pos c1, if_neg c2]), show tln g n p1 = _ from (by unfold tln; rw [if_pos c1, if_neg c2])]; exact hP)⟩, hS.F h9⟩) hS.2.2 d_V_tell_24
end
section
def fn_P_isDrawable (p1 : Int32) (p2 : Int32) : Int32 := (if p1 < 0 then 0 else (if 4 < p1 then 0 else (if p2 < 0 then 0 else (if 16 ≤ p2 then 0 else 1))))
set_option maxHeartbeats 4000000 in
set_option maxRecDepth 100000 in
theorem c_P_isDrawable (l : Launch) (G : GT) (H : Heap) (p1 : Int32) (p2 : Int32) : Met l y_P_isDrawable (Cond.code y_P_isDrawable b_P_isDrawable 2 (some .boolean) :: TG) ({ frames := 0, cells := 0, slots := 0, locals := 0 }) (PC G H [.int p1, .int p2]) (QcRead (fn_P_isDrawable p1 p2)) 0 0 (fun _ => False) := by
  refine Met.ofW (cc := b_P_isDrawable) (maxL := 2) (ret := (some .boolean)) (by decide) rfl ?_
  intro p e s m args below meth c s₁ B hml hv
  obtain ⟨rfl, hH, hKN⟩ := hv
  subst hH
  have hx := B.exec
  have hb := B.bytes
  have hr := B.returns
  have hts := atoms_spec (ws := (Cond.code y_P_isDrawable b_P_isDrawable 2 (some .boolean) :: TG)) B.pre
  have ht : ∀ w ∈ TG, w.before _ s = true := fun w h => hts w (List.mem_cons_of_mem _ h)
  have hown : s.vm.findClass R_P = some m.cls := findClass_of_methodNamed B.named
  have hlocks := B.notSynchronized
  have hK := hKN.1
  have hl := lv_entry ([.int p1, .int p2]) (n := 2) (Nat.le_of_ble_eq_true rfl)
  rw [lg_entry_eq]
  generalize (lg_sl ([.int p1, .int p2]) ++ List.replicate (2 - (lg_sl ([.int p1, .int p2])).length) Slot.unset).toArray = ls at hl ⊢
  have hl : lv_has ls 2 [(0, .int p1), (1, .int p2)] := hl
  refine lv_iload_n hx hb d_P_isDrawable_0 rfl (lv_at hl 0 rfl) ?_
  refine lv_if_lt (tgt := 23) hx hb d_P_isDrawable_1 (by decide) (fun c1 => ?_) (fun c1 => ?_)
  · refine lv_iconst (v := 0) hx hb d_P_isDrawable_23 (by decide) ?_
    exact W.zret (v := 0) hx hb hr rfl (fun t h9 _ => ⟨congrArg (fun z => Outcome.returned (some (Value.int z))) (by unfold fn_P_isDrawable; rw [if_pos c1]), h9⟩) (fun _ h => nomatch h) d_P_isDrawable_24
  · refine lv_iload_n hx hb d_P_isDrawable_4 rfl (lv_at hl 0 rfl) ?_
    refine lv_iconst (v := 4) hx hb d_P_isDrawable_5 (by decide) ?_
    refine lv_icmp_gt (tgt := 23) hx hb d_P_isDrawable_6 (by decide) (fun c2 => ?_) (fun c2 => ?_)
    · refine lv_iconst (v := 0) hx hb d_P_isDrawable_23 (by decide) ?_
      exact W.zret (v := 0) hx hb hr rfl (fun t h9 _ => ⟨congrArg (fun z => Outcome.returned (some (Value.int z))) (by unfold fn_P_isDrawable; rw [if_neg c1, if_pos c2]), h9⟩) (fun _ h => nomatch h) d_P_isDrawable_24
    · refine lv_iload_n hx hb d_P_isDrawable_9 rfl (lv_at hl 1 rfl) ?_
      refine lv_if_lt (tgt := 23) hx hb d_P_isDrawable_10 (by decide) (fun c3 => ?_) (fun c3 => ?_)
      · refine lv_iconst (v := 0) hx hb d_P_isDrawable_23 (by decide) ?_
        exact W.zret (v := 0) hx hb hr rfl (fun t h9 _ => ⟨congrArg (fun z => Outcome.returned (some (Value.int z))) (by unfold fn_P_isDrawable; rw [if_neg c1, if_neg c2, if_pos c3]), h9⟩) (fun _ h => nomatch h) d_P_isDrawable_24
      · refine lv_iload_n hx hb d_P_isDrawable_13 rfl (lv_at hl 1 rfl) ?_
        refine lv_bipush (v := 16) hx hb d_P_isDrawable_14 (by decide) ?_
        refine lv_icmp_ge (tgt := 23) hx hb d_P_isDrawable_16 (by decide) (fun c4 => ?_) (fun c4 => ?_)
        · refine lv_iconst (v := 0) hx hb d_P_isDrawable_23 (by decide) ?_
          exact W.zret (v := 0) hx hb hr rfl (fun t h9 _ => ⟨congrArg (fun z => Outcome.returned (some (Value.int z))) (by unfold fn_P_isDrawable; rw [if_neg c1, if_neg c2, if_neg c3, if_pos c4]), h9⟩) (fun _ h => nomatch h) d_P_isDrawable_24
        · refine lv_iconst (v := 1) hx hb d_P_isDrawable_19 (by decide) ?_
          refine lv_goto (tgt := 24) hx hb d_P_isDrawable_20 (by decide) ?_
          exact W.zret (v := 1) hx hb hr rfl (fun t h9 _ => ⟨congrArg (fun z => Outcome.returned (some (Value.int z))) (by unfold fn_P_isDrawable; rw [if_neg c1, if_neg c2, if_neg c3, if_neg c4]), h9⟩) (fun _ h => nomatch h) d_P_isDrawable_24
set_option maxHeartbeats 4000000 in
set_option maxRecDepth 100000 in
theorem c_P_seed (l : Launch) (G : GT) (H : Heap) (a : Nat) (d1 : Nat) (d2 : Nat) (v1 : Nat) (v2 : Nat) (v3 : Nat) (o1 : Nat) (t1 : Nat) (sd : Int64) (k : Int32) (n : Nat) (fb : Int32) (f : Nat → Int64) (g : Nat → Int32) (h : Nat → Int32) (q : Nat) (ns : Int64) (lb : Int32) (s1 : Int64) (hP : va_P G.1 classes [(a, .inr (0, [.ref d1, .ref v1, .ref o1, .ref t1, .long ns, .int lb])), (d1, .inr (1, [.ref d2, .long sd, .int k, .int (nI n), .int fb])), (d2, .inl (G.2.1, 16, .inr (.inl f))), (v1, .inr (2, [.ref v2, .ref v3, .int (nI q)])), (v2, .inl (G.2.2.1, 100, .inl g)), (v3, .inl (G.2.2.2, 100, .inl h))] H) (hD0 : va_D (fun _ => True) [(a, .inr (0, [.ref d1, .ref v1, .ref o1, .ref t1, .long ns, .int lb])), (d1, .inr (1, [.ref d2, .long sd, .int k, .int (nI n), .int fb])), (d2, .inl (G.2.1, 16, .inr (.inl f))), (v1, .inr (2, [.ref v2, .ref v3, .int (nI q)])), (v2, .inl (G.2.2.1, 100, .inl g)), (v3, .inl (G.2.2.2, 100, .inl h))]) (hn : n ≤ 16) (hq : q ≤ 100) : Met l y_P_seed (Cond.code y_P_seed b_P_seed 5 (some .long) :: TG) ({ frames := 0, cells := 0, slots := 0, locals := 0 }) (PC G H [.ref a, .long s1]) (QMl G (ns) [(a, .inr (0, [.ref d1, .ref v1, .ref o1, .ref t1, .long s1, .int lb])), (d1, .inr (1, [.ref d2, .long sd, .int k, .int (nI n), .int fb])), (d2, .inl (G.2.1, 16, .inr (.inl f))), (v1, .inr (2, [.ref v2, .ref v3, .int (nI q)])), (v2, .inl (G.2.2.1, 100, .inl g)), (v3, .inl (G.2.2.2, 100, .inl h))] (va_A [(a, .inr (0, [.ref d1, .ref v1, .ref o1, .ref t1, .long ns, .int lb])), (d1, .inr (1, [.ref d2, .long sd, .int k, .int (nI n), .int fb])), (d2, .inl (G.2.1, 16, .inr (.inl f))), (v1, .inr (2, [.ref v2, .ref v3, .int (nI q)])), (v2, .inl (G.2.2.1, 100, .inl g)), (v3, .inl (G.2.2.2, 100, .inl h))] H.size)) 0 0 (va_A [(a, .inr (0, [.ref d1, .ref v1, .ref o1, .ref t1, .long ns, .int lb])), (d1, .inr (1, [.ref d2, .long sd, .int k, .int (nI n), .int fb])), (d2, .inl (G.2.1, 16, .inr (.inl f))), (v1, .inr (2, [.ref v2, .ref v3, .int (nI q)])), (v2, .inl (G.2.2.1, 100, .inl g)), (v3, .inl (G.2.2.2, 100, .inl h))] H.size) := by
  refine Met.ofW (cc := b_P_seed) (maxL := 5) (ret := (some .long)) (by decide) rfl ?_
  intro p e s m args below meth c s₁ B hml hv
  obtain ⟨rfl, hH, hKN⟩ := hv
  subst hH
  have hx := B.exec
  have hb := B.bytes
  have hr := B.returns
  have hts := atoms_spec (ws := (Cond.code y_P_seed b_P_seed 5 (some .long) :: TG)) B.pre
  have ht : ∀ w ∈ TG, w.before _ s = true := fun w h => hts w (List.mem_cons_of_mem _ h)
  have hown : s.vm.findClass R_P = some m.cls := findClass_of_methodNamed B.named
  have hlocks := B.notSynchronized
  have hK := hKN.1
  have hl := lv_entry ([.ref a, .long s1]) (n := 5) (Nat.le_of_ble_eq_true rfl)
  rw [lg_entry_eq]
  generalize (lg_sl ([.ref a, .long s1]) ++ List.replicate (5 - (lg_sl ([.ref a, .long s1])).length) Slot.unset).toArray = ls at hl ⊢
  have hl : lv_has ls 5 [(0, .ref a), (1, .long s1)] := hl
  have hD := hD0.self (sz := s.heap.size)
  generalize hAe : va_A [(a, .inr (0, [.ref d1, .ref v1, .ref o1, .ref t1, .long ns, .int lb])), (d1, .inr (1, [.ref d2, .long sd, .int k, .int (nI n), .int fb])), (d2, .inl (G.2.1, 16, .inr (.inl f))), (v1, .inr (2, [.ref v2, .ref v3, .int (nI q)])), (v2, .inl (G.2.2.1, 100, .inl g)), (v3, .inl (G.2.2.2, 100, .inl h))] s.heap.size = A at hD ⊢
  have hA : ∀ q : Nat, s.heap.size ≤ q → A q := fun q h => by rw [← hAe]; exact Or.inr h
  have hS : va_S A s.heap s.heap [] := va_S.rf
  refine lv_aload_n hx hb d_P_seed_0 rfl (lv_at hl 0 rfl) ?_
  refine va_get (D := G.1) (ci := 0) (v := .long ns) (C := R_P) (T := F_P) (N := 6) hx hb ht in_P hown hK hP 0 rfl rfl 4 (by decide) (ht _ kf_P_7) (fun _ h9 => h9) rfl d_P_seed_1 ?_
  refine lv_lstore_n (lv' := [(3, .long ns), (0, .ref a), (1, .long s1)]) hx hb d_P_seed_4 rfl hl (by decide) rfl (fun ls hl => ?_)
  refine lv_aload_n hx hb d_P_seed_5 rfl (lv_at hl 1 rfl) ?_
  refine lv_lload_n hx hb d_P_seed_6 rfl (lv_at hl 2 rfl) ?_
  refine va_put (D := G.1) (ci := 0) (v := .long s1) (ty := .long) (C := R_P) (T := F_P) (N := 6) hx hb ht in_P t_P tk_P n_P hown hK hP hD hS 0 rfl rfl 4 (by decide) (ht _ kf_P_7) (fun _ h9 => h9) rfl (by decide +kernel) rfl rfl (Nat.le_of_ble_eq_true rfl) d_P_seed_7 (fun H locs hP hD hS => ?_)
  have hP : va_P G.1 classes [(a, .inr (0, [.ref d1, .ref v1, .ref o1, .ref t1, .long s1, .int lb])), (d1, .inr (1, [.ref d2, .long sd, .int k, .int (nI n), .int fb])), (d2, .inl (G.2.1, 16, .inr (.inl f))), (v1, .inr (2, [.ref v2, .ref v3, .int (nI q)])), (v2, .inl (G.2.2.1, 100, .inl g)), (v3, .inl (G.2.2.2, 100, .inl h))] H := hP
  have hD : va_D A [(a, .inr (0, [.ref d1, .ref v1, .ref o1, .ref t1, .long s1, .int lb])), (d1, .inr (1, [.ref d2, .long sd, .int k, .int (nI n), .int fb])), (d2, .inl (G.2.1, 16, .inr (.inl f))), (v1, .inr (2, [.ref v2, .ref v3, .int (nI q)])), (v2, .inl (G.2.2.1, 100, .inl g)), (v3, .inl (G.2.2.2, 100, .inl h))] := hD
  refine lv_lload_n hx hb d_P_seed_10 rfl (lv_at hl 0 rfl) ?_
  exact W.lret (v := ns) hx hb hr (fun t h9 _ => ⟨⟨ns, (), rfl, rfl, by show va_P _ _ _ t.heap; rw [h9]; exact hP⟩, hS.F h9⟩) hS.2.2 d_P_seed_11
def fn_P_part (n : Nat) (fb : Int32) (f : Nat → Int64) (p1 : Int32) (p2 : Int32) : Int32 := (if (fn_D_has n p1) = 0 then (-1) else (if p2 < 0 then (-12) else (if p2 ≤ 4 then (if p2 = 0 then (if (fn_D_hasFaults n fb p1) = 0 then 0 else 1) else (fn_D_fact n f p1 p2)) else (-12))))
set_option maxHeartbeats 4000000 in
set_option maxRecDepth 100000 in
theorem c_P_part (l : Launch) (G : GT) (H : Heap) (a : Nat) (d1 : Nat) (d2 : Nat) (v1 : Nat) (v2 : Nat) (v3 : Nat) (o1 : Nat) (t1 : Nat) (sd : Int64) (k : Int32) (n : Nat) (fb : Int32) (f : Nat → Int64) (g : Nat → Int32) (h : Nat → Int32) (q : Nat) (ns : Int64) (lb : Int32) (p1 : Int32) (p2 : Int32) (hP : va_P G.1 classes [(a, .inr (0, [.ref d1, .ref v1, .ref o1, .ref t1, .long ns, .int lb])), (d1, .inr (1, [.ref d2, .long sd, .int k, .int (nI n), .int fb])), (d2, .inl (G.2.1, 16, .inr (.inl f))), (v1, .inr (2, [.ref v2, .ref v3, .int (nI q)])), (v2, .inl (G.2.2.1, 100, .inl g)), (v3, .inl (G.2.2.2, 100, .inl h))] H) (hn : n ≤ 16) (hq : q ≤ 100) : Met l y_P_part (Cond.code y_P_part b_P_part 3 (some .int) :: TG) ({ frames := 2, cells := 0, slots := 0, locals := 45 }) (PC G H [.ref a, .int p1, .int p2]) (QcRead (fn_P_part n fb f p1 p2)) 0 0 (fun _ => False) := by
  refine Met.ofW (cc := b_P_part) (maxL := 3) (ret := (some .int)) (by decide) rfl ?_
  intro p e s m args below meth c s₁ B hml hv
  obtain ⟨rfl, hH, hKN⟩ := hv
  subst hH
  have hx := B.exec
  have hb := B.bytes
  have hr := B.returns
  have hts := atoms_spec (ws := (Cond.code y_P_part b_P_part 3 (some .int) :: TG)) B.pre
  have ht : ∀ w ∈ TG, w.before _ s = true := fun w h => hts w (List.mem_cons_of_mem _ h)
  have hown : s.vm.findClass R_P = some m.cls := findClass_of_methodNamed B.named
  have hlocks := B.notSynchronized
  have hK := hKN.1
  have hl := lv_entry ([.ref a, .int p1, .int p2]) (n := 3) (Nat.le_of_ble_eq_true rfl)
  rw [lg_entry_eq]
  generalize (lg_sl ([.ref a, .int p1, .int p2]) ++ List.replicate (3 - (lg_sl ([.ref a, .int p1, .int p2])).length) Slot.unset).toArray = ls at hl ⊢
  have hl : lv_has ls 3 [(0, .ref a), (1, .int p1), (2, .int p2)] := hl
  refine lv_aload_n hx hb d_P_part_0 rfl (lv_at hl 0 rfl) ?_
  refine va_get (D := G.1) (ci := 0) (v := .ref d1) (C := R_P) (T := F_P) (N := 6) hx hb ht in_P hown hK hP 0 rfl rfl 0 (by decide) (ht _ kf_P_20) (fun _ h9 => h9) rfl d_P_part_1 ?_
  refine lv_iload_n hx hb d_P_part_4 rfl (lv_at hl 1 rfl) ?_
  refine pr_i (ru_V (b := d1) (As := [.int p1]) (rest := []) ⟨hx, hb, hml, hown, ht⟩ hKN (c_D_has l G _ d1 d2 sd k n fb f p1 (hP.sub [1, 2] rfl) hn) kc_P_55 ⟨rfl, rfl⟩ ⟨Nat.le_of_ble_eq_true rfl, Nat.le_of_ble_eq_true rfl⟩ (va_recv hK hP (ci := 1) (q0 := 1) rfl rfl) rfl hl.1 rfl (Nat.le_of_ble_eq_true rfl) d_P_part_5 ⟨Nat.le_of_ble_eq_true rfl, Nat.le_of_ble_eq_true rfl⟩) ?_
  refine lv_if_ne (tgt := 13) hx hb d_P_part_8 (by decide) (fun c1 => ?_) (fun c1 => ?_)
  · refine lv_iload_n hx hb d_P_part_13 rfl (lv_at hl 2 rfl) ?_
    refine lv_if_lt (tgt := 22) hx hb d_P_part_14 (by decide) (fun c2 => ?_) (fun c2 => ?_)
    · refine lv_bipush (v := (-12)) hx hb d_P_part_22 (by decide) ?_
      exact W.iret (v := (-12)) hx hb hr (fun t h9 _ => ⟨congrArg (fun z => Outcome.returned (some (Value.int z))) (by unfold fn_P_part; rw [if_neg c1, if_pos c2]), h9⟩) (fun _ h => nomatch h) d_P_part_24
    · refine lv_iload_n hx hb d_P_part_17 rfl (lv_at hl 2 rfl) ?_
      refine lv_iconst (v := 4) hx hb d_P_part_18 (by decide) ?_
      refine lv_icmp_le (tgt := 25) hx hb d_P_part_19 (by decide) (fun c3 => ?_) (fun c3 => ?_)
      · refine lv_iload_n hx hb d_P_part_25 rfl (lv_at hl 2 rfl) ?_
        refine lv_if_ne (tgt := 46) hx hb d_P_part_26 (by decide) (fun c4 => ?_) (fun c4 => ?_)
        · refine lv_aload_n hx hb d_P_part_46 rfl (lv_at hl 0 rfl) ?_
          refine va_get (D := G.1) (ci := 0) (v := .ref d1) (C := R_P) (T := F_P) (N := 6) hx hb ht in_P hown hK hP 0 rfl rfl 0 (by decide) (ht _ kf_P_20) (fun _ h9 => h9) rfl d_P_part_47 ?_
          refine lv_iload_n hx hb d_P_part_50 rfl (lv_at hl 1 rfl) ?_
          refine lv_iload_n hx hb d_P_part_51 rfl (lv_at hl 2 rfl) ?_
          refine pr_i (ru_V (b := d1) (As := [.int p1, .int p2]) (rest := []) ⟨hx, hb, hml, hown, ht⟩ hKN (c_D_fact l G _ d1 d2 sd k n fb f p1 p2 (hP.sub [1, 2] rfl) hn) kc_P_62 ⟨rfl, rfl⟩ ⟨Nat.le_of_ble_eq_true rfl, Nat.le_of_ble_eq_true rfl⟩ (va_recv hK hP (ci := 1) (q0 := 1) rfl rfl) rfl hl.1 rfl (Nat.le_of_ble_eq_true rfl) d_P_part_52 ⟨Nat.le_of_ble_eq_true rfl, Nat.le_of_ble_eq_true rfl⟩) ?_
          exact W.iret (v := (fn_D_fact n f p1 p2)) hx hb hr (fun t h9 _ => ⟨congrArg (fun z => Outcome.returned (some (Value.int z))) (by unfold fn_P_part; rw [if_neg c1, if_neg c2, if_pos c3, if_neg c4]), h9⟩) (fun _ h => nomatch h) d_P_part_55
        · refine lv_aload_n hx hb d_P_part_29 rfl (lv_at hl 0 rfl) ?_
          refine va_get (D := G.1) (ci := 0) (v := .ref d1) (C := R_P) (T := F_P) (N := 6) hx hb ht in_P hown hK hP 0 rfl rfl 0 (by decide) (ht _ kf_P_20) (fun _ h9 => h9) rfl d_P_part_30 ?_
          refine lv_iload_n hx hb d_P_part_33 rfl (lv_at hl 1 rfl) ?_
          refine pr_i (ru_V (b := d1) (As := [.int p1]) (rest := []) ⟨hx, hb, hml, hown, ht⟩ hKN (c_D_hasFaults l G _ d1 d2 sd k n fb f p1 (hP.sub [1, 2] rfl) hn) kc_P_59 ⟨rfl, rfl⟩ ⟨Nat.le_of_ble_eq_true rfl, Nat.le_of_ble_eq_true rfl⟩ (va_recv hK hP (ci := 1) (q0 := 1) rfl rfl) rfl hl.1 rfl (Nat.le_of_ble_eq_true rfl) d_P_part_34 ⟨Nat.le_of_ble_eq_true rfl, Nat.le_of_ble_eq_true rfl⟩) ?_
          refine lv_if_eq (tgt := 44) hx hb d_P_part_37 (by decide) (fun c5 => ?_) (fun c5 => ?_)
          · refine lv_iconst (v := 0) hx hb d_P_part_44 (by decide) ?_
            exact W.iret (v := 0) hx hb hr (fun t h9 _ => ⟨congrArg (fun z => Outcome.returned (some (Value.int z))) (by unfold fn_P_part; rw [if_neg c1, if_neg c2, if_pos c3, if_pos c4, if_pos c5]), h9⟩) (fun _ h => nomatch h) d_P_part_45
          · refine lv_iconst (v := 1) hx hb d_P_part_40 (by decide) ?_
            refine lv_goto (tgt := 45) hx hb d_P_part_41 (by decide) ?_
            exact W.iret (v := 1) hx hb hr (fun t h9 _ => ⟨congrArg (fun z => Outcome.returned (some (Value.int z))) (by unfold fn_P_part; rw [if_neg c1, if_neg c2, if_pos c3, if_pos c4, if_neg c5]), h9⟩) (fun _ h => nomatch h) d_P_part_45
      · refine lv_bipush (v := (-12)) hx hb d_P_part_22 (by decide) ?_
        exact W.iret (v := (-12)) hx hb hr (fun t h9 _ => ⟨congrArg (fun z => Outcome.returned (some (Value.int z))) (by unfold fn_P_part; rw [if_neg c1, if_neg c2, if_neg c3]), h9⟩) (fun _ h => nomatch h) d_P_part_24
  · refine lv_iconst (v := (-1)) hx hb d_P_part_11 (by decide) ?_
    exact W.iret (v := (-1)) hx hb hr (fun t h9 _ => ⟨congrArg (fun z => Outcome.returned (some (Value.int z))) (by unfold fn_P_part; rw [if_pos c1]), h9⟩) (fun _ h => nomatch h) d_P_part_12
def fn_P_faultless (k : Int32) (n : Nat) (fb : Int32) (p1 : Int32) : Int32 := (if k = 3 then (if (fn_D_has n p1) = 0 then 0 else (if (fn_D_hasFaults n fb p1) = 0 then 1 else 0)) else 0)
set_option maxHeartbeats 4000000 in
set_option maxRecDepth 100000 in
theorem c_P_faultless (l : Launch) (G : GT) (H : Heap) (a : Nat) (d1 : Nat) (d2 : Nat) (v1 : Nat) (v2 : Nat) (v3 : Nat) (o1 : Nat) (t1 : Nat) (sd : Int64) (k : Int32) (n : Nat) (fb : Int32) (f : Nat → Int64) (g : Nat → Int32) (h : Nat → Int32) (q : Nat) (ns : Int64) (lb : Int32) (p1 : Int32) (hP : va_P G.1 classes [(a, .inr (0, [.ref d1, .ref v1, .ref o1, .ref t1, .long ns, .int lb])), (d1, .inr (1, [.ref d2, .long sd, .int k, .int (nI n), .int fb])), (d2, .inl (G.2.1, 16, .inr (.inl f))), (v1, .inr (2, [.ref v2, .ref v3, .int (nI q)])), (v2, .inl (G.2.2.1, 100, .inl g)), (v3, .inl (G.2.2.2, 100, .inl h))] H) (hn : n ≤ 16) (hq : q ≤ 100) : Met l y_P_faultless (Cond.code y_P_faultless b_P_faultless 2 (some .boolean) :: TG) ({ frames := 2, cells := 0, slots := 0, locals := 42 }) (PC G H [.ref a, .int p1]) (QcRead (fn_P_faultless k n fb p1)) 0 0 (fun _ => False) := by
  refine Met.ofW (cc := b_P_faultless) (maxL := 2) (ret := (some .boolean)) (by decide) rfl ?_
  intro p e s m args below meth c s₁ B hml hv
  obtain ⟨rfl, hH, hKN⟩ := hv
  subst hH
  have hx := B.exec
  have hb := B.bytes
  have hr := B.returns
  have hts := atoms_spec (ws := (Cond.code y_P_faultless b_P_faultless 2 (some .boolean) :: TG)) B.pre
  have ht : ∀ w ∈ TG, w.before _ s = true := fun w h => hts w (List.mem_cons_of_mem _ h)
  have hown : s.vm.findClass R_P = some m.cls := findClass_of_methodNamed B.named
  have hlocks := B.notSynchronized
  have hK := hKN.1
  have hl := lv_entry ([.ref a, .int p1]) (n := 2) (Nat.le_of_ble_eq_true rfl)
  rw [lg_entry_eq]
  generalize (lg_sl ([.ref a, .int p1]) ++ List.replicate (2 - (lg_sl ([.ref a, .int p1])).length) Slot.unset).toArray = ls at hl ⊢
  have hl : lv_has ls 2 [(0, .ref a), (1, .int p1)] := hl
  refine lv_aload_n hx hb d_P_faultless_0 rfl (lv_at hl 0 rfl) ?_
  refine va_get (D := G.1) (ci := 0) (v := .ref d1) (C := R_P) (T := F_P) (N := 6) hx hb ht in_P hown hK hP 0 rfl rfl 0 (by decide) (ht _ kf_P_20) (fun _ h9 => h9) rfl d_P_faultless_1 ?_
  refine va_getN (D := G.1) (ci := 1) (v := .int k) (C := R_D) (T := F_D) (N := 5) hx hb ht in_D hown hK hP 1 rfl rfl 2 (by decide) (va_Nw.use rfl (hKN.2 _ kn_P_66 rfl)) (fun _ h9 => h9) rfl d_P_faultless_4 ?_
  refine lv_iconst (v := 3) hx hb d_P_faultless_7 (by decide) ?_
  refine lv_icmp_ne (tgt := 37) hx hb d_P_faultless_8 (by decide) (fun c1 => ?_) (fun c1 => ?_)
  · refine lv_iconst (v := 0) hx hb d_P_faultless_37 (by decide) ?_
    exact W.zret (v := 0) hx hb hr rfl (fun t h9 _ => ⟨congrArg (fun z => Outcome.returned (some (Value.int z))) (by unfold fn_P_faultless; rw [if_neg c1]), h9⟩) (fun _ h => nomatch h) d_P_faultless_38
  · refine lv_aload_n hx hb d_P_faultless_11 rfl (lv_at hl 0 rfl) ?_
    refine va_get (D := G.1) (ci := 0) (v := .ref d1) (C := R_P) (T := F_P) (N := 6) hx hb ht in_P hown hK hP 0 rfl rfl 0 (by decide) (ht _ kf_P_20) (fun _ h9 => h9) rfl d_P_faultless_12 ?_
    refine lv_iload_n hx hb d_P_faultless_15 rfl (lv_at hl 1 rfl) ?_
    refine pr_i (ru_V (b := d1) (As := [.int p1]) (rest := []) ⟨hx, hb, hml, hown, ht⟩ hKN (c_D_has l G _ d1 d2 sd k n fb f p1 (hP.sub [1, 2] rfl) hn) kc_P_55 ⟨rfl, rfl⟩ ⟨Nat.le_of_ble_eq_true rfl, Nat.le_of_ble_eq_true rfl⟩ (va_recv hK hP (ci := 1) (q0 := 1) rfl rfl) rfl hl.1 rfl (Nat.le_of_ble_eq_true rfl) d_P_faultless_16 ⟨Nat.le_of_ble_eq_true rfl, Nat.le_of_ble_eq_true rfl⟩) ?_
    refine lv_if_eq (tgt := 37) hx hb d_P_faultless_19 (by decide) (fun c2 => ?_) (fun c2 => ?_)
    · refine lv_iconst (v := 0) hx hb d_P_faultless_37 (by decide) ?_
      exact W.zret (v := 0) hx hb hr rfl (fun t h9 _ => ⟨congrArg (fun z => Outcome.returned (some (Value.int z))) (by unfold fn_P_faultless; rw [if_pos c1, if_pos c2]), h9⟩) (fun _ h => nomatch h) d_P_faultless_38
    · refine lv_aload_n hx hb d_P_faultless_22 rfl (lv_at hl 0 rfl) ?_
      refine va_get (D := G.1) (ci := 0) (v := .ref d1) (C := R_P) (T := F_P) (N := 6) hx hb ht in_P hown hK hP 0 rfl rfl 0 (by decide) (ht _ kf_P_20) (fun _ h9 => h9) rfl d_P_faultless_23 ?_
      refine lv_iload_n hx hb d_P_faultless_26 rfl (lv_at hl 1 rfl) ?_
      refine pr_i (ru_V (b := d1) (As := [.int p1]) (rest := []) ⟨hx, hb, hml, hown, ht⟩ hKN (c_D_hasFaults l G _ d1 d2 sd k n fb f p1 (hP.sub [1, 2] rfl) hn) kc_P_59 ⟨rfl, rfl⟩ ⟨Nat.le_of_ble_eq_true rfl, Nat.le_of_ble_eq_true rfl⟩ (va_recv hK hP (ci := 1) (q0 := 1) rfl rfl) rfl hl.1 rfl (Nat.le_of_ble_eq_true rfl) d_P_faultless_27 ⟨Nat.le_of_ble_eq_true rfl, Nat.le_of_ble_eq_true rfl⟩) ?_
      refine lv_if_ne (tgt := 37) hx hb d_P_faultless_30 (by decide) (fun c3 => ?_) (fun c3 => ?_)
      · refine lv_iconst (v := 0) hx hb d_P_faultless_37 (by decide) ?_
        exact W.zret (v := 0) hx hb hr rfl (fun t h9 _ => ⟨congrArg (fun z => Outcome.returned (some (Value.int z))) (by unfold fn_P_faultless; rw [if_pos c1, if_neg c2, if_neg c3]), h9⟩) (fun _ h => nomatch h) d_P_faultless_38
      · refine lv_iconst (v := 1) hx hb d_P_faultless_33 (by decide) ?_
        refine lv_goto (tgt := 38) hx hb d_P_faultless_34 (by decide) ?_
        exact W.zret (v := 1) hx hb hr rfl (fun t h9 _ => ⟨congrArg (fun z => Outcome.returned (some (Value.int z))) (by unfold fn_P_faultless; rw [if_pos c1, if_neg c2, if_pos c3]), h9⟩) (fun _ h => nomatch h) d_P_faultless_38
def fn_P_canLeaveOut (g : Nat → Int32) (h : Nat → Int32) (q : Nat) (lb : Int32) (p1 : Int32) : Int32 := (if (lb &&& ((1 : Int32) <<< (p1 &&& 31))) = 0 then 0 else (if (fn_V_stayFor g h q (lb &&& (((1 : Int32) <<< (p1 &&& 31)) ^^^ (-1)))) = 0 then 0 else 1))
set_option maxHeartbeats 4000000 in
set_option maxRecDepth 100000 in
theorem c_P_canLeaveOut (l : Launch) (G : GT) (H : Heap) (a : Nat) (d1 : Nat) (d2 : Nat) (v1 : Nat) (v2 : Nat) (v3 : Nat) (o1 : Nat) (t1 : Nat) (sd : Int64) (k : Int32) (n : Nat) (fb : Int32) (f : Nat → Int64) (g : Nat → Int32) (h : Nat → Int32) (q : Nat) (ns : Int64) (lb : Int32) (p1 : Int32) (hP : va_P G.1 classes [(a, .inr (0, [.ref d1, .ref v1, .ref o1, .ref t1, .long ns, .int lb])), (d1, .inr (1, [.ref d2, .long sd, .int k, .int (nI n), .int fb])), (d2, .inl (G.2.1, 16, .inr (.inl f))), (v1, .inr (2, [.ref v2, .ref v3, .int (nI q)])), (v2, .inl (G.2.2.1, 100, .inl g)), (v3, .inl (G.2.2.2, 100, .inl h))] H) (hn : n ≤ 16) (hq : q ≤ 100) : Met l y_P_canLeaveOut (Cond.code y_P_canLeaveOut b_P_canLeaveOut 3 (some .boolean) :: TG) ({ frames := 2, cells := 0, slots := 0, locals := 44 }) (PC G H [.ref a, .int p1]) (QcRead (fn_P_canLeaveOut g h q lb p1)) 0 0 (fun _ => False) := by
  refine Met.ofW (cc := b_P_canLeaveOut) (maxL := 3) (ret := (some .boolean)) (by decide) rfl ?_
  intro p e s m args below meth c s₁ B hml hv
  obtain ⟨rfl, hH, hKN⟩ := hv
  subst hH
  have hx := B.exec
  have hb := B.bytes
  have hr := B.returns
  have hts := atoms_spec (ws := (Cond.code y_P_canLeaveOut b_P_canLeaveOut 3 (some .boolean) :: TG)) B.pre
  have ht : ∀ w ∈ TG, w.before _ s = true := fun w h => hts w (List.mem_cons_of_mem _ h)
  have hown : s.vm.findClass R_P = some m.cls := findClass_of_methodNamed B.named
  have hlocks := B.notSynchronized
  have hK := hKN.1
  have hl := lv_entry ([.ref a, .int p1]) (n := 3) (Nat.le_of_ble_eq_true rfl)
  rw [lg_entry_eq]
  generalize (lg_sl ([.ref a, .int p1]) ++ List.replicate (3 - (lg_sl ([.ref a, .int p1])).length) Slot.unset).toArray = ls at hl ⊢
  have hl : lv_has ls 3 [(0, .ref a), (1, .int p1)] := hl
  refine lv_iconst (v := 1) hx hb d_P_canLeaveOut_0 (by decide) ?_
  refine lv_iload_n hx hb d_P_canLeaveOut_1 rfl (lv_at hl 1 rfl) ?_
  refine lv_ishl hx hb d_P_canLeaveOut_2 ?_
  refine lv_istore_n (lv' := [(2, .int ((1 : Int32) <<< (p1 &&& 31))), (0, .ref a), (1, .int p1)]) hx hb d_P_canLeaveOut_3 rfl hl (by decide) rfl (fun ls hl => ?_)
  refine lv_aload_n hx hb d_P_canLeaveOut_4 rfl (lv_at hl 1 rfl) ?_
  refine va_get (D := G.1) (ci := 0) (v := .int lb) (C := R_P) (T := F_P) (N := 6) hx hb ht in_P hown hK hP 0 rfl rfl 5 (by decide) (ht _ kf_P_13) (fun _ h9 => h9) rfl d_P_canLeaveOut_5 ?_
  refine lv_iload_n hx hb d_P_canLeaveOut_8 rfl (lv_at hl 0 rfl) ?_
  refine lv_iand hx hb d_P_canLeaveOut_9 ?_
  refine lv_if_eq (tgt := 35) hx hb d_P_canLeaveOut_10 (by decide) (fun c1 => ?_) (fun c1 => ?_)
  · refine lv_iconst (v := 0) hx hb d_P_canLeaveOut_35 (by decide) ?_
    exact W.zret (v := 0) hx hb hr rfl (fun t h9 _ => ⟨congrArg (fun z => Outcome.returned (some (Value.int z))) (by unfold fn_P_canLeaveOut; rw [if_pos c1]), h9⟩) (fun _ h => nomatch h) d_P_canLeaveOut_36
  · refine lv_aload_n hx hb d_P_canLeaveOut_13 rfl (lv_at hl 1 rfl) ?_
    refine va_get (D := G.1) (ci := 0) (v := .ref v1) (C := R_P) (T := F_P) (N := 6) hx hb ht in_P hown hK hP 0 rfl rfl 1 (by decide) (ht _ kf_P_33) (fun _ h9 => h9) rfl d_P_canLeaveOut_14 ?_
    refine lv_aload_n hx hb d_P_canLeaveOut_17 rfl (lv_at hl 1 rfl) ?_
    refine va_get (D := G.1) (ci := 0) (v := .int lb) (C := R_P) (T := F_P) (N := 6) hx hb ht in_P hown hK hP 0 rfl rfl 5 (by decide) (ht _ kf_P_13) (fun _ h9 => h9) rfl d_P_canLeaveOut_18 ?_
    refine lv_iload_n hx hb d_P_canLeaveOut_21 rfl (lv_at hl 0 rfl) ?_
    refine lv_iconst (v := (-1)) hx hb d_P_canLeaveOut_22 (by decide) ?_
    refine lv_ixor hx hb d_P_canLeaveOut_23 ?_
    refine lv_iand hx hb d_P_canLeaveOut_24 ?_
    refine pr_i (ru_V (b := v1) (As := [.int (lb &&& (((1 : Int32) <<< (p1 &&& 31)) ^^^ (-1)))]) (rest := []) ⟨hx, hb, hml, hown, ht⟩ hKN (c_V_stayFor l G _ v1 v2 v3 g h q (lb &&& (((1 : Int32) <<< (p1 &&& 31)) ^^^ (-1))) (hP.sub [3, 4, 5] rfl) hq) kc_P_89 ⟨rfl, rfl⟩ ⟨Nat.le_of_ble_eq_true rfl, Nat.le_of_ble_eq_true rfl⟩ (va_recv hK hP (ci := 2) (q0 := 3) rfl rfl) rfl hl.1 rfl (Nat.le_of_ble_eq_true rfl) d_P_canLeaveOut_25 ⟨Nat.le_of_ble_eq_true rfl, Nat.le_of_ble_eq_true rfl⟩) ?_
    refine lv_if_eq (tgt := 35) hx hb d_P_canLeaveOut_28 (by decide) (fun c2 => ?_) (fun c2 => ?_)
    · refine lv_iconst (v := 0) hx hb d_P_canLeaveOut_35 (by decide) ?_
      exact W.zret (v := 0) hx hb hr rfl (fun t h9 _ => ⟨congrArg (fun z => Outcome.returned (some (Value.int z))) (by unfold fn_P_canLeaveOut; rw [if_neg c1, if_pos c2]), h9⟩) (fun _ h => nomatch h) d_P_canLeaveOut_36
    · refine lv_iconst (v := 1) hx hb d_P_canLeaveOut_31 (by decide) ?_
      refine lv_goto (tgt := 36) hx hb d_P_canLeaveOut_32 (by decide) ?_
      exact W.zret (v := 1) hx hb hr rfl (fun t h9 _ => ⟨congrArg (fun z => Outcome.returned (some (Value.int z))) (by unfold fn_P_canLeaveOut; rw [if_neg c1, if_neg c2]), h9⟩) (fun _ h => nomatch h) d_P_canLeaveOut_36
def lf (lb i : Int32) : Nat → Nat → Int32 → Int32
  | 0, _, _ => -1
  | k + 1, j, x => if (lb &&& ((1 : Int32) <<< (nI j &&& 31))) = 0 then lf lb i k (j + 1) x else if x = i then nI j else lf lb i k (j + 1) (x + 1)
set_option maxHeartbeats 4000000 in
set_option maxRecDepth 100000 in
theorem c_P_left (l : Launch) (G : GT) (H : Heap) (a : Nat) (d1 : Nat) (d2 : Nat) (v1 : Nat) (v2 : Nat) (v3 : Nat) (o1 : Nat) (t1 : Nat) (sd : Int64) (k : Int32) (n : Nat) (fb : Int32) (f : Nat → Int64) (g : Nat → Int32) (h : Nat → Int32) (q : Nat) (ns : Int64) (lb : Int32) (p1 : Int32) (hP : va_P G.1 classes [(a, .inr (0, [.ref d1, .ref v1, .ref o1, .ref t1, .long ns, .int lb])), (d1, .inr (1, [.ref d2, .long sd, .int k, .int (nI n), .int fb])), (d2, .inl (G.2.1, 16, .inr (.inl f))), (v1, .inr (2, [.ref v2, .ref v3, .int (nI q)])), (v2, .inl (G.2.2.1, 100, .inl g)), (v3, .inl (G.2.2.2, 100, .inl h))] H) (hn : n ≤ 16) (hq : q ≤ 100) : Met l y_P_left (Cond.code y_P_left b_P_left 4 (some .int) :: TG) ({ frames := 0, cells := 0, slots := 0, locals := 0 }) (PC G H [.ref a, .int p1]) (QcRead (lf lb p1 16 0 0)) 0 0 (fun _ => False) := by
  refine Met.ofW (cc := b_P_left) (maxL := 4) (ret := (some .int)) (by decide) rfl ?_
  intro p e s m args below meth c s₁ B hml hv
  obtain ⟨rfl, hH, hKN⟩ := hv
  subst hH
  have hx := B.exec
  have hb := B.bytes
  have hr := B.returns
  have hts := atoms_spec (ws := (Cond.code y_P_left b_P_left 4 (some .int) :: TG)) B.pre
  have ht : ∀ w ∈ TG, w.before _ s = true := fun w h => hts w (List.mem_cons_of_mem _ h)
  have hown : s.vm.findClass R_P = some m.cls := findClass_of_methodNamed B.named
  have hlocks := B.notSynchronized
  have hK := hKN.1
  have hl := lv_entry ([.ref a, .int p1]) (n := 4) (Nat.le_of_ble_eq_true rfl)
  rw [lg_entry_eq]
  generalize (lg_sl ([.ref a, .int p1]) ++ List.replicate (4 - (lg_sl ([.ref a, .int p1])).length) Slot.unset).toArray = ls at hl ⊢
  have hl : lv_has ls 4 [(0, .ref a), (1, .int p1)] := hl
  refine lv_iconst (v := 0) hx hb d_P_left_0 (by decide) ?_
  refine lv_istore_n (lv' := [(2, .int 0), (0, .ref a), (1, .int p1)]) hx hb d_P_left_1 rfl hl (by decide) rfl (fun ls hl => ?_)
  refine lv_iconst (v := 0) hx hb d_P_left_2 (by decide) ?_
  refine lv_istore_n (lv' := [(3, .int 0), (2, .int 0), (0, .ref a), (1, .int p1)]) hx hb d_P_left_3 rfl hl (by decide) rfl (fun ls hl => ?_)
  have loop : ∀ (kk j : Nat) (x : Int32) (ls : Array Slot), j + kk = 16 → lf lb p1 kk j x = lf lb p1 16 0 0 → lv_has ls 4 [(0, .ref a), (1, .int p1), (2, .int x), (3, .int (nI j))] → W p l e (headSpec (Cond.code y_P_left b_P_left 4 (some .int) :: TG) ({ frames := 0, cells := 0, slots := 0, locals := 0 })).room s m ([.ref a, .int p1] : List Value).toArray below meth c s.heap [] 0 0 (MQ below (QcRead (lf lb p1 16 0 0)) ([.ref a, .int p1] : List Value).toArray s 0 0 (fun _ => False)) (F0 m 4 ls []) := by
    intro kk
    induction kk with
    | zero =>
      intro j x ls hj hv hl
      refine lv_iload_n hx hb d_P_left_4 rfl (lv_at hl 3 rfl) ?_
      refine lv_bipush (v := 16) hx hb d_P_left_5 (by decide) ?_
      refine lv_icmp_ge (tgt := 37) hx hb d_P_left_7 (by decide) (fun c1 => ?_) (fun c1 => ?_)
      · refine lv_iconst (v := (-1)) hx hb d_P_left_37 (by decide) ?_
        exact W.iret (v := (-1)) hx hb hr (fun t h9 _ => ⟨congrArg (fun z => Outcome.returned (some (Value.int z))) (by rw [← hv]; simp only [lf]), h9⟩) (fun _ h => nomatch h) d_P_left_38
      · exact absurd (show (16 : Int32) ≤ nI j from by rw [show j = 16 by omega]; decide) c1
    | succ kk ih =>
      intro j x ls hj hv hl
      refine lv_iload_n hx hb d_P_left_4 rfl (lv_at hl 3 rfl) ?_
      refine lv_bipush (v := 16) hx hb d_P_left_5 (by decide) ?_
      refine lv_icmp_ge (tgt := 37) hx hb d_P_left_7 (by decide) (fun c2 => ?_) (fun c2 => ?_)
      · exact absurd c2 (nI_ge (a := j) (b := 16) (by omega) (by decide))
      · refine lv_aload_n hx hb d_P_left_10 rfl (lv_at hl 0 rfl) ?_
        refine va_get (D := G.1) (ci := 0) (v := .int lb) (C := R_P) (T := F_P) (N := 6) hx hb ht in_P hown hK hP 0 rfl rfl 5 (by decide) (ht _ kf_P_13) (fun _ h9 => h9) rfl d_P_left_11 ?_
        refine lv_iconst (v := 1) hx hb d_P_left_14 (by decide) ?_
        refine lv_iload_n hx hb d_P_left_15 rfl (lv_at hl 3 rfl) ?_
        refine lv_ishl hx hb d_P_left_16 ?_
        refine lv_iand hx hb d_P_left_17 ?_
        refine lv_if_eq (tgt := 31) hx hb d_P_left_18 (by decide) (fun c3 => ?_) (fun c3 => ?_)
        · refine lv_iinc (v := nI (j + 1)) (lv' := [(3, .int (nI (j + 1))), (0, .ref a), (1, .int p1), (2, .int x)]) hx hb d_P_left_31 hl (k := 3) rfl (nI_1 j) (by decide) rfl (fun ls hl => ?_)
          refine lv_goto (tgt := 4) hx hb d_P_left_34 (by decide) ?_
          exact ih (j + 1) x ls (by omega) (by rw [← hv]; simp only [lf]; rw [if_pos c3]) (lv_sub hl [1, 2, 3, 0] rfl)
        · refine lv_iload_n hx hb d_P_left_21 rfl (lv_at hl 2 rfl) ?_
          refine lv_iload_n hx hb d_P_left_22 rfl (lv_at hl 1 rfl) ?_
          refine lv_icmp_ne (tgt := 28) hx hb d_P_left_23 (by decide) (fun c4 => ?_) (fun c4 => ?_)
          · refine lv_iinc (v := x + 1) (lv' := [(2, .int (x + 1)), (0, .ref a), (1, .int p1), (3, .int (nI j))]) hx hb d_P_left_28 hl (k := 2) rfl rfl (by decide) rfl (fun ls hl => ?_)
            refine lv_iinc (v := nI (j + 1)) (lv' := [(3, .int (nI (j + 1))), (2, .int (x + 1)), (0, .ref a), (1, .int p1)]) hx hb d_P_left_31 hl (k := 3) rfl (nI_1 j) (by decide) rfl (fun ls hl => ?_)
            refine lv_goto (tgt := 4) hx hb d_P_left_34 (by decide) ?_
            exact ih (j + 1) (x + 1) ls (by omega) (by rw [← hv]; simp only [lf]; rw [if_neg c3, if_neg c4]) (lv_sub hl [2, 3, 1, 0] rfl)
          · refine lv_iload_n hx hb d_P_left_26 rfl (lv_at hl 3 rfl) ?_
            exact W.iret (v := nI j) hx hb hr (fun t h9 _ => ⟨congrArg (fun z => Outcome.returned (some (Value.int z))) (by rw [← hv]; simp only [lf]; rw [if_neg c3, if_pos c4]), h9⟩) (fun _ h => nomatch h) d_P_left_27
  exact loop 16 0 0 ls (by omega) rfl (by exact lv_sub hl [2, 3, 1, 0] rfl)
def mn (g h : Nat → Int32) (q : Nat) (lb : Int32) : Nat → Nat → Int32
  | 0, _ => 1
  | k + 1, j => if fn_P_canLeaveOut g h q lb (nI j) = 0 then mn g h q lb k (j + 1) else 0
def mnm (n : Nat) (g h : Nat → Int32) (q : Nat) (lb : Int32) : Int32 := if fn_D_isEmpty n = 0 then (if fn_V_stayFor g h q lb = 0 then 0 else mn g h q lb 16 0) else 0
set_option maxHeartbeats 4000000 in
set_option maxRecDepth 100000 in
theorem c_P_minimal (l : Launch) (G : GT) (H : Heap) (a : Nat) (d1 : Nat) (d2 : Nat) (v1 : Nat) (v2 : Nat) (v3 : Nat) (o1 : Nat) (t1 : Nat) (sd : Int64) (k : Int32) (n : Nat) (fb : Int32) (f : Nat → Int64) (g : Nat → Int32) (h : Nat → Int32) (q : Nat) (ns : Int64) (lb : Int32) (hP : va_P G.1 classes [(a, .inr (0, [.ref d1, .ref v1, .ref o1, .ref t1, .long ns, .int lb])), (d1, .inr (1, [.ref d2, .long sd, .int k, .int (nI n), .int fb])), (d2, .inl (G.2.1, 16, .inr (.inl f))), (v1, .inr (2, [.ref v2, .ref v3, .int (nI q)])), (v2, .inl (G.2.2.1, 100, .inl g)), (v3, .inl (G.2.2.2, 100, .inl h))] H) (hn : n ≤ 16) (hq : q ≤ 100) : Met l y_P_minimal (Cond.code y_P_minimal b_P_minimal 2 (some .boolean) :: TG) ({ frames := 3, cells := 0, slots := 0, locals := 66 }) (PC G H [.ref a]) (QcRead (mnm n g h q lb)) 0 0 (fun _ => False) := by
  refine Met.ofW (cc := b_P_minimal) (maxL := 2) (ret := (some .boolean)) (by decide) rfl ?_
  intro p e s m args below meth c s₁ B hml hv
  obtain ⟨rfl, hH, hKN⟩ := hv
  subst hH
  have hx := B.exec
  have hb := B.bytes
  have hr := B.returns
  have hts := atoms_spec (ws := (Cond.code y_P_minimal b_P_minimal 2 (some .boolean) :: TG)) B.pre
  have ht : ∀ w ∈ TG, w.before _ s = true := fun w h => hts w (List.mem_cons_of_mem _ h)
  have hown : s.vm.findClass R_P = some m.cls := findClass_of_methodNamed B.named
  have hlocks := B.notSynchronized
  have hK := hKN.1
  have hl := lv_entry ([.ref a]) (n := 2) (Nat.le_of_ble_eq_true rfl)
  rw [lg_entry_eq]
  generalize (lg_sl ([.ref a]) ++ List.replicate (2 - (lg_sl ([.ref a])).length) Slot.unset).toArray = ls at hl ⊢
  have hl : lv_has ls 2 [(0, .ref a)] := hl
  refine lv_aload_n hx hb d_P_minimal_0 rfl (lv_at hl 0 rfl) ?_
  refine va_get (D := G.1) (ci := 0) (v := .ref d1) (C := R_P) (T := F_P) (N := 6) hx hb ht in_P hown hK hP 0 rfl rfl 0 (by decide) (ht _ kf_P_20) (fun _ h9 => h9) rfl d_P_minimal_1 ?_
  refine pr_i (ru_V (b := d1) (As := []) (rest := []) ⟨hx, hb, hml, hown, ht⟩ hKN (c_D_isEmpty l G _ d1 d2 sd k n fb f (hP.sub [1, 2] rfl) hn) kc_P_80 ⟨rfl, rfl⟩ ⟨Nat.le_of_ble_eq_true rfl, Nat.le_of_ble_eq_true rfl⟩ (va_recv hK hP (ci := 1) (q0 := 1) rfl rfl) rfl hl.1 rfl (Nat.le_of_ble_eq_true rfl) d_P_minimal_4 ⟨Nat.le_of_ble_eq_true rfl, Nat.le_of_ble_eq_true rfl⟩) ?_
  refine lv_if_ne (tgt := 24) hx hb d_P_minimal_7 (by decide) (fun c1 => ?_) (fun c1 => ?_)
  · refine lv_iconst (v := 0) hx hb d_P_minimal_24 (by decide) ?_
    exact W.zret (v := 0) hx hb hr rfl (fun t h9 _ => ⟨congrArg (fun z => Outcome.returned (some (Value.int z))) (by unfold mnm; rw [if_neg c1]), h9⟩) (fun _ h => nomatch h) d_P_minimal_25
  · refine lv_aload_n hx hb d_P_minimal_10 rfl (lv_at hl 0 rfl) ?_
    refine va_get (D := G.1) (ci := 0) (v := .ref v1) (C := R_P) (T := F_P) (N := 6) hx hb ht in_P hown hK hP 0 rfl rfl 1 (by decide) (ht _ kf_P_33) (fun _ h9 => h9) rfl d_P_minimal_11 ?_
    refine lv_aload_n hx hb d_P_minimal_14 rfl (lv_at hl 0 rfl) ?_
    refine va_get (D := G.1) (ci := 0) (v := .int lb) (C := R_P) (T := F_P) (N := 6) hx hb ht in_P hown hK hP 0 rfl rfl 5 (by decide) (ht _ kf_P_13) (fun _ h9 => h9) rfl d_P_minimal_15 ?_
    refine pr_i (ru_V (b := v1) (As := [.int lb]) (rest := []) ⟨hx, hb, hml, hown, ht⟩ hKN (c_V_stayFor l G _ v1 v2 v3 g h q lb (hP.sub [3, 4, 5] rfl) hq) kc_P_89 ⟨rfl, rfl⟩ ⟨Nat.le_of_ble_eq_true rfl, Nat.le_of_ble_eq_true rfl⟩ (va_recv hK hP (ci := 2) (q0 := 3) rfl rfl) rfl hl.1 rfl (Nat.le_of_ble_eq_true rfl) d_P_minimal_18 ⟨Nat.le_of_ble_eq_true rfl, Nat.le_of_ble_eq_true rfl⟩) ?_
    refine lv_if_ne (tgt := 26) hx hb d_P_minimal_21 (by decide) (fun c2 => ?_) (fun c2 => ?_)
    · refine lv_iconst (v := 0) hx hb d_P_minimal_26 (by decide) ?_
      refine lv_istore_n (lv' := [(1, .int 0), (0, .ref a)]) hx hb d_P_minimal_27 rfl hl (by decide) rfl (fun ls hl => ?_)
      have hm : mnm n g h q lb = mn g h q lb 16 0 := by unfold mnm; rw [if_pos c1, if_neg c2]
      have loop : ∀ (kk j : Nat) (ls : Array Slot), j + kk = 16 → mn g h q lb kk j = mn g h q lb 16 0 → lv_has ls 2 [(0, .ref a), (1, .int (nI j))] → W p l e (headSpec (Cond.code y_P_minimal b_P_minimal 2 (some .boolean) :: TG) ({ frames := 3, cells := 0, slots := 0, locals := 66 })).room s m ([.ref a] : List Value).toArray below meth c s.heap [] 0 0 (MQ below (QcRead (mnm n g h q lb)) ([.ref a] : List Value).toArray s 0 0 (fun _ => False)) (F0 m 28 ls []) := by
        intro kk
        induction kk with
        | zero =>
          intro j  ls hj hv hl
          refine lv_iload_n hx hb d_P_minimal_28 rfl (lv_at hl 1 rfl) ?_
          refine lv_bipush (v := 16) hx hb d_P_minimal_29 (by decide) ?_
          refine lv_icmp_ge (tgt := 50) hx hb d_P_minimal_31 (by decide) (fun c3 => ?_) (fun c3 => ?_)
          · refine lv_iconst (v := 1) hx hb d_P_minimal_50 (by decide) ?_
            exact W.zret (v := 1) hx hb hr rfl (fun t h9 _ => ⟨congrArg (fun z => Outcome.returned (some (Value.int z))) (by rw [hm, ← hv]; simp only [mn]), h9⟩) (fun _ h => nomatch h) d_P_minimal_51
          · exact absurd (show (16 : Int32) ≤ nI j from by rw [show j = 16 by omega]; decide) c3
        | succ kk ih =>
          intro j  ls hj hv hl
          refine lv_iload_n hx hb d_P_minimal_28 rfl (lv_at hl 1 rfl) ?_
          refine lv_bipush (v := 16) hx hb d_P_minimal_29 (by decide) ?_
          refine lv_icmp_ge (tgt := 50) hx hb d_P_minimal_31 (by decide) (fun c4 => ?_) (fun c4 => ?_)
          · exact absurd c4 (nI_ge (a := j) (b := 16) (by omega) (by decide))
          · refine lv_aload_n hx hb d_P_minimal_34 rfl (lv_at hl 0 rfl) ?_
            refine lv_iload_n hx hb d_P_minimal_35 rfl (lv_at hl 1 rfl) ?_
            refine pr_i (ru_V (b := a) (As := [.int (nI j)]) (rest := []) ⟨hx, hb, hml, hown, ht⟩ hKN (c_P_canLeaveOut l G _ a d1 d2 v1 v2 v3 o1 t1 sd k n fb f g h q ns lb (nI j) (hP.sub [0, 1, 2, 3, 4, 5] rfl) hn hq) kc_P_101 ⟨rfl, rfl⟩ ⟨Nat.le_of_ble_eq_true rfl, Nat.le_of_ble_eq_true rfl⟩ (va_recv hK hP (ci := 0) (q0 := 0) rfl rfl) rfl hl.1 rfl (Nat.le_of_ble_eq_true rfl) d_P_minimal_36 ⟨Nat.le_of_ble_eq_true rfl, Nat.le_of_ble_eq_true rfl⟩) ?_
            refine lv_if_eq (tgt := 44) hx hb d_P_minimal_39 (by decide) (fun c5 => ?_) (fun c5 => ?_)
            · refine lv_iinc (v := nI (j + 1)) (lv' := [(1, .int (nI (j + 1))), (0, .ref a)]) hx hb d_P_minimal_44 hl (k := 1) rfl (nI_1 j) (by decide) rfl (fun ls hl => ?_)
              refine lv_goto (tgt := 28) hx hb d_P_minimal_47 (by decide) ?_
              exact ih (j + 1) ls (by omega) (by rw [← hv]; simp only [mn]; rw [if_pos c5]) (lv_sub hl [1, 0] rfl)
            · refine lv_iconst (v := 0) hx hb d_P_minimal_42 (by decide) ?_
              exact W.zret (v := 0) hx hb hr rfl (fun t h9 _ => ⟨congrArg (fun z => Outcome.returned (some (Value.int z))) (by rw [hm, ← hv]; simp only [mn]; rw [if_neg c5]), h9⟩) (fun _ h => nomatch h) d_P_minimal_43
      exact loop 16 0 ls (by omega) rfl (by exact lv_sub hl [1, 0] rfl)
    · refine lv_iconst (v := 0) hx hb d_P_minimal_24 (by decide) ?_
      exact W.zret (v := 0) hx hb hr rfl (fun t h9 _ => ⟨congrArg (fun z => Outcome.returned (some (Value.int z))) (by unfold mnm; rw [if_pos c1, if_pos c2]), h9⟩) (fun _ h => nomatch h) d_P_minimal_25
/-- one going through, up to part j -/
def gt (g h : Nat → Int32) (q : Nat) (lb : Int32) : Nat → Int32
  | 0 => lb
  | j + 1 => if fn_P_canLeaveOut g h q (gt g h q lb j) (nI j) = 0 then gt g h q lb j else gt g h q lb j &&& (((1 : Int32) <<< (nI j &&& 31)) ^^^ (-1))
set_option maxHeartbeats 4000000 in
set_option maxRecDepth 100000 in
theorem c_P_goThrough (l : Launch) (G : GT) (H : Heap) (a : Nat) (d1 : Nat) (d2 : Nat) (v1 : Nat) (v2 : Nat) (v3 : Nat) (o1 : Nat) (t1 : Nat) (sd : Int64) (k : Int32) (n : Nat) (fb : Int32) (f : Nat → Int64) (g : Nat → Int32) (h : Nat → Int32) (q : Nat) (ns : Int64) (lb : Int32) (hP : va_P G.1 classes [(a, .inr (0, [.ref d1, .ref v1, .ref o1, .ref t1, .long ns, .int lb])), (d1, .inr (1, [.ref d2, .long sd, .int k, .int (nI n), .int fb])), (d2, .inl (G.2.1, 16, .inr (.inl f))), (v1, .inr (2, [.ref v2, .ref v3, .int (nI q)])), (v2, .inl (G.2.2.1, 100, .inl g)), (v3, .inl (G.2.2.2, 100, .inl h))] H) (hD0 : va_D (fun _ => True) [(a, .inr (0, [.ref d1, .ref v1, .ref o1, .ref t1, .long ns, .int lb])), (d1, .inr (1, [.ref d2, .long sd, .int k, .int (nI n), .int fb])), (d2, .inl (G.2.1, 16, .inr (.inl f))), (v1, .inr (2, [.ref v2, .ref v3, .int (nI q)])), (v2, .inl (G.2.2.1, 100, .inl g)), (v3, .inl (G.2.2.2, 100, .inl h))]) (hn : n ≤ 16) (hq : q ≤ 100) : Met l y_P_goThrough (Cond.code y_P_goThrough b_P_goThrough 2 none :: TG) ({ frames := 3, cells := 0, slots := 0, locals := 66 }) (PC G H [.ref a]) (QMv G [(a, .inr (0, [.ref d1, .ref v1, .ref o1, .ref t1, .long ns, .int (gt g h q lb 16)])), (d1, .inr (1, [.ref d2, .long sd, .int k, .int (nI n), .int fb])), (d2, .inl (G.2.1, 16, .inr (.inl f))), (v1, .inr (2, [.ref v2, .ref v3, .int (nI q)])), (v2, .inl (G.2.2.1, 100, .inl g)), (v3, .inl (G.2.2.2, 100, .inl h))] (va_A [(a, .inr (0, [.ref d1, .ref v1, .ref o1, .ref t1, .long ns, .int lb])), (d1, .inr (1, [.ref d2, .long sd, .int k, .int (nI n), .int fb])), (d2, .inl (G.2.1, 16, .inr (.inl f))), (v1, .inr (2, [.ref v2, .ref v3, .int (nI q)])), (v2, .inl (G.2.2.1, 100, .inl g)), (v3, .inl (G.2.2.2, 100, .inl h))] H.size)) 0 0 (va_A [(a, .inr (0, [.ref d1, .ref v1, .ref o1, .ref t1, .long ns, .int lb])), (d1, .inr (1, [.ref d2, .long sd, .int k, .int (nI n), .int fb])), (d2, .inl (G.2.1, 16, .inr (.inl f))), (v1, .inr (2, [.ref v2, .ref v3, .int (nI q)])), (v2, .inl (G.2.2.1, 100, .inl g)), (v3, .inl (G.2.2.2, 100, .inl h))] H.size) := by
  refine Met.ofW (cc := b_P_goThrough) (maxL := 2) (ret := none) (by decide) rfl ?_
  intro p e s m args below meth c s₁ B hml hv
  obtain ⟨rfl, hH, hKN⟩ := hv
  subst hH
  have hx := B.exec
  have hb := B.bytes
  have hr := B.returns
  have hts := atoms_spec (ws := (Cond.code y_P_goThrough b_P_goThrough 2 none :: TG)) B.pre
  have ht : ∀ w ∈ TG, w.before _ s = true := fun w h => hts w (List.mem_cons_of_mem _ h)
  have hown : s.vm.findClass R_P = some m.cls := findClass_of_methodNamed B.named
  have hlocks := B.notSynchronized
  have hK := hKN.1
  have hl := lv_entry ([.ref a]) (n := 2) (Nat.le_of_ble_eq_true rfl)
  rw [lg_entry_eq]
  generalize (lg_sl ([.ref a]) ++ List.replicate (2 - (lg_sl ([.ref a])).length) Slot.unset).toArray = ls at hl ⊢
  have hl : lv_has ls 2 [(0, .ref a)] := hl
  have hD := hD0.self (sz := s.heap.size)
  generalize hAe : va_A [(a, .inr (0, [.ref d1, .ref v1, .ref o1, .ref t1, .long ns, .int lb])), (d1, .inr (1, [.ref d2, .long sd, .int k, .int (nI n), .int fb])), (d2, .inl (G.2.1, 16, .inr (.inl f))), (v1, .inr (2, [.ref v2, .ref v3, .int (nI q)])), (v2, .inl (G.2.2.1, 100, .inl g)), (v3, .inl (G.2.2.2, 100, .inl h))] s.heap.size = A at hD ⊢
  have hA : ∀ q : Nat, s.heap.size ≤ q → A q := fun q h => by rw [← hAe]; exact Or.inr h
  have hS : va_S A s.heap s.heap [] := va_S.rf
  refine lv_iconst (v := 0) hx hb d_P_goThrough_0 (by decide) ?_
  refine lv_istore_n (lv' := [(1, .int 0), (0, .ref a)]) hx hb d_P_goThrough_1 rfl hl (by decide) rfl (fun ls hl => ?_)
  have loop : ∀ (kk j : Nat) (H : Heap) (locs : List Loc) (ls : Array Slot), j + kk = 16 → va_P G.1 classes [(a, .inr (0, [.ref d1, .ref v1, .ref o1, .ref t1, .long ns, .int (gt g h q lb j)])), (d1, .inr (1, [.ref d2, .long sd, .int k, .int (nI n), .int fb])), (d2, .inl (G.2.1, 16, .inr (.inl f))), (v1, .inr (2, [.ref v2, .ref v3, .int (nI q)])), (v2, .inl (G.2.2.1, 100, .inl g)), (v3, .inl (G.2.2.2, 100, .inl h))] H → va_D A [(a, .inr (0, [.ref d1, .ref v1, .ref o1, .ref t1, .long ns, .int (gt g h q lb j)])), (d1, .inr (1, [.ref d2, .long sd, .int k, .int (nI n), .int fb])), (d2, .inl (G.2.1, 16, .inr (.inl f))), (v1, .inr (2, [.ref v2, .ref v3, .int (nI q)])), (v2, .inl (G.2.2.1, 100, .inl g)), (v3, .inl (G.2.2.2, 100, .inl h))] → va_S A s.heap H locs → lv_has ls 2 [(0, .ref a), (1, .int (nI j))] → W p l e (headSpec (Cond.code y_P_goThrough b_P_goThrough 2 none :: TG) ({ frames := 3, cells := 0, slots := 0, locals := 66 })).room s m ([.ref a] : List Value).toArray below meth c H locs 0 0 (MQ below (QMv G [(a, .inr (0, [.ref d1, .ref v1, .ref o1, .ref t1, .long ns, .int (gt g h q lb 16)])), (d1, .inr (1, [.ref d2, .long sd, .int k, .int (nI n), .int fb])), (d2, .inl (G.2.1, 16, .inr (.inl f))), (v1, .inr (2, [.ref v2, .ref v3, .int (nI q)])), (v2, .inl (G.2.2.1, 100, .inl g)), (v3, .inl (G.2.2.2, 100, .inl h))] A) ([.ref a] : List Value).toArray s 0 0 A) (F0 m 2 ls []) := by
    intro kk
    induction kk with
    | zero =>
      intro j  H locs ls hj  hP hD hS hl
      refine lv_iload_n hx hb d_P_goThrough_2 rfl (lv_at hl 1 rfl) ?_
      refine lv_bipush (v := 16) hx hb d_P_goThrough_3 (by decide) ?_
      refine lv_icmp_ge (tgt := 36) hx hb d_P_goThrough_5 (by decide) (fun c1 => ?_) (fun c1 => ?_)
      · exact W.vret hx hb hr (fun t h9 _ => ⟨⟨(), rfl, trivial, by show va_P _ _ _ t.heap; rw [h9]; exact (by rw [show j = 16 by omega] at hP; exact hP)⟩, hS.F h9⟩) hS.2.2 d_P_goThrough_36
      · exact absurd (show (16 : Int32) ≤ nI j from by rw [show j = 16 by omega]; decide) c1
    | succ kk ih =>
      intro j  H locs ls hj  hP hD hS hl
      refine lv_iload_n hx hb d_P_goThrough_2 rfl (lv_at hl 1 rfl) ?_
      refine lv_bipush (v := 16) hx hb d_P_goThrough_3 (by decide) ?_
      refine lv_icmp_ge (tgt := 36) hx hb d_P_goThrough_5 (by decide) (fun c2 => ?_) (fun c2 => ?_)
      · exact absurd c2 (nI_ge (a := j) (b := 16) (by omega) (by decide))
      · refine lv_aload_n hx hb d_P_goThrough_8 rfl (lv_at hl 0 rfl) ?_
        refine lv_iload_n hx hb d_P_goThrough_9 rfl (lv_at hl 1 rfl) ?_
        refine pr_i (ru_V (b := a) (As := [.int (nI j)]) (rest := []) ⟨hx, hb, hml, hown, ht⟩ hKN (c_P_canLeaveOut l G _ a d1 d2 v1 v2 v3 o1 t1 sd k n fb f g h q ns (gt g h q lb j) (nI j) (hP.sub [0, 1, 2, 3, 4, 5] rfl) hn hq) kc_P_101 ⟨rfl, rfl⟩ ⟨Nat.le_of_ble_eq_true rfl, Nat.le_of_ble_eq_true rfl⟩ (va_recv hK hP (ci := 0) (q0 := 0) rfl rfl) rfl hl.1 rfl (Nat.le_of_ble_eq_true rfl) d_P_goThrough_10 ⟨Nat.le_of_ble_eq_true rfl, Nat.le_of_ble_eq_true rfl⟩) ?_
        refine lv_if_eq (tgt := 30) hx hb d_P_goThrough_13 (by decide) (fun c3 => ?_) (fun c3 => ?_)
        · refine lv_iinc (v := nI (j + 1)) (lv' := [(1, .int (nI (j + 1))), (0, .ref a)]) hx hb d_P_goThrough_30 hl (k := 1) rfl (nI_1 j) (by decide) rfl (fun ls hl => ?_)
          refine lv_goto (tgt := 2) hx hb d_P_goThrough_33 (by decide) ?_
          have e9 : gt g h q lb (j + 1) = gt g h q lb j := by simp only [gt]; rw [if_pos c3]
          rw [← e9] at hP hD
          exact ih (j + 1) H locs ls (by omega) hP hD hS (lv_sub hl [1, 0] rfl)
        · refine lv_aload_n hx hb d_P_goThrough_16 rfl (lv_at hl 0 rfl) ?_
          refine lv_dup hx hb d_P_goThrough_17 rfl ?_
          refine va_get (D := G.1) (ci := 0) (v := .int (gt g h q lb j)) (C := R_P) (T := F_P) (N := 6) hx hb ht in_P hown hK hP 0 rfl rfl 5 (by decide) (ht _ kf_P_13) (fun _ h9 => h9) rfl d_P_goThrough_18 ?_
          refine lv_iconst (v := 1) hx hb d_P_goThrough_21 (by decide) ?_
          refine lv_iload_n hx hb d_P_goThrough_22 rfl (lv_at hl 1 rfl) ?_
          refine lv_ishl hx hb d_P_goThrough_23 ?_
          refine lv_iconst (v := (-1)) hx hb d_P_goThrough_24 (by decide) ?_
          refine lv_ixor hx hb d_P_goThrough_25 ?_
          refine lv_iand hx hb d_P_goThrough_26 ?_
          refine va_put (D := G.1) (ci := 0) (v := .int ((gt g h q lb j) &&& (((1 : Int32) <<< ((nI j) &&& 31)) ^^^ (-1)))) (ty := .int) (C := R_P) (T := F_P) (N := 6) hx hb ht in_P t_P tk_P n_P hown hK hP hD hS 0 rfl rfl 5 (by decide) (ht _ kf_P_13) (fun _ h9 => h9) rfl (by decide +kernel) rfl rfl (Nat.le_of_ble_eq_true rfl) d_P_goThrough_27 (fun H locs hP hD hS => ?_)
          have hP : va_P G.1 classes [(a, .inr (0, [.ref d1, .ref v1, .ref o1, .ref t1, .long ns, .int ((gt g h q lb j) &&& (((1 : Int32) <<< ((nI j) &&& 31)) ^^^ (-1)))])), (d1, .inr (1, [.ref d2, .long sd, .int k, .int (nI n), .int fb])), (d2, .inl (G.2.1, 16, .inr (.inl f))), (v1, .inr (2, [.ref v2, .ref v3, .int (nI q)])), (v2, .inl (G.2.2.1, 100, .inl g)), (v3, .inl (G.2.2.2, 100, .inl h))] H := hP
          have hD : va_D A [(a, .inr (0, [.ref d1, .ref v1, .ref o1, .ref t1, .long ns, .int ((gt g h q lb j) &&& (((1 : Int32) <<< ((nI j) &&& 31)) ^^^ (-1)))])), (d1, .inr (1, [.ref d2, .long sd, .int k, .int (nI n), .int fb])), (d2, .inl (G.2.1, 16, .inr (.inl f))), (v1, .inr (2, [.ref v2, .ref v3, .int (nI q)])), (v2, .inl (G.2.2.1, 100, .inl g)), (v3, .inl (G.2.2.2, 100, .inl h))] := hD
          refine lv_iinc (v := nI (j + 1)) (lv' := [(1, .int (nI (j + 1))), (0, .ref a)]) hx hb d_P_goThrough_30 hl (k := 1) rfl (nI_1 j) (by decide) rfl (fun ls hl => ?_)
          refine lv_goto (tgt := 2) hx hb d_P_goThrough_33 (by decide) ?_
          have e9 : gt g h q lb (j + 1) = ((gt g h q lb j) &&& (((1 : Int32) <<< ((nI j) &&& 31)) ^^^ (-1))) := by simp only [gt]; rw [if_neg c3]
          rw [← e9] at hP hD
          exact ih (j + 1) H locs ls (by omega) hP hD hS (lv_sub hl [1, 0] rfl)
  exact loop 16 0 _ _ ls (by omega) hP hD hS (by exact lv_sub hl [1, 0] rfl)
def la (g h : Nat → Int32) (q : Nat) : Nat → Int32 → Int32
  | 0, b => b
  | k + 1, b => if gt g h q b 16 = b then b else la g h q k (gt g h q b 16)
set_option maxHeartbeats 4000000 in
set_option maxRecDepth 100000 in
theorem c_P_leaveOutAll (l : Launch) (G : GT) (H : Heap) (a : Nat) (d1 : Nat) (d2 : Nat) (v1 : Nat) (v2 : Nat) (v3 : Nat) (o1 : Nat) (t1 : Nat) (sd : Int64) (k : Int32) (n : Nat) (fb : Int32) (f : Nat → Int64) (g : Nat → Int32) (h : Nat → Int32) (q : Nat) (ns : Int64) (lb : Int32) (hP : va_P G.1 classes [(a, .inr (0, [.ref d1, .ref v1, .ref o1, .ref t1, .long ns, .int lb])), (d1, .inr (1, [.ref d2, .long sd, .int k, .int (nI n), .int fb])), (d2, .inl (G.2.1, 16, .inr (.inl f))), (v1, .inr (2, [.ref v2, .ref v3, .int (nI q)])), (v2, .inl (G.2.2.1, 100, .inl g)), (v3, .inl (G.2.2.2, 100, .inl h))] H) (hD0 : va_D (fun _ => True) [(a, .inr (0, [.ref d1, .ref v1, .ref o1, .ref t1, .long ns, .int lb])), (d1, .inr (1, [.ref d2, .long sd, .int k, .int (nI n), .int fb])), (d2, .inl (G.2.1, 16, .inr (.inl f))), (v1, .inr (2, [.ref v2, .ref v3, .int (nI q)])), (v2, .inl (G.2.2.1, 100, .inl g)), (v3, .inl (G.2.2.2, 100, .inl h))]) (hn : n ≤ 16) (hq : q ≤ 100) : Met l y_P_leaveOutAll (Cond.code y_P_leaveOutAll b_P_leaveOutAll 3 none :: TG) ({ frames := 4, cells := 0, slots := 0, locals := 87 }) (PC G H [.ref a]) (QMv G [(a, .inr (0, [.ref d1, .ref v1, .ref o1, .ref t1, .long ns, .int (la g h q 16 lb)])), (d1, .inr (1, [.ref d2, .long sd, .int k, .int (nI n), .int fb])), (d2, .inl (G.2.1, 16, .inr (.inl f))), (v1, .inr (2, [.ref v2, .ref v3, .int (nI q)])), (v2, .inl (G.2.2.1, 100, .inl g)), (v3, .inl (G.2.2.2, 100, .inl h))] (va_A [(a, .inr (0, [.ref d1, .ref v1, .ref o1, .ref t1, .long ns, .int lb])), (d1, .inr (1, [.ref d2, .long sd, .int k, .int (nI n), .int fb])), (d2, .inl (G.2.1, 16, .inr (.inl f))), (v1, .inr (2, [.ref v2, .ref v3, .int (nI q)])), (v2, .inl (G.2.2.1, 100, .inl g)), (v3, .inl (G.2.2.2, 100, .inl h))] H.size)) 0 0 (va_A [(a, .inr (0, [.ref d1, .ref v1, .ref o1, .ref t1, .long ns, .int lb])), (d1, .inr (1, [.ref d2, .long sd, .int k, .int (nI n), .int fb])), (d2, .inl (G.2.1, 16, .inr (.inl f))), (v1, .inr (2, [.ref v2, .ref v3, .int (nI q)])), (v2, .inl (G.2.2.1, 100, .inl g)), (v3, .inl (G.2.2.2, 100, .inl h))] H.size) := by
  refine Met.ofW (cc := b_P_leaveOutAll) (maxL := 3) (ret := none) (by decide) rfl ?_
  intro p e s m args below meth c s₁ B hml hv
  obtain ⟨rfl, hH, hKN⟩ := hv
  subst hH
  have hx := B.exec
  have hb := B.bytes
  have hr := B.returns
  have hts := atoms_spec (ws := (Cond.code y_P_leaveOutAll b_P_leaveOutAll 3 none :: TG)) B.pre
  have ht : ∀ w ∈ TG, w.before _ s = true := fun w h => hts w (List.mem_cons_of_mem _ h)
  have hown : s.vm.findClass R_P = some m.cls := findClass_of_methodNamed B.named
  have hlocks := B.notSynchronized
  have hK := hKN.1
  have hl := lv_entry ([.ref a]) (n := 3) (Nat.le_of_ble_eq_true rfl)
  rw [lg_entry_eq]
  generalize (lg_sl ([.ref a]) ++ List.replicate (3 - (lg_sl ([.ref a])).length) Slot.unset).toArray = ls at hl ⊢
  have hl : lv_has ls 3 [(0, .ref a)] := hl
  have hD := hD0.self (sz := s.heap.size)
  generalize hAe : va_A [(a, .inr (0, [.ref d1, .ref v1, .ref o1, .ref t1, .long ns, .int lb])), (d1, .inr (1, [.ref d2, .long sd, .int k, .int (nI n), .int fb])), (d2, .inl (G.2.1, 16, .inr (.inl f))), (v1, .inr (2, [.ref v2, .ref v3, .int (nI q)])), (v2, .inl (G.2.2.1, 100, .inl g)), (v3, .inl (G.2.2.2, 100, .inl h))] s.heap.size = A at hD ⊢
  have hA : ∀ q : Nat, s.heap.size ≤ q → A q := fun q h => by rw [← hAe]; exact Or.inr h
  have hS : va_S A s.heap s.heap [] := va_S.rf
  refine lv_iconst (v := 0) hx hb d_P_leaveOutAll_0 (by decide) ?_
  refine lv_istore_n (lv' := [(1, .int 0), (0, .ref a)]) hx hb d_P_leaveOutAll_1 rfl hl (by decide) rfl (fun ls hl => ?_)
  have loop : ∀ (kk j : Nat) (x : Int32) (H : Heap) (locs : List Loc) (ls : Array Slot), j + kk = 16 → la g h q kk x = la g h q 16 lb → va_P G.1 classes [(a, .inr (0, [.ref d1, .ref v1, .ref o1, .ref t1, .long ns, .int x])), (d1, .inr (1, [.ref d2, .long sd, .int k, .int (nI n), .int fb])), (d2, .inl (G.2.1, 16, .inr (.inl f))), (v1, .inr (2, [.ref v2, .ref v3, .int (nI q)])), (v2, .inl (G.2.2.1, 100, .inl g)), (v3, .inl (G.2.2.2, 100, .inl h))] H → va_D A [(a, .inr (0, [.ref d1, .ref v1, .ref o1, .ref t1, .long ns, .int x])), (d1, .inr (1, [.ref d2, .long sd, .int k, .int (nI n), .int fb])), (d2, .inl (G.2.1, 16, .inr (.inl f))), (v1, .inr (2, [.ref v2, .ref v3, .int (nI q)])), (v2, .inl (G.2.2.1, 100, .inl g)), (v3, .inl (G.2.2.2, 100, .inl h))] → va_S A s.heap H locs → lv_has ls 3 [(0, .ref a), (1, .int (nI j))] → W p l e (headSpec (Cond.code y_P_leaveOutAll b_P_leaveOutAll 3 none :: TG) ({ frames := 4, cells := 0, slots := 0, locals := 87 })).room s m ([.ref a] : List Value).toArray below meth c H locs 0 0 (MQ below (QMv G [(a, .inr (0, [.ref d1, .ref v1, .ref o1, .ref t1, .long ns, .int (la g h q 16 lb)])), (d1, .inr (1, [.ref d2, .long sd, .int k, .int (nI n), .int fb])), (d2, .inl (G.2.1, 16, .inr (.inl f))), (v1, .inr (2, [.ref v2, .ref v3, .int (nI q)])), (v2, .inl (G.2.2.1, 100, .inl g)), (v3, .inl (G.2.2.2, 100, .inl h))] A) ([.ref a] : List Value).toArray s 0 0 A) (F0 m 2 ls []) := by
    intro kk
    induction kk with
    | zero =>
      intro j x H locs ls hj hv hP hD hS hl
      refine lv_iload_n hx hb d_P_leaveOutAll_2 rfl (lv_at hl 1 rfl) ?_
      refine lv_bipush (v := 16) hx hb d_P_leaveOutAll_3 (by decide) ?_
      refine lv_icmp_ge (tgt := 32) hx hb d_P_leaveOutAll_5 (by decide) (fun c1 => ?_) (fun c1 => ?_)
      · exact W.vret hx hb hr (fun t h9 _ => ⟨⟨(), rfl, trivial, by show va_P _ _ _ t.heap; rw [h9]; exact (by rw [← hv]; simp only [la]; exact hP)⟩, hS.F h9⟩) hS.2.2 d_P_leaveOutAll_32
      · exact absurd (show (16 : Int32) ≤ nI j from by rw [show j = 16 by omega]; decide) c1
    | succ kk ih =>
      intro j x H locs ls hj hv hP hD hS hl
      refine lv_iload_n hx hb d_P_leaveOutAll_2 rfl (lv_at hl 1 rfl) ?_
      refine lv_bipush (v := 16) hx hb d_P_leaveOutAll_3 (by decide) ?_
      refine lv_icmp_ge (tgt := 32) hx hb d_P_leaveOutAll_5 (by decide) (fun c2 => ?_) (fun c2 => ?_)
      · exact absurd c2 (nI_ge (a := j) (b := 16) (by omega) (by decide))
      · refine lv_aload_n hx hb d_P_leaveOutAll_8 rfl (lv_at hl 0 rfl) ?_
        refine va_get (D := G.1) (ci := 0) (v := .int x) (C := R_P) (T := F_P) (N := 6) hx hb ht in_P hown hK hP 0 rfl rfl 5 (by decide) (ht _ kf_P_13) (fun _ h9 => h9) rfl d_P_leaveOutAll_9 ?_
        refine lv_istore_n (lv' := [(2, .int x), (0, .ref a), (1, .int (nI j))]) hx hb d_P_leaveOutAll_12 rfl hl (by decide) rfl (fun ls hl => ?_)
        refine lv_aload_n hx hb d_P_leaveOutAll_13 rfl (lv_at hl 1 rfl) ?_
        refine mu_v (wr := []) (wn := [(a, .inr (0, [.ref d1, .ref v1, .ref o1, .ref t1, .long ns, .int (gt g h q x 16)])), (d1, .inr (1, [.ref d2, .long sd, .int k, .int (nI n), .int fb])), (d2, .inl (G.2.1, 16, .inr (.inl f))), (v1, .inr (2, [.ref v2, .ref v3, .int (nI q)])), (v2, .inl (G.2.2.1, 100, .inl g)), (v3, .inl (G.2.2.2, 100, .inl h))]) (ru_V (b := a) (As := []) (rest := []) ⟨hx, hb, hml, hown, ht⟩ hKN (c_P_goThrough l G _ a d1 d2 v1 v2 v3 o1 t1 sd k n fb f g h q ns x (hP.sub [0, 1, 2, 3, 4, 5] rfl) ((hD.sub (ws' := [(a, .inr (0, [.ref d1, .ref v1, .ref o1, .ref t1, .long ns, .int x])), (d1, .inr (1, [.ref d2, .long sd, .int k, .int (nI n), .int fb])), (d2, .inl (G.2.1, 16, .inr (.inl f))), (v1, .inr (2, [.ref v2, .ref v3, .int (nI q)])), (v2, .inl (G.2.2.1, 100, .inl g)), (v3, .inl (G.2.2.2, 100, .inl h))]) [0, 1, 2, 3, 4, 5] (by decide) rfl).weaken (fun _ _ _ _ => trivial)) hn hq) kc_P_108 ⟨rfl, rfl⟩ ⟨Nat.le_of_ble_eq_true rfl, Nat.le_of_ble_eq_true rfl⟩ (va_recv hK hP (ci := 0) (q0 := 0) rfl rfl) rfl hl.1 rfl (Nat.le_of_ble_eq_true rfl) d_P_leaveOutAll_14 ⟨Nat.le_of_ble_eq_true rfl, Nat.le_of_ble_eq_true rfl⟩) hP hD hS hA [0, 1, 2, 3, 4, 5] [] [0, 1, 2, 3, 4, 5] rfl rfl ⟨by decide, by decide, by decide⟩ (by decide) rfl rfl (fun H locs hP hD hS => ?_)
        refine lv_aload_n hx hb d_P_leaveOutAll_17 rfl (lv_at hl 1 rfl) ?_
        refine va_get (D := G.1) (ci := 0) (v := .int (gt g h q x 16)) (C := R_P) (T := F_P) (N := 6) hx hb ht in_P hown hK hP 0 rfl rfl 5 (by decide) (ht _ kf_P_13) (fun _ h9 => h9) rfl d_P_leaveOutAll_18 ?_
        refine lv_iload_n hx hb d_P_leaveOutAll_21 rfl (lv_at hl 0 rfl) ?_
        refine lv_icmp_ne (tgt := 26) hx hb d_P_leaveOutAll_22 (by decide) (fun c3 => ?_) (fun c3 => ?_)
        · refine lv_iinc (v := nI (j + 1)) (lv' := [(1, .int (nI (j + 1))), (2, .int x), (0, .ref a)]) hx hb d_P_leaveOutAll_26 hl (k := 2) rfl (nI_1 j) (by decide) rfl (fun ls hl => ?_)
          refine lv_goto (tgt := 2) hx hb d_P_leaveOutAll_29 (by decide) ?_
          exact ih (j + 1) (gt g h q x 16) H locs ls (by omega) (by rw [← hv]; simp only [la]; rw [if_neg c3]) hP hD hS (lv_sub hl [2, 0] rfl)
        · exact W.vret hx hb hr (fun t h9 _ => ⟨⟨(), rfl, trivial, by show va_P _ _ _ t.heap; rw [h9]; exact (by rw [← hv]; simp only [la]; rw [if_pos c3]; rw [c3] at hP; exact hP)⟩, hS.F h9⟩) hS.2.2 d_P_leaveOutAll_25
  exact loop 16 0 lb _ _ ls (by omega) rfl hP hD hS (by exact lv_sub hl [1, 0] rfl)
end
section
set_option maxHeartbeats 4000000 in
set_option maxRecDepth 100000 in
theorem c_P_draw_no (l : Launch) (G : GT) (H : Heap) (a : Nat) (d1 : Nat) (d2 : Nat) (v1 : Nat) (v2 : Nat) (v3 : Nat) (o1 : Nat) (t1 : Nat) (sd : Int64) (k : Int32) (n : Nat) (fb : Int32) (f : Nat → Int64) (g : Nat → Int32) (h : Nat → Int32) (q : Nat) (ns : Int64) (lb : Int32) (p1 : Int32) (p2 : Int32) (hP : va_P G.1 classes [(a, .inr (0, [.ref d1, .ref v1, .ref o1, .ref t1, .long ns, .int lb])), (d1, .inr (1, [.ref d2, .long sd, .int k, .int (nI n), .int fb])), (d2, .inl (G.2.1, 16, .inr (.inl f))), (v1, .inr (2, [.ref v2, .ref v3, .int (nI q)])), (v2, .inl (G.2.2.1, 100, .inl g)), (v3, .inl (G.2.2.2, 100, .inl h))] H) (hn : n ≤ 16) (hq : q ≤ 100) (hdr : fn_P_isDrawable p1 p2 = 0) : Met l y_P_draw (Cond.code y_P_draw b_P_draw 3 (some .int) :: TG) ({ frames := 1, cells := 0, slots := 0, locals := 21 }) (PC G H [.ref a, .int p1, .int p2]) (QcRead (-12)) 0 0 (fun _ => False) := by
  refine Met.ofW (cc := b_P_draw) (maxL := 3) (ret := (some .int)) (by decide) rfl ?_
  intro p e s m args below meth c s₁ B hml hv
  obtain ⟨rfl, hH, hKN⟩ := hv
  subst hH
  have hx := B.exec
  have hb := B.bytes
  have hr := B.returns
  have hts := atoms_spec (ws := (Cond.code y_P_draw b_P_draw 3 (some .int) :: TG)) B.pre
  have ht : ∀ w ∈ TG, w.before _ s = true := fun w h => hts w (List.mem_cons_of_mem _ h)
  have hown : s.vm.findClass R_P = some m.cls := findClass_of_methodNamed B.named
  have hlocks := B.notSynchronized
  have hK := hKN.1
  have hl := lv_entry ([.ref a, .int p1, .int p2]) (n := 3) (Nat.le_of_ble_eq_true rfl)
  rw [lg_entry_eq]
  generalize (lg_sl ([.ref a, .int p1, .int p2]) ++ List.replicate (3 - (lg_sl ([.ref a, .int p1, .int p2])).length) Slot.unset).toArray = ls at hl ⊢
  have hl : lv_has ls 3 [(0, .ref a), (1, .int p1), (2, .int p2)] := hl
  refine lv_iload_n hx hb d_P_draw_0 rfl (lv_at hl 1 rfl) ?_
  refine lv_iload_n hx hb d_P_draw_1 rfl (lv_at hl 2 rfl) ?_
  refine pr_i (ru_S (As := [.int p1, .int p2]) (rest := []) ⟨hx, hb, hml, hown, ht⟩ hKN (c_P_isDrawable l G _ p1 p2) kc_P_37 ⟨rfl, rfl⟩ ⟨Nat.le_of_ble_eq_true rfl, Nat.le_of_ble_eq_true rfl⟩ rfl hl.1 rfl (Nat.le_of_ble_eq_true rfl) d_P_draw_2 ⟨Nat.le_of_ble_eq_true rfl, Nat.le_of_ble_eq_true rfl⟩) ?_
  refine lv_if_ne (tgt := 11) hx hb d_P_draw_5 (by decide) (fun c1 => ?_) (fun c1 => ?_)
  · exact absurd hdr c1
  · refine lv_bipush (v := (-12)) hx hb d_P_draw_8 (by decide) ?_
    exact W.iret (v := (-12)) hx hb hr (fun t h9 _ => ⟨congrArg (fun z => Outcome.returned (some (Value.int z))) rfl, h9⟩) (fun _ h => nomatch h) d_P_draw_10
set_option maxHeartbeats 4000000 in
set_option maxRecDepth 100000 in
theorem c_P_draw (l : Launch) (G : GT) (H : Heap) (a : Nat) (d1 : Nat) (d2 : Nat) (v1 : Nat) (v2 : Nat) (v3 : Nat) (o1 : Nat) (t1 : Nat) (sd : Int64) (k : Int32) (n : Nat) (fb : Int32) (f : Nat → Int64) (g : Nat → Int32) (h : Nat → Int32) (q : Nat) (ns : Int64) (lb : Int32) (p1 : Int32) (p2 : Nat) (hP : va_P G.1 classes [(a, .inr (0, [.ref d1, .ref v1, .ref o1, .ref t1, .long ns, .int lb])), (d1, .inr (1, [.ref d2, .long sd, .int k, .int (nI n), .int fb])), (d2, .inl (G.2.1, 16, .inr (.inl f))), (v1, .inr (2, [.ref v2, .ref v3, .int (nI q)])), (v2, .inl (G.2.2.1, 100, .inl g)), (v3, .inl (G.2.2.2, 100, .inl h))] H) (hD0 : va_D (fun _ => True) [(a, .inr (0, [.ref d1, .ref v1, .ref o1, .ref t1, .long ns, .int lb])), (d1, .inr (1, [.ref d2, .long sd, .int k, .int (nI n), .int fb])), (d2, .inl (G.2.1, 16, .inr (.inl f))), (v1, .inr (2, [.ref v2, .ref v3, .int (nI q)])), (v2, .inl (G.2.2.1, 100, .inl g)), (v3, .inl (G.2.2.2, 100, .inl h))]) (hn : n ≤ 16) (hq : q ≤ 100) (hdr : ¬ fn_P_isDrawable p1 (nI p2) = 0) (hp2 : p2 < 16) : Met l y_P_draw (Cond.code y_P_draw b_P_draw 3 (some .int) :: TG) ({ frames := 5, cells := 0, slots := 0, locals := 117 }) (PC G H [.ref a, .int p1, .int (nI p2)]) (QMi G (nI (p2 + 1)) [(a, .inr (0, [.ref d1, .ref v1, .ref o1, .ref t1, .long ns, .int (fn_D_allBits (p2 + 1))])), (d1, .inr (1, [.ref d2, .long ns, .int p1, .int (nI (p2 + 1)), .int (fbN p1 (p2 + 1) (fl ns p1 f (p2 + 1)))])), (d2, .inl (G.2.1, 16, .inr (.inl (fl ns p1 f (p2 + 1))))), (v1, .inr (2, [.ref v2, .ref v3, .int (nI 0)])), (v2, .inl (G.2.2.1, 100, .inl g)), (v3, .inl (G.2.2.2, 100, .inl h))] (va_A [(a, .inr (0, [.ref d1, .ref v1, .ref o1, .ref t1, .long ns, .int lb])), (d1, .inr (1, [.ref d2, .long sd, .int k, .int (nI n), .int fb])), (d2, .inl (G.2.1, 16, .inr (.inl f))), (v1, .inr (2, [.ref v2, .ref v3, .int (nI q)])), (v2, .inl (G.2.2.1, 100, .inl g)), (v3, .inl (G.2.2.2, 100, .inl h))] H.size)) 0 0 (va_A [(a, .inr (0, [.ref d1, .ref v1, .ref o1, .ref t1, .long ns, .int lb])), (d1, .inr (1, [.ref d2, .long sd, .int k, .int (nI n), .int fb])), (d2, .inl (G.2.1, 16, .inr (.inl f))), (v1, .inr (2, [.ref v2, .ref v3, .int (nI q)])), (v2, .inl (G.2.2.1, 100, .inl g)), (v3, .inl (G.2.2.2, 100, .inl h))] H.size) := by
  refine Met.ofW (cc := b_P_draw) (maxL := 3) (ret := (some .int)) (by decide) rfl ?_
  intro p e s m args below meth c s₁ B hml hv
  obtain ⟨rfl, hH, hKN⟩ := hv
  subst hH
  have hx := B.exec
  have hb := B.bytes
  have hr := B.returns
  have hts := atoms_spec (ws := (Cond.code y_P_draw b_P_draw 3 (some .int) :: TG)) B.pre
  have ht : ∀ w ∈ TG, w.before _ s = true := fun w h => hts w (List.mem_cons_of_mem _ h)
  have hown : s.vm.findClass R_P = some m.cls := findClass_of_methodNamed B.named
  have hlocks := B.notSynchronized
  have hK := hKN.1
  have hl := lv_entry ([.ref a, .int p1, .int (nI p2)]) (n := 3) (Nat.le_of_ble_eq_true rfl)
  rw [lg_entry_eq]
  generalize (lg_sl ([.ref a, .int p1, .int (nI p2)]) ++ List.replicate (3 - (lg_sl ([.ref a, .int p1, .int (nI p2)])).length) Slot.unset).toArray = ls at hl ⊢
  have hl : lv_has ls 3 [(0, .ref a), (1, .int p1), (2, .int (nI p2))] := hl
  have hD := hD0.self (sz := s.heap.size)
  generalize hAe : va_A [(a, .inr (0, [.ref d1, .ref v1, .ref o1, .ref t1, .long ns, .int lb])), (d1, .inr (1, [.ref d2, .long sd, .int k, .int (nI n), .int fb])), (d2, .inl (G.2.1, 16, .inr (.inl f))), (v1, .inr (2, [.ref v2, .ref v3, .int (nI q)])), (v2, .inl (G.2.2.1, 100, .inl g)), (v3, .inl (G.2.2.2, 100, .inl h))] s.heap.size = A at hD ⊢
  have hA : ∀ q : Nat, s.heap.size ≤ q → A q := fun q h => by rw [← hAe]; exact Or.inr h
  have hS : va_S A s.heap s.heap [] := va_S.rf
  refine lv_iload_n hx hb d_P_draw_0 rfl (lv_at hl 1 rfl) ?_
  refine lv_iload_n hx hb d_P_draw_1 rfl (lv_at hl 2 rfl) ?_
  refine pr_i (ru_S (As := [.int p1, .int (nI p2)]) (rest := []) ⟨hx, hb, hml, hown, ht⟩ hKN (c_P_isDrawable l G _ p1 (nI p2)) kc_P_37 ⟨rfl, rfl⟩ ⟨Nat.le_of_ble_eq_true rfl, Nat.le_of_ble_eq_true rfl⟩ rfl hl.1 rfl (Nat.le_of_ble_eq_true rfl) d_P_draw_2 ⟨Nat.le_of_ble_eq_true rfl, Nat.le_of_ble_eq_true rfl⟩) ?_
  refine lv_if_ne (tgt := 11) hx hb d_P_draw_5 (by decide) (fun c1 => ?_) (fun c1 => ?_)
  · refine lv_aload_n hx hb d_P_draw_11 rfl (lv_at hl 0 rfl) ?_
    refine va_get (D := G.1) (ci := 0) (v := .ref d1) (C := R_P) (T := F_P) (N := 6) hx hb ht in_P hown hK hP 0 rfl rfl 0 (by decide) (ht _ kf_P_20) (fun _ h9 => h9) rfl d_P_draw_12 ?_
    refine lv_aload_n hx hb d_P_draw_15 rfl (lv_at hl 0 rfl) ?_
    refine va_get (D := G.1) (ci := 0) (v := .long ns) (C := R_P) (T := F_P) (N := 6) hx hb ht in_P hown hK hP 0 rfl rfl 4 (by decide) (ht _ kf_P_7) (fun _ h9 => h9) rfl d_P_draw_16 ?_
    refine lv_iload_n hx hb d_P_draw_19 rfl (lv_at hl 1 rfl) ?_
    refine lv_iload_n hx hb d_P_draw_20 rfl (lv_at hl 2 rfl) ?_
    refine lv_iconst (v := 1) hx hb d_P_draw_21 (by decide) ?_
    refine lv_iadd hx hb d_P_draw_22 ?_
    rw [nI_1 p2]
    refine mu_v (wr := [(a, .inr (0, [.ref d1, .ref v1, .ref o1, .ref t1, .long ns, .int lb])), (v1, .inr (2, [.ref v2, .ref v3, .int (nI q)])), (v2, .inl (G.2.2.1, 100, .inl g)), (v3, .inl (G.2.2.2, 100, .inl h))]) (wn := [(a, .inr (0, [.ref d1, .ref v1, .ref o1, .ref t1, .long ns, .int lb])), (d1, .inr (1, [.ref d2, .long ns, .int p1, .int (nI (p2 + 1)), .int (fbN p1 (p2 + 1) (fl ns p1 f (p2 + 1)))])), (d2, .inl (G.2.1, 16, .inr (.inl (fl ns p1 f (p2 + 1))))), (v1, .inr (2, [.ref v2, .ref v3, .int (nI q)])), (v2, .inl (G.2.2.1, 100, .inl g)), (v3, .inl (G.2.2.2, 100, .inl h))]) (ru_V (b := d1) (As := [.long ns, .int p1, .int (nI (p2 + 1))]) (rest := []) ⟨hx, hb, hml, hown, ht⟩ hKN (c_D_fill l G _ d1 d2 sd k n fb f ns p1 (p2 + 1) (hP.sub [1, 2] rfl) ((hD.sub (ws' := [(d1, .inr (1, [.ref d2, .long sd, .int k, .int (nI n), .int fb])), (d2, .inl (G.2.1, 16, .inr (.inl f)))]) [1, 2] (by decide) rfl).weaken (fun _ _ _ _ => trivial)) hn (show p2 + 1 ≤ 16 by omega)) kc_P_41 ⟨rfl, rfl⟩ ⟨Nat.le_of_ble_eq_true rfl, Nat.le_of_ble_eq_true rfl⟩ (va_recv hK hP (ci := 1) (q0 := 1) rfl rfl) rfl hl.1 rfl (Nat.le_of_ble_eq_true rfl) d_P_draw_23 ⟨Nat.le_of_ble_eq_true rfl, Nat.le_of_ble_eq_true rfl⟩) hP hD hS hA [1, 2] [0, 3, 4, 5] [0, 4, 5, 1, 2, 3] rfl rfl ⟨by decide, by decide, by decide⟩ (by decide) rfl rfl (fun H locs hP hD hS => ?_)
    have hn2 : p2 + 1 ≤ 16 := by omega
    refine lv_aload_n hx hb d_P_draw_26 rfl (lv_at hl 0 rfl) ?_
    refine lv_aload_n hx hb d_P_draw_27 rfl (lv_at hl 0 rfl) ?_
    refine va_get (D := G.1) (ci := 0) (v := .ref d1) (C := R_P) (T := F_P) (N := 6) hx hb ht in_P hown hK hP 0 rfl rfl 0 (by decide) (ht _ kf_P_20) (fun _ h9 => h9) rfl d_P_draw_28 ?_
    refine pr_i (ru_V (b := d1) (As := []) (rest := [.ref a]) ⟨hx, hb, hml, hown, ht⟩ hKN (c_D_allBits l G _ d1 d2 ns p1 (p2 + 1) (fbN p1 (p2 + 1) (fl ns p1 f (p2 + 1))) (fl ns p1 f (p2 + 1)) (hP.sub [1, 2] rfl) hn2) kc_P_45 ⟨rfl, rfl⟩ ⟨Nat.le_of_ble_eq_true rfl, Nat.le_of_ble_eq_true rfl⟩ (va_recv hK hP (ci := 1) (q0 := 1) rfl rfl) rfl hl.1 rfl (Nat.le_of_ble_eq_true rfl) d_P_draw_31 ⟨Nat.le_of_ble_eq_true rfl, Nat.le_of_ble_eq_true rfl⟩) ?_
    refine va_put (D := G.1) (ci := 0) (v := .int (fn_D_allBits (p2 + 1))) (ty := .int) (C := R_P) (T := F_P) (N := 6) hx hb ht in_P t_P tk_P n_P hown hK hP hD hS 0 rfl rfl 5 (by decide) (ht _ kf_P_13) (fun _ h9 => h9) rfl (by decide +kernel) rfl rfl (Nat.le_of_ble_eq_true rfl) d_P_draw_34 (fun H locs hP hD hS => ?_)
    have hP : va_P G.1 classes [(a, .inr (0, [.ref d1, .ref v1, .ref o1, .ref t1, .long ns, .int (fn_D_allBits (p2 + 1))])), (d1, .inr (1, [.ref d2, .long ns, .int p1, .int (nI (p2 + 1)), .int (fbN p1 (p2 + 1) (fl ns p1 f (p2 + 1)))])), (d2, .inl (G.2.1, 16, .inr (.inl (fl ns p1 f (p2 + 1))))), (v1, .inr (2, [.ref v2, .ref v3, .int (nI q)])), (v2, .inl (G.2.2.1, 100, .inl g)), (v3, .inl (G.2.2.2, 100, .inl h))] H := hP
    have hD : va_D A [(a, .inr (0, [.ref d1, .ref v1, .ref o1, .ref t1, .long ns, .int (fn_D_allBits (p2 + 1))])), (d1, .inr (1, [.ref d2, .long ns, .int p1, .int (nI (p2 + 1)), .int (fbN p1 (p2 + 1) (fl ns p1 f (p2 + 1)))])), (d2, .inl (G.2.1, 16, .inr (.inl (fl ns p1 f (p2 + 1))))), (v1, .inr (2, [.ref v2, .ref v3, .int (nI q)])), (v2, .inl (G.2.2.1, 100, .inl g)), (v3, .inl (G.2.2.2, 100, .inl h))] := hD
    refine lv_aload_n hx hb d_P_draw_37 rfl (lv_at hl 0 rfl) ?_
    refine va_get (D := G.1) (ci := 0) (v := .ref v1) (C := R_P) (T := F_P) (N := 6) hx hb ht in_P hown hK hP 0 rfl rfl 1 (by decide) (ht _ kf_P_33) (fun _ h9 => h9) rfl d_P_draw_38 ?_
    refine mu_v (wr := [(a, .inr (0, [.ref d1, .ref v1, .ref o1, .ref t1, .long ns, .int (fn_D_allBits (p2 + 1))])), (d1, .inr (1, [.ref d2, .long ns, .int p1, .int (nI (p2 + 1)), .int (fbN p1 (p2 + 1) (fl ns p1 f (p2 + 1)))])), (d2, .inl (G.2.1, 16, .inr (.inl (fl ns p1 f (p2 + 1)))))]) (wn := [(a, .inr (0, [.ref d1, .ref v1, .ref o1, .ref t1, .long ns, .int (fn_D_allBits (p2 + 1))])), (d1, .inr (1, [.ref d2, .long ns, .int p1, .int (nI (p2 + 1)), .int (fbN p1 (p2 + 1) (fl ns p1 f (p2 + 1)))])), (d2, .inl (G.2.1, 16, .inr (.inl (fl ns p1 f (p2 + 1))))), (v1, .inr (2, [.ref v2, .ref v3, .int (nI 0)])), (v2, .inl (G.2.2.1, 100, .inl g)), (v3, .inl (G.2.2.2, 100, .inl h))]) (ru_V (b := v1) (As := []) (rest := []) ⟨hx, hb, hml, hown, ht⟩ hKN (c_V_forget l G _ v1 v2 v3 g h q (hP.sub [3, 4, 5] rfl) ((hD.sub (ws' := [(v1, .inr (2, [.ref v2, .ref v3, .int (nI q)])), (v2, .inl (G.2.2.1, 100, .inl g)), (v3, .inl (G.2.2.2, 100, .inl h))]) [3, 4, 5] (by decide) rfl).weaken (fun _ _ _ _ => trivial)) hq) kc_P_49 ⟨rfl, rfl⟩ ⟨Nat.le_of_ble_eq_true rfl, Nat.le_of_ble_eq_true rfl⟩ (va_recv hK hP (ci := 2) (q0 := 3) rfl rfl) rfl hl.1 rfl (Nat.le_of_ble_eq_true rfl) d_P_draw_41 ⟨Nat.le_of_ble_eq_true rfl, Nat.le_of_ble_eq_true rfl⟩) hP hD hS hA [3, 4, 5] [0, 1, 2] [0, 1, 2, 3, 4, 5] rfl rfl ⟨by decide, by decide, by decide⟩ (by decide) rfl rfl (fun H locs hP hD hS => ?_)
    refine lv_aload_n hx hb d_P_draw_44 rfl (lv_at hl 0 rfl) ?_
    refine va_get (D := G.1) (ci := 0) (v := .ref d1) (C := R_P) (T := F_P) (N := 6) hx hb ht in_P hown hK hP 0 rfl rfl 0 (by decide) (ht _ kf_P_20) (fun _ h9 => h9) rfl d_P_draw_45 ?_
    refine va_getN (D := G.1) (ci := 1) (v := .int (nI (p2 + 1))) (C := R_D) (T := F_D) (N := 5) hx hb ht in_D hown hK hP 1 rfl rfl 3 (by decide) (va_Nw.use rfl (hKN.2 _ kn_P_52 rfl)) (fun _ h9 => h9) rfl d_P_draw_48 ?_
    exact W.iret (v := nI (p2 + 1)) hx hb hr (fun t h9 _ => ⟨⟨nI (p2 + 1), (), rfl, rfl, by show va_P _ _ _ t.heap; rw [h9]; exact hP⟩, hS.F h9⟩) hS.2.2 d_P_draw_51
  · exact absurd c1 hdr
def vdc (n : Nat) (x : Int32) : Int32 := if fn_D_isEmpty n = 0 then (if x = 0 then -12 else if (x &&& (fn_D_allBits n ^^^ (-1))) = 0 then 0 else -12) else -13
set_option maxHeartbeats 4000000 in
set_option maxRecDepth 100000 in
theorem c_P_verdict_no (l : Launch) (G : GT) (H : Heap) (a : Nat) (d1 : Nat) (d2 : Nat) (v1 : Nat) (v2 : Nat) (v3 : Nat) (o1 : Nat) (t1 : Nat) (sd : Int64) (k : Int32) (n : Nat) (fb : Int32) (f : Nat → Int64) (g : Nat → Int32) (h : Nat → Int32) (q : Nat) (ns : Int64) (lb : Int32) (p1 : Int32) (p2 : Int32) (hP : va_P G.1 classes [(a, .inr (0, [.ref d1, .ref v1, .ref o1, .ref t1, .long ns, .int lb])), (d1, .inr (1, [.ref d2, .long sd, .int k, .int (nI n), .int fb])), (d2, .inl (G.2.1, 16, .inr (.inl f))), (v1, .inr (2, [.ref v2, .ref v3, .int (nI q)])), (v2, .inl (G.2.2.1, 100, .inl g)), (v3, .inl (G.2.2.2, 100, .inl h))] H) (hn : n ≤ 16) (hq : q ≤ 100) (hvd : ¬ vdc n p1 = 0) : Met l y_P_verdict (Cond.code y_P_verdict b_P_verdict 3 (some .int) :: TG) ({ frames := 1, cells := 0, slots := 0, locals := 20 }) (PC G H [.ref a, .int p1, .int p2]) (QcRead (vdc n p1)) 0 0 (fun _ => False) := by
  refine Met.ofW (cc := b_P_verdict) (maxL := 3) (ret := (some .int)) (by decide) rfl ?_
  intro p e s m args below meth c s₁ B hml hv
  obtain ⟨rfl, hH, hKN⟩ := hv
  subst hH
  have hx := B.exec
  have hb := B.bytes
  have hr := B.returns
  have hts := atoms_spec (ws := (Cond.code y_P_verdict b_P_verdict 3 (some .int) :: TG)) B.pre
  have ht : ∀ w ∈ TG, w.before _ s = true := fun w h => hts w (List.mem_cons_of_mem _ h)
  have hown : s.vm.findClass R_P = some m.cls := findClass_of_methodNamed B.named
  have hlocks := B.notSynchronized
  have hK := hKN.1
  have hl := lv_entry ([.ref a, .int p1, .int p2]) (n := 3) (Nat.le_of_ble_eq_true rfl)
  rw [lg_entry_eq]
  generalize (lg_sl ([.ref a, .int p1, .int p2]) ++ List.replicate (3 - (lg_sl ([.ref a, .int p1, .int p2])).length) Slot.unset).toArray = ls at hl ⊢
  have hl : lv_has ls 3 [(0, .ref a), (1, .int p1), (2, .int p2)] := hl
  refine lv_aload_n hx hb d_P_verdict_0 rfl (lv_at hl 0 rfl) ?_
  refine va_get (D := G.1) (ci := 0) (v := .ref d1) (C := R_P) (T := F_P) (N := 6) hx hb ht in_P hown hK hP 0 rfl rfl 0 (by decide) (ht _ kf_P_20) (fun _ h9 => h9) rfl d_P_verdict_1 ?_
  refine pr_i (ru_V (b := d1) (As := []) (rest := []) ⟨hx, hb, hml, hown, ht⟩ hKN (c_D_isEmpty l G _ d1 d2 sd k n fb f (hP.sub [1, 2] rfl) hn) kc_P_80 ⟨rfl, rfl⟩ ⟨Nat.le_of_ble_eq_true rfl, Nat.le_of_ble_eq_true rfl⟩ (va_recv hK hP (ci := 1) (q0 := 1) rfl rfl) rfl hl.1 rfl (Nat.le_of_ble_eq_true rfl) d_P_verdict_4 ⟨Nat.le_of_ble_eq_true rfl, Nat.le_of_ble_eq_true rfl⟩) ?_
  refine lv_if_eq (tgt := 13) hx hb d_P_verdict_7 (by decide) (fun c1 => ?_) (fun c1 => ?_)
  · refine lv_iload_n hx hb d_P_verdict_13 rfl (lv_at hl 1 rfl) ?_
    refine lv_if_eq (tgt := 31) hx hb d_P_verdict_14 (by decide) (fun c2 => ?_) (fun c2 => ?_)
    · refine lv_bipush (v := (-12)) hx hb d_P_verdict_31 (by decide) ?_
      exact W.iret (v := (-12)) hx hb hr (fun t h9 _ => ⟨congrArg (fun z => Outcome.returned (some (Value.int z))) (by unfold vdc; rw [if_pos c1, if_pos c2]), h9⟩) (fun _ h => nomatch h) d_P_verdict_33
    · refine lv_iload_n hx hb d_P_verdict_17 rfl (lv_at hl 1 rfl) ?_
      refine lv_aload_n hx hb d_P_verdict_18 rfl (lv_at hl 0 rfl) ?_
      refine va_get (D := G.1) (ci := 0) (v := .ref d1) (C := R_P) (T := F_P) (N := 6) hx hb ht in_P hown hK hP 0 rfl rfl 0 (by decide) (ht _ kf_P_20) (fun _ h9 => h9) rfl d_P_verdict_19 ?_
      refine pr_i (ru_V (b := d1) (As := []) (rest := [.int p1]) ⟨hx, hb, hml, hown, ht⟩ hKN (c_D_allBits l G _ d1 d2 sd k n fb f (hP.sub [1, 2] rfl) hn) kc_P_45 ⟨rfl, rfl⟩ ⟨Nat.le_of_ble_eq_true rfl, Nat.le_of_ble_eq_true rfl⟩ (va_recv hK hP (ci := 1) (q0 := 1) rfl rfl) rfl hl.1 rfl (Nat.le_of_ble_eq_true rfl) d_P_verdict_22 ⟨Nat.le_of_ble_eq_true rfl, Nat.le_of_ble_eq_true rfl⟩) ?_
      refine lv_iconst (v := (-1)) hx hb d_P_verdict_25 (by decide) ?_
      refine lv_ixor hx hb d_P_verdict_26 ?_
      refine lv_iand hx hb d_P_verdict_27 ?_
      refine lv_if_eq (tgt := 34) hx hb d_P_verdict_28 (by decide) (fun c3 => ?_) (fun c3 => ?_)
      · exact absurd (by unfold vdc; rw [if_pos c1, if_neg c2, if_pos c3]) hvd
      · refine lv_bipush (v := (-12)) hx hb d_P_verdict_31 (by decide) ?_
        exact W.iret (v := (-12)) hx hb hr (fun t h9 _ => ⟨congrArg (fun z => Outcome.returned (some (Value.int z))) (by unfold vdc; rw [if_pos c1, if_neg c2, if_neg c3]), h9⟩) (fun _ h => nomatch h) d_P_verdict_33
  · refine lv_bipush (v := (-13)) hx hb d_P_verdict_10 (by decide) ?_
    exact W.iret (v := (-13)) hx hb hr (fun t h9 _ => ⟨congrArg (fun z => Outcome.returned (some (Value.int z))) (by unfold vdc; rw [if_neg c1]), h9⟩) (fun _ h => nomatch h) d_P_verdict_12
def vdr (g : Nat → Int32) (q : Nat) (x : Int32) : Int32 := if tlr g q x = 0 then -14 else nI (tln g q x)
set_option maxHeartbeats 4000000 in
set_option maxRecDepth 100000 in
theorem c_P_verdict (l : Launch) (G : GT) (H : Heap) (a : Nat) (d1 : Nat) (d2 : Nat) (v1 : Nat) (v2 : Nat) (v3 : Nat) (o1 : Nat) (t1 : Nat) (sd : Int64) (k : Int32) (n : Nat) (fb : Int32) (f : Nat → Int64) (g : Nat → Int32) (h : Nat → Int32) (q : Nat) (ns : Int64) (lb : Int32) (p1 : Int32) (p2 : Int32) (hP : va_P G.1 classes [(a, .inr (0, [.ref d1, .ref v1, .ref o1, .ref t1, .long ns, .int lb])), (d1, .inr (1, [.ref d2, .long sd, .int k, .int (nI n), .int fb])), (d2, .inl (G.2.1, 16, .inr (.inl f))), (v1, .inr (2, [.ref v2, .ref v3, .int (nI q)])), (v2, .inl (G.2.2.1, 100, .inl g)), (v3, .inl (G.2.2.2, 100, .inl h))] H) (hD0 : va_D (fun _ => True) [(a, .inr (0, [.ref d1, .ref v1, .ref o1, .ref t1, .long ns, .int lb])), (d1, .inr (1, [.ref d2, .long sd, .int k, .int (nI n), .int fb])), (d2, .inl (G.2.1, 16, .inr (.inl f))), (v1, .inr (2, [.ref v2, .ref v3, .int (nI q)])), (v2, .inl (G.2.2.1, 100, .inl g)), (v3, .inl (G.2.2.2, 100, .inl h))]) (hn : n ≤ 16) (hq : q ≤ 100) (hvd : vdc n p1 = 0) : Met l y_P_verdict (Cond.code y_P_verdict b_P_verdict 3 (some .int) :: TG) ({ frames := 2, cells := 0, slots := 0, locals := 45 }) (PC G H [.ref a, .int p1, .int p2]) (QMi G (vdr g q p1) [(a, .inr (0, [.ref d1, .ref v1, .ref o1, .ref t1, .long ns, .int lb])), (d1, .inr (1, [.ref d2, .long sd, .int k, .int (nI n), .int fb])), (d2, .inl (G.2.1, 16, .inr (.inl f))), (v1, .inr (2, [.ref v2, .ref v3, .int (nI (tln g q p1))])), (v2, .inl (G.2.2.1, 100, .inl (tlg g q p1))), (v3, .inl (G.2.2.2, 100, .inl (tlh g h q p1 p2)))] (va_A [(a, .inr (0, [.ref d1, .ref v1, .ref o1, .ref t1, .long ns, .int lb])), (d1, .inr (1, [.ref d2, .long sd, .int k, .int (nI n), .int fb])), (d2, .inl (G.2.1, 16, .inr (.inl f))), (v1, .inr (2, [.ref v2, .ref v3, .int (nI q)])), (v2, .inl (G.2.2.1, 100, .inl g)), (v3, .inl (G.2.2.2, 100, .inl h))] H.size)) 0 0 (va_A [(a, .inr (0, [.ref d1, .ref v1, .ref o1, .ref t1, .long ns, .int lb])), (d1, .inr (1, [.ref d2, .long sd, .int k, .int (nI n), .int fb])), (d2, .inl (G.2.1, 16, .inr (.inl f))), (v1, .inr (2, [.ref v2, .ref v3, .int (nI q)])), (v2, .inl (G.2.2.1, 100, .inl g)), (v3, .inl (G.2.2.2, 100, .inl h))] H.size) := by
  refine Met.ofW (cc := b_P_verdict) (maxL := 3) (ret := (some .int)) (by decide) rfl ?_
  intro p e s m args below meth c s₁ B hml hv
  obtain ⟨rfl, hH, hKN⟩ := hv
  subst hH
  have hx := B.exec
  have hb := B.bytes
  have hr := B.returns
  have hts := atoms_spec (ws := (Cond.code y_P_verdict b_P_verdict 3 (some .int) :: TG)) B.pre
  have ht : ∀ w ∈ TG, w.before _ s = true := fun w h => hts w (List.mem_cons_of_mem _ h)
  have hown : s.vm.findClass R_P = some m.cls := findClass_of_methodNamed B.named
  have hlocks := B.notSynchronized
  have hK := hKN.1
  have hl := lv_entry ([.ref a, .int p1, .int p2]) (n := 3) (Nat.le_of_ble_eq_true rfl)
  rw [lg_entry_eq]
  generalize (lg_sl ([.ref a, .int p1, .int p2]) ++ List.replicate (3 - (lg_sl ([.ref a, .int p1, .int p2])).length) Slot.unset).toArray = ls at hl ⊢
  have hl : lv_has ls 3 [(0, .ref a), (1, .int p1), (2, .int p2)] := hl
  have hD := hD0.self (sz := s.heap.size)
  generalize hAe : va_A [(a, .inr (0, [.ref d1, .ref v1, .ref o1, .ref t1, .long ns, .int lb])), (d1, .inr (1, [.ref d2, .long sd, .int k, .int (nI n), .int fb])), (d2, .inl (G.2.1, 16, .inr (.inl f))), (v1, .inr (2, [.ref v2, .ref v3, .int (nI q)])), (v2, .inl (G.2.2.1, 100, .inl g)), (v3, .inl (G.2.2.2, 100, .inl h))] s.heap.size = A at hD ⊢
  have hA : ∀ q : Nat, s.heap.size ≤ q → A q := fun q h => by rw [← hAe]; exact Or.inr h
  have hS : va_S A s.heap s.heap [] := va_S.rf
  refine lv_aload_n hx hb d_P_verdict_0 rfl (lv_at hl 0 rfl) ?_
  refine va_get (D := G.1) (ci := 0) (v := .ref d1) (C := R_P) (T := F_P) (N := 6) hx hb ht in_P hown hK hP 0 rfl rfl 0 (by decide) (ht _ kf_P_20) (fun _ h9 => h9) rfl d_P_verdict_1 ?_
  refine pr_i (ru_V (b := d1) (As := []) (rest := []) ⟨hx, hb, hml, hown, ht⟩ hKN (c_D_isEmpty l G _ d1 d2 sd k n fb f (hP.sub [1, 2] rfl) hn) kc_P_80 ⟨rfl, rfl⟩ ⟨Nat.le_of_ble_eq_true rfl, Nat.le_of_ble_eq_true rfl⟩ (va_recv hK hP (ci := 1) (q0 := 1) rfl rfl) rfl hl.1 rfl (Nat.le_of_ble_eq_true rfl) d_P_verdict_4 ⟨Nat.le_of_ble_eq_true rfl, Nat.le_of_ble_eq_true rfl⟩) ?_
  refine lv_if_eq (tgt := 13) hx hb d_P_verdict_7 (by decide) (fun c1 => ?_) (fun c1 => ?_)
  · refine lv_iload_n hx hb d_P_verdict_13 rfl (lv_at hl 1 rfl) ?_
    refine lv_if_eq (tgt := 31) hx hb d_P_verdict_14 (by decide) (fun c2 => ?_) (fun c2 => ?_)
    · exact absurd (hvd.symm.trans (by unfold vdc; rw [if_pos c1, if_pos c2])) (by decide)
    · refine lv_iload_n hx hb d_P_verdict_17 rfl (lv_at hl 1 rfl) ?_
      refine lv_aload_n hx hb d_P_verdict_18 rfl (lv_at hl 0 rfl) ?_
      refine va_get (D := G.1) (ci := 0) (v := .ref d1) (C := R_P) (T := F_P) (N := 6) hx hb ht in_P hown hK hP 0 rfl rfl 0 (by decide) (ht _ kf_P_20) (fun _ h9 => h9) rfl d_P_verdict_19 ?_
      refine pr_i (ru_V (b := d1) (As := []) (rest := [.int p1]) ⟨hx, hb, hml, hown, ht⟩ hKN (c_D_allBits l G _ d1 d2 sd k n fb f (hP.sub [1, 2] rfl) hn) kc_P_45 ⟨rfl, rfl⟩ ⟨Nat.le_of_ble_eq_true rfl, Nat.le_of_ble_eq_true rfl⟩ (va_recv hK hP (ci := 1) (q0 := 1) rfl rfl) rfl hl.1 rfl (Nat.le_of_ble_eq_true rfl) d_P_verdict_22 ⟨Nat.le_of_ble_eq_true rfl, Nat.le_of_ble_eq_true rfl⟩) ?_
      refine lv_iconst (v := (-1)) hx hb d_P_verdict_25 (by decide) ?_
      refine lv_ixor hx hb d_P_verdict_26 ?_
      refine lv_iand hx hb d_P_verdict_27 ?_
      refine lv_if_eq (tgt := 34) hx hb d_P_verdict_28 (by decide) (fun c3 => ?_) (fun c3 => ?_)
      · refine lv_aload_n hx hb d_P_verdict_34 rfl (lv_at hl 0 rfl) ?_
        refine va_get (D := G.1) (ci := 0) (v := .ref v1) (C := R_P) (T := F_P) (N := 6) hx hb ht in_P hown hK hP 0 rfl rfl 1 (by decide) (ht _ kf_P_33) (fun _ h9 => h9) rfl d_P_verdict_35 ?_
        refine lv_iload_n hx hb d_P_verdict_38 rfl (lv_at hl 1 rfl) ?_
        refine lv_iload_n hx hb d_P_verdict_39 rfl (lv_at hl 2 rfl) ?_
        refine mu_i (wr := [(a, .inr (0, [.ref d1, .ref v1, .ref o1, .ref t1, .long ns, .int lb])), (d1, .inr (1, [.ref d2, .long sd, .int k, .int (nI n), .int fb])), (d2, .inl (G.2.1, 16, .inr (.inl f)))]) (wn := [(a, .inr (0, [.ref d1, .ref v1, .ref o1, .ref t1, .long ns, .int lb])), (d1, .inr (1, [.ref d2, .long sd, .int k, .int (nI n), .int fb])), (d2, .inl (G.2.1, 16, .inr (.inl f))), (v1, .inr (2, [.ref v2, .ref v3, .int (nI (tln g q p1))])), (v2, .inl (G.2.2.1, 100, .inl (tlg g q p1))), (v3, .inl (G.2.2.2, 100, .inl (tlh g h q p1 p2)))]) (ru_V (b := v1) (As := [.int p1, .int p2]) (rest := []) ⟨hx, hb, hml, hown, ht⟩ hKN (c_V_tell l G _ v1 v2 v3 g h q p1 p2 (hP.sub [3, 4, 5] rfl) ((hD.sub (ws' := [(v1, .inr (2, [.ref v2, .ref v3, .int (nI q)])), (v2, .inl (G.2.2.1, 100, .inl g)), (v3, .inl (G.2.2.2, 100, .inl h))]) [3, 4, 5] (by decide) rfl).weaken (fun _ _ _ _ => trivial)) hq) kc_P_84 ⟨rfl, rfl⟩ ⟨Nat.le_of_ble_eq_true rfl, Nat.le_of_ble_eq_true rfl⟩ (va_recv hK hP (ci := 2) (q0 := 3) rfl rfl) rfl hl.1 rfl (Nat.le_of_ble_eq_true rfl) d_P_verdict_40 ⟨Nat.le_of_ble_eq_true rfl, Nat.le_of_ble_eq_true rfl⟩) hP hD hS hA [3, 4, 5] [0, 1, 2] [0, 1, 2, 3, 4, 5] rfl rfl ⟨by decide, by decide, by decide⟩ (by decide) rfl rfl (fun H locs hP hD hS => ?_)
        refine lv_if_eq (tgt := 56) hx hb d_P_verdict_43 (by decide) (fun c4 => ?_) (fun c4 => ?_)
        · refine lv_bipush (v := (-14)) hx hb d_P_verdict_56 (by decide) ?_
          exact W.iret (v := (-14)) hx hb hr (fun t h9 _ => ⟨⟨(-14), (), rfl, (by unfold vdr; rw [if_pos c4]), by show va_P _ _ _ t.heap; rw [h9]; exact hP⟩, hS.F h9⟩) hS.2.2 d_P_verdict_58
        · refine lv_aload_n hx hb d_P_verdict_46 rfl (lv_at hl 0 rfl) ?_
          refine va_get (D := G.1) (ci := 0) (v := .ref v1) (C := R_P) (T := F_P) (N := 6) hx hb ht in_P hown hK hP 0 rfl rfl 1 (by decide) (ht _ kf_P_33) (fun _ h9 => h9) rfl d_P_verdict_47 ?_
          refine va_getN (D := G.1) (ci := 2) (v := .int (nI (tln g q p1))) (C := R_V) (T := F_V) (N := 3) hx hb ht in_V hown hK hP 3 rfl rfl 2 (by decide) (va_Nw.use rfl (hKN.2 _ kn_P_88 rfl)) (fun _ h9 => h9) rfl d_P_verdict_50 ?_
          refine lv_goto (tgt := 58) hx hb d_P_verdict_53 (by decide) ?_
          exact W.iret (v := nI (tln g q p1)) hx hb hr (fun t h9 _ => ⟨⟨nI (tln g q p1), (), rfl, (by unfold vdr; rw [if_neg c4]), by show va_P _ _ _ t.heap; rw [h9]; exact hP⟩, hS.F h9⟩) hS.2.2 d_P_verdict_58
      · exact absurd (hvd.symm.trans (by unfold vdc; rw [if_pos c1, if_neg c2, if_neg c3])) (by decide)
  · exact absurd (hvd.symm.trans (by unfold vdc; rw [if_neg c1])) (by decide)
end
section
def hi (n : Nat) (f : Nat → Int64) (n2 : Nat) (f2 : Nat → Int64) (i : Nat) : Nat → Nat → Bool
  | 0, _ => true
  | kk + 1, w => if fn_D_fact n f (nI i) (nI w) = fn_D_fact n2 f2 (nI i) (nI w) then hi n f n2 f2 i kk (w + 1) else false
def ho (n : Nat) (f : Nat → Int64) (n2 : Nat) (f2 : Nat → Int64) : Nat → Nat → Bool
  | 0, _ => true
  | kk + 1, i => if hi n f n2 f2 i 4 1 = true then ho n f n2 f2 kk (i + 1) else false
def hsp (n : Nat) (fb : Int32) (f : Nat → Int64) (n2 : Nat) (fb2 : Int32) (f2 : Nat → Int64) : Int32 := if ho n f n2 f2 n 0 = true then (if fb = fb2 then 1 else 0) else 0
set_option maxHeartbeats 4000000 in
set_option maxRecDepth 100000 in
theorem c_P_haveSameParts (l : Launch) (G : GT) (H : Heap) (a : Nat) (b : Nat) (sd : Int64) (k : Int32) (n : Nat) (fb : Int32) (f : Nat → Int64) (a2 : Nat) (b2 : Nat) (sd2 : Int64) (k2 : Int32) (n2 : Nat) (fb2 : Int32) (f2 : Nat → Int64) (hP : va_P G.1 classes [(a, .inr (1, [.ref b, .long sd, .int k, .int (nI n), .int fb])), (b, .inl (G.2.1, 16, .inr (.inl f))), (a2, .inr (1, [.ref b2, .long sd2, .int k2, .int (nI n2), .int fb2])), (b2, .inl (G.2.1, 16, .inr (.inl f2)))] H) (hn : n ≤ 16) (hn2 : n2 ≤ 16) : Met l y_P_haveSameParts (Cond.code y_P_haveSameParts b_P_haveSameParts 4 (some .boolean) :: TG) ({ frames := 2, cells := 0, slots := 0, locals := 45 }) (PC G H [.ref a, .ref a2]) (QcRead (hsp n fb f n2 fb2 f2)) 0 0 (fun _ => False) := by
  refine Met.ofW (cc := b_P_haveSameParts) (maxL := 4) (ret := (some .boolean)) (by decide) rfl ?_
  intro p e s m args below meth c s₁ B hml hv
  obtain ⟨rfl, hH, hKN⟩ := hv
  subst hH
  have hx := B.exec
  have hb := B.bytes
  have hr := B.returns
  have hts := atoms_spec (ws := (Cond.code y_P_haveSameParts b_P_haveSameParts 4 (some .boolean) :: TG)) B.pre
  have ht : ∀ w ∈ TG, w.before _ s = true := fun w h => hts w (List.mem_cons_of_mem _ h)
  have hown : s.vm.findClass R_P = some m.cls := findClass_of_methodNamed B.named
  have hlocks := B.notSynchronized
  have hK := hKN.1
  have hl := lv_entry ([.ref a, .ref a2]) (n := 4) (Nat.le_of_ble_eq_true rfl)
  rw [lg_entry_eq]
  generalize (lg_sl ([.ref a, .ref a2]) ++ List.replicate (4 - (lg_sl ([.ref a, .ref a2])).length) Slot.unset).toArray = ls at hl ⊢
  have hl : lv_has ls 4 [(0, .ref a), (1, .ref a2)] := hl
  refine lv_iconst (v := 0) hx hb d_P_haveSameParts_0 (by decide) ?_
  refine lv_istore_n (lv' := [(2, .int 0), (0, .ref a), (1, .ref a2)]) hx hb d_P_haveSameParts_1 rfl hl (by decide) rfl (fun ls hl => ?_)
  have loop : ∀ (kk j : Nat) (ls : Array Slot), j + kk = n → ho n f n2 f2 kk j = ho n f n2 f2 n 0 → lv_has ls 4 [(0, .ref a), (1, .ref a2), (2, .int (nI j))] → W p l e (headSpec (Cond.code y_P_haveSameParts b_P_haveSameParts 4 (some .boolean) :: TG) ({ frames := 2, cells := 0, slots := 0, locals := 45 })).room s m ([.ref a, .ref a2] : List Value).toArray below meth c s.heap [] 0 0 (MQ below (QcRead (hsp n fb f n2 fb2 f2)) ([.ref a, .ref a2] : List Value).toArray s 0 0 (fun _ => False)) (F0 m 2 ls []) := by
    intro kk
    induction kk with
    | zero =>
      intro j  ls hj hv hl
      refine lv_iload_n hx hb d_P_haveSameParts_2 rfl (lv_at hl 2 rfl) ?_
      refine lv_aload_n hx hb d_P_haveSameParts_3 rfl (lv_at hl 0 rfl) ?_
      refine va_getN (D := G.1) (ci := 1) (v := .int (nI n)) (C := R_D) (T := F_D) (N := 5) hx hb ht in_D hown hK hP 0 rfl rfl 3 (by decide) (va_Nw.use rfl (hKN.2 _ kn_P_52 rfl)) (fun _ h9 => h9) rfl d_P_haveSameParts_4 ?_
      refine lv_icmp_ge (tgt := 46) hx hb d_P_haveSameParts_7 (by decide) (fun c1 => ?_) (fun c1 => ?_)
      · refine lv_aload_n hx hb d_P_haveSameParts_46 rfl (lv_at hl 0 rfl) ?_
        refine va_getN (D := G.1) (ci := 1) (v := .int fb) (C := R_D) (T := F_D) (N := 5) hx hb ht in_D hown hK hP 0 rfl rfl 4 (by decide) (va_Nw.use rfl (hKN.2 _ kn_P_131 rfl)) (fun _ h9 => h9) rfl d_P_haveSameParts_47 ?_
        refine lv_aload_n hx hb d_P_haveSameParts_50 rfl (lv_at hl 1 rfl) ?_
        refine va_getN (D := G.1) (ci := 1) (v := .int fb2) (C := R_D) (T := F_D) (N := 5) hx hb ht in_D hown hK hP 2 rfl rfl 4 (by decide) (va_Nw.use rfl (hKN.2 _ kn_P_131 rfl)) (fun _ h9 => h9) rfl d_P_haveSameParts_51 ?_
        refine lv_icmp_ne (tgt := 61) hx hb d_P_haveSameParts_54 (by decide) (fun c2 => ?_) (fun c2 => ?_)
        · refine lv_iconst (v := 0) hx hb d_P_haveSameParts_61 (by decide) ?_
          exact W.zret (v := 0) hx hb hr rfl (fun t h9 _ => ⟨congrArg (fun z => Outcome.returned (some (Value.int z))) (by unfold hsp; rw [if_pos (show ho n f n2 f2 n 0 = true from by rw [← hv]; rfl), if_neg c2]), h9⟩) (fun _ h => nomatch h) d_P_haveSameParts_62
        · refine lv_iconst (v := 1) hx hb d_P_haveSameParts_57 (by decide) ?_
          refine lv_goto (tgt := 62) hx hb d_P_haveSameParts_58 (by decide) ?_
          exact W.zret (v := 1) hx hb hr rfl (fun t h9 _ => ⟨congrArg (fun z => Outcome.returned (some (Value.int z))) (by unfold hsp; rw [if_pos (show ho n f n2 f2 n 0 = true from by rw [← hv]; rfl), if_pos c2]), h9⟩) (fun _ h => nomatch h) d_P_haveSameParts_62
      · exact absurd (show nI n ≤ nI j from nI_le (by omega) (by omega)) c1
    | succ kk ih =>
      intro j  ls hj hv hl
      refine lv_iload_n hx hb d_P_haveSameParts_2 rfl (lv_at hl 2 rfl) ?_
      refine lv_aload_n hx hb d_P_haveSameParts_3 rfl (lv_at hl 0 rfl) ?_
      refine va_getN (D := G.1) (ci := 1) (v := .int (nI n)) (C := R_D) (T := F_D) (N := 5) hx hb ht in_D hown hK hP 0 rfl rfl 3 (by decide) (va_Nw.use rfl (hKN.2 _ kn_P_52 rfl)) (fun _ h9 => h9) rfl d_P_haveSameParts_4 ?_
      refine lv_icmp_ge (tgt := 46) hx hb d_P_haveSameParts_7 (by decide) (fun c3 => ?_) (fun c3 => ?_)
      · exact absurd c3 (nI_ge (show j < n by omega) (by omega))
      · refine lv_iconst (v := 1) hx hb d_P_haveSameParts_10 (by decide) ?_
        refine lv_istore_n (lv' := [(3, .int 1), (0, .ref a), (1, .ref a2), (2, .int (nI j))]) hx hb d_P_haveSameParts_11 rfl hl (by decide) rfl (fun ls hl => ?_)
        have loop2 : ∀ (kk2 j2 : Nat) (ls : Array Slot), j2 + kk2 = 5 → hi n f n2 f2 j kk2 j2 = hi n f n2 f2 j 4 1 → lv_has ls 4 [(0, .ref a), (1, .ref a2), (2, .int (nI j)), (3, .int (nI j2))] → W p l e (headSpec (Cond.code y_P_haveSameParts b_P_haveSameParts 4 (some .boolean) :: TG) ({ frames := 2, cells := 0, slots := 0, locals := 45 })).room s m ([.ref a, .ref a2] : List Value).toArray below meth c s.heap [] 0 0 (MQ below (QcRead (hsp n fb f n2 fb2 f2)) ([.ref a, .ref a2] : List Value).toArray s 0 0 (fun _ => False)) (F0 m 12 ls []) := by
          intro kk2
          induction kk2 with
          | zero =>
            intro j2  ls hj2 hv2 hl
            refine lv_iload_n hx hb d_P_haveSameParts_12 rfl (lv_at hl 3 rfl) ?_
            refine lv_iconst (v := 4) hx hb d_P_haveSameParts_13 (by decide) ?_
            refine lv_icmp_gt (tgt := 40) hx hb d_P_haveSameParts_14 (by decide) (fun c4 => ?_) (fun c4 => ?_)
            · refine lv_iinc (v := nI (j + 1)) (lv' := [(2, .int (nI (j + 1))), (0, .ref a), (1, .ref a2), (3, .int (nI j2))]) hx hb d_P_haveSameParts_40 hl (k := 2) rfl (nI_1 j) (by decide) rfl (fun ls hl => ?_)
              refine lv_goto (tgt := 2) hx hb d_P_haveSameParts_43 (by decide) ?_
              exact ih (j + 1) ls (by omega) (by rw [← hv]; simp only [ho]; rw [if_pos (show hi n f n2 f2 j 4 1 = true from by rw [← hv2]; rfl)]) (lv_sub hl [1, 2, 0] rfl)
            · exact absurd (show (4 : Int32) < nI j2 from by rw [show j2 = 5 by omega]; decide) c4
          | succ kk2 ih2 =>
            intro j2  ls hj2 hv2 hl
            refine lv_iload_n hx hb d_P_haveSameParts_12 rfl (lv_at hl 3 rfl) ?_
            refine lv_iconst (v := 4) hx hb d_P_haveSameParts_13 (by decide) ?_
            refine lv_icmp_gt (tgt := 40) hx hb d_P_haveSameParts_14 (by decide) (fun c5 => ?_) (fun c5 => ?_)
            · exact absurd c5 (nI_nlt (show j2 ≤ 4 by omega) (show 4 < 2 ^ 31 by omega))
            · refine lv_aload_n hx hb d_P_haveSameParts_17 rfl (lv_at hl 0 rfl) ?_
              refine lv_iload_n hx hb d_P_haveSameParts_18 rfl (lv_at hl 2 rfl) ?_
              refine lv_iload_n hx hb d_P_haveSameParts_19 rfl (lv_at hl 3 rfl) ?_
              refine pr_i (ru_V (b := a) (As := [.int (nI j), .int (nI j2)]) (rest := []) ⟨hx, hb, hml, hown, ht⟩ hKN (c_D_fact l G _ a b sd k n fb f (nI j) (nI j2) (hP.sub [0, 1] rfl) hn) kc_P_62 ⟨rfl, rfl⟩ ⟨Nat.le_of_ble_eq_true rfl, Nat.le_of_ble_eq_true rfl⟩ (va_recv hK hP (ci := 1) (q0 := 0) rfl rfl) rfl hl.1 rfl (Nat.le_of_ble_eq_true rfl) d_P_haveSameParts_20 ⟨Nat.le_of_ble_eq_true rfl, Nat.le_of_ble_eq_true rfl⟩) ?_
              refine lv_aload_n hx hb d_P_haveSameParts_23 rfl (lv_at hl 1 rfl) ?_
              refine lv_iload_n hx hb d_P_haveSameParts_24 rfl (lv_at hl 2 rfl) ?_
              refine lv_iload_n hx hb d_P_haveSameParts_25 rfl (lv_at hl 3 rfl) ?_
              refine pr_i (ru_V (b := a2) (As := [.int (nI j), .int (nI j2)]) (rest := [.int (fn_D_fact n f (nI j) (nI j2))]) ⟨hx, hb, hml, hown, ht⟩ hKN (c_D_fact l G _ a2 b2 sd2 k2 n2 fb2 f2 (nI j) (nI j2) (hP.sub [2, 3] rfl) hn2) kc_P_62 ⟨rfl, rfl⟩ ⟨Nat.le_of_ble_eq_true rfl, Nat.le_of_ble_eq_true rfl⟩ (va_recv hK hP (ci := 1) (q0 := 2) rfl rfl) rfl hl.1 rfl (Nat.le_of_ble_eq_true rfl) d_P_haveSameParts_26 ⟨Nat.le_of_ble_eq_true rfl, Nat.le_of_ble_eq_true rfl⟩) ?_
              refine lv_icmp_eq (tgt := 34) hx hb d_P_haveSameParts_29 (by decide) (fun c6 => ?_) (fun c6 => ?_)
              · refine lv_iinc (v := nI (j2 + 1)) (lv' := [(3, .int (nI (j2 + 1))), (0, .ref a), (1, .ref a2), (2, .int (nI j))]) hx hb d_P_haveSameParts_34 hl (k := 3) rfl (nI_1 j2) (by decide) rfl (fun ls hl => ?_)
                refine lv_goto (tgt := 12) hx hb d_P_haveSameParts_37 (by decide) ?_
                exact ih2 (j2 + 1) ls (by omega) (by rw [← hv2]; simp only [hi]; rw [if_pos c6]) (lv_sub hl [1, 2, 3, 0] rfl)
              · refine lv_iconst (v := 0) hx hb d_P_haveSameParts_32 (by decide) ?_
                have e1 : hi n f n2 f2 j 4 1 = false := by rw [← hv2]; simp only [hi]; rw [if_neg c6]
                have e2 : ho n f n2 f2 n 0 = false := by rw [← hv]; simp only [ho]; rw [e1]; rfl
                exact W.zret (v := 0) hx hb hr rfl (fun t h9 _ => ⟨congrArg (fun z => Outcome.returned (some (Value.int z))) (by unfold hsp; rw [e2]; rfl), h9⟩) (fun _ h => nomatch h) d_P_haveSameParts_33
        exact loop2 4 1 ls (by omega) rfl (by exact lv_sub hl [1, 2, 3, 0] rfl)
  exact loop n 0 ls (by omega) rfl (by exact lv_sub hl [1, 2, 0] rfl)
end
section
def fn_P_noise (sd : Int64) (p1 : Int32) (p2 : Int32) (p3 : Int32) : Int32 := (((((2 * ((((zN sd (5 + p1) ((12 * p3) + p2)).toUInt64 >>> ((1 : Int32).toInt64.toUInt64 &&& Int64.toUInt64 63)).toInt64) - (((zN sd (5 + p1) ((12 * p3) + p2)).toUInt64 >>> ((1 : Int32).toInt64.toUInt64 &&& Int64.toUInt64 63)).toInt64) / 33 * 33)) + ((zN sd (5 + p1) ((12 * p3) + p2)) &&& 1)) - ((2 * ((((zN sd (5 + p1) ((12 * p3) + p2)).toUInt64 >>> ((1 : Int32).toInt64.toUInt64 &&& Int64.toUInt64 63)).toInt64) - (((zN sd (5 + p1) ((12 * p3) + p2)).toUInt64 >>> ((1 : Int32).toInt64.toUInt64 &&& Int64.toUInt64 63)).toInt64) / 33 * 33)) + ((zN sd (5 + p1) ((12 * p3) + p2)) &&& 1)) / 33 * 33).toInt32) - 16)
set_option maxHeartbeats 4000000 in
set_option maxRecDepth 100000 in
theorem c_P_noise (l : Launch) (G : GT) (H : Heap) (sd : Int64) (p1 : Int32) (p2 : Int32) (p3 : Int32) : Met l y_P_noise (Cond.code y_P_noise b_P_noise 9 (some .int) :: TG) ({ frames := 1, cells := 0, slots := 0, locals := 25 }) (PC G H [.long sd, .int p1, .int p2, .int p3]) (QcRead (fn_P_noise sd p1 p2 p3)) 0 0 (fun _ => False) := by
  refine Met.ofW (cc := b_P_noise) (maxL := 9) (ret := (some .int)) (by decide) rfl ?_
  intro p e s m args below meth c s₁ B hml hv
  obtain ⟨rfl, hH, hKN⟩ := hv
  subst hH
  have hx := B.exec
  have hb := B.bytes
  have hr := B.returns
  have hts := atoms_spec (ws := (Cond.code y_P_noise b_P_noise 9 (some .int) :: TG)) B.pre
  have ht : ∀ w ∈ TG, w.before _ s = true := fun w h => hts w (List.mem_cons_of_mem _ h)
  have hown : s.vm.findClass R_P = some m.cls := findClass_of_methodNamed B.named
  have hlocks := B.notSynchronized
  have hK := hKN.1
  have hl := lv_entry ([.long sd, .int p1, .int p2, .int p3]) (n := 9) (Nat.le_of_ble_eq_true rfl)
  rw [lg_entry_eq]
  generalize (lg_sl ([.long sd, .int p1, .int p2, .int p3]) ++ List.replicate (9 - (lg_sl ([.long sd, .int p1, .int p2, .int p3])).length) Slot.unset).toArray = ls at hl ⊢
  have hl : lv_has ls 9 [(0, .long sd), (2, .int p1), (3, .int p2), (4, .int p3)] := hl
  refine lv_lload_n hx hb d_P_noise_0 rfl (lv_at hl 0 rfl) ?_
  refine lv_iconst (v := 5) hx hb d_P_noise_1 (by decide) ?_
  refine lv_iload_n hx hb d_P_noise_2 rfl (lv_at hl 1 rfl) ?_
  refine lv_iadd hx hb d_P_noise_3 ?_
  refine lv_bipush (v := 12) hx hb d_P_noise_4 (by decide) ?_
  refine lv_iload hx hb d_P_noise_6 (lv_at hl 3 rfl) ?_
  refine lv_imul hx hb d_P_noise_8 ?_
  refine lv_iload_n hx hb d_P_noise_9 rfl (lv_at hl 2 rfl) ?_
  refine lv_iadd hx hb d_P_noise_10 ?_
  refine pr_l (ru_S (As := [.long sd, .int (5 + p1), .int ((12 * p3) + p2)]) (rest := []) ⟨hx, hb, hml, hown, ht⟩ hKN (c_P_number l G _ sd (5 + p1) ((12 * p3) + p2)) kc_P_115 ⟨rfl, rfl⟩ ⟨Nat.le_of_ble_eq_true rfl, Nat.le_of_ble_eq_true rfl⟩ rfl hl.1 rfl (Nat.le_of_ble_eq_true rfl) d_P_noise_11 ⟨Nat.le_of_ble_eq_true rfl, Nat.le_of_ble_eq_true rfl⟩) ?_
  refine lv_lstore (lv' := [(5, .long (zN sd (5 + p1) ((12 * p3) + p2))), (0, .long sd), (2, .int p1), (3, .int p2), (4, .int p3)]) hx hb d_P_noise_14 hl (by decide) rfl (fun ls hl => ?_)
  refine lv_ldc2 (v := 2) hx hb hown (ht _ kl_P_119) d_P_noise_16 ?_
  refine lv_lload hx hb d_P_noise_19 (lv_at hl 0 rfl) ?_
  refine lv_iconst (v := 1) hx hb d_P_noise_21 (by decide) ?_
  refine lv_lushr hx hb d_P_noise_22 rfl ?_
  refine lv_ldc2 (v := 33) hx hb hown (ht _ kl_P_121) d_P_noise_23 ?_
  refine lv_lrem hx hb d_P_noise_26 (by decide) ?_
  refine lv_lmul hx hb d_P_noise_27 ?_
  refine lv_lload hx hb d_P_noise_28 (lv_at hl 0 rfl) ?_
  refine lv_lconst (v := 1) hx hb d_P_noise_30 (by decide) ?_
  refine lv_land hx hb d_P_noise_31 ?_
  refine lv_ladd hx hb d_P_noise_32 ?_
  refine lv_ldc2 (v := 33) hx hb hown (ht _ kl_P_121) d_P_noise_33 ?_
  refine lv_lrem hx hb d_P_noise_36 (by decide) ?_
  refine lv_lstore (lv' := [(7, .long (((2 * ((((zN sd (5 + p1) ((12 * p3) + p2)).toUInt64 >>> ((1 : Int32).toInt64.toUInt64 &&& Int64.toUInt64 63)).toInt64) - (((zN sd (5 + p1) ((12 * p3) + p2)).toUInt64 >>> ((1 : Int32).toInt64.toUInt64 &&& Int64.toUInt64 63)).toInt64) / 33 * 33)) + ((zN sd (5 + p1) ((12 * p3) + p2)) &&& 1)) - ((2 * ((((zN sd (5 + p1) ((12 * p3) + p2)).toUInt64 >>> ((1 : Int32).toInt64.toUInt64 &&& Int64.toUInt64 63)).toInt64) - (((zN sd (5 + p1) ((12 * p3) + p2)).toUInt64 >>> ((1 : Int32).toInt64.toUInt64 &&& Int64.toUInt64 63)).toInt64) / 33 * 33)) + ((zN sd (5 + p1) ((12 * p3) + p2)) &&& 1)) / 33 * 33)), (5, .long (zN sd (5 + p1) ((12 * p3) + p2))), (0, .long sd), (2, .int p1), (3, .int p2), (4, .int p3)]) hx hb d_P_noise_37 hl (by decide) rfl (fun ls hl => ?_)
  refine lv_lload hx hb d_P_noise_39 (lv_at hl 0 rfl) ?_
  refine lv_l2i hx hb d_P_noise_41 rfl ?_
  refine lv_bipush (v := 16) hx hb d_P_noise_42 (by decide) ?_
  refine lv_isub hx hb d_P_noise_44 ?_
  exact W.iret (v := (((((2 * ((((zN sd (5 + p1) ((12 * p3) + p2)).toUInt64 >>> ((1 : Int32).toInt64.toUInt64 &&& Int64.toUInt64 63)).toInt64) - (((zN sd (5 + p1) ((12 * p3) + p2)).toUInt64 >>> ((1 : Int32).toInt64.toUInt64 &&& Int64.toUInt64 63)).toInt64) / 33 * 33)) + ((zN sd (5 + p1) ((12 * p3) + p2)) &&& 1)) - ((2 * ((((zN sd (5 + p1) ((12 * p3) + p2)).toUInt64 >>> ((1 : Int32).toInt64.toUInt64 &&& Int64.toUInt64 63)).toInt64) - (((zN sd (5 + p1) ((12 * p3) + p2)).toUInt64 >>> ((1 : Int32).toInt64.toUInt64 &&& Int64.toUInt64 63)).toInt64) / 33 * 33)) + ((zN sd (5 + p1) ((12 * p3) + p2)) &&& 1)) / 33 * 33).toInt32) - 16)) hx hb hr (fun t h9 _ => ⟨congrArg (fun z => Outcome.returned (some (Value.int z))) rfl, h9⟩) (fun _ h => nomatch h) d_P_noise_45
theorem ink_in {x : Int32} (h1 : ¬ x < 0) (h2 : x < 10) : vp_in x 10 := by
  obtain ⟨j, hj, rfl⟩ := nI_of h1
  exact vp_in_nI ((nI_ltI hj (show 10 < 2 ^ 31 by omega)).mp h2) (by omega)
def fn_P_isInked (p1 : Int32) (p2 : Int32) (p3 : Int32) : Int32 := (if p1 < 0 then 0 else (if p1 < 10 then (if (((sgn p1.toNatClampNeg) >>> ((14 - ((3 * (p3 / 4)) + (p2 / 4))) &&& 31)) &&& 1) = 0 then 0 else 1) else 0))
set_option maxHeartbeats 4000000 in
set_option maxRecDepth 100000 in
theorem c_P_isInked (l : Launch) (G : GT) (H : Heap) (tt : Nat) (p1 : Int32) (p2 : Int32) (p3 : Int32) : Met l y_P_isInked (Cond.code y_P_isInked b_P_isInked 4 (some .boolean) :: TG) ({ frames := 0, cells := 0, slots := 0, locals := 0 }) (PCS G H tt [.int p1, .int p2, .int p3]) (QcRead (fn_P_isInked p1 p2 p3)) 0 0 (fun _ => False) := by
  refine Met.ofW (cc := b_P_isInked) (maxL := 4) (ret := (some .boolean)) (by decide) rfl ?_
  intro p e s m args below meth c s₁ B hml hv
  obtain ⟨rfl, hH, hKN, hST⟩ := hv
  subst hH
  have hx := B.exec
  have hb := B.bytes
  have hr := B.returns
  have hts := atoms_spec (ws := (Cond.code y_P_isInked b_P_isInked 4 (some .boolean) :: TG)) B.pre
  have ht : ∀ w ∈ TG, w.before _ s = true := fun w h => hts w (List.mem_cons_of_mem _ h)
  have hown : s.vm.findClass R_P = some m.cls := findClass_of_methodNamed B.named
  have hlocks := B.notSynchronized
  have hK := hKN.1
  have hl := lv_entry ([.int p1, .int p2, .int p3]) (n := 4) (Nat.le_of_ble_eq_true rfl)
  rw [lg_entry_eq]
  generalize (lg_sl ([.int p1, .int p2, .int p3]) ++ List.replicate (4 - (lg_sl ([.int p1, .int p2, .int p3])).length) Slot.unset).toArray = ls at hl ⊢
  have hl : lv_has ls 4 [(0, .int p1), (1, .int p2), (2, .int p3)] := hl
  have hS : va_S (fun _ => False) s.heap s.heap [] := va_S.rf
  refine lv_iload_n hx hb d_P_isInked_0 rfl (lv_at hl 0 rfl) ?_
  refine lv_if_lt (tgt := 12) hx hb d_P_isInked_1 (by decide) (fun c1 => ?_) (fun c1 => ?_)
  · refine lv_iconst (v := 0) hx hb d_P_isInked_12 (by decide) ?_
    exact W.zret (v := 0) hx hb hr rfl (fun t h9 _ => ⟨congrArg (fun z => Outcome.returned (some (Value.int z))) (by unfold fn_P_isInked; rw [if_pos c1]), h9⟩) (fun _ h => nomatch h) d_P_isInked_13
  · refine lv_iload_n hx hb d_P_isInked_4 rfl (lv_at hl 0 rfl) ?_
    refine va_gets hx hb hST.1 hS hown (ht _ kf_P_111) (fun _ h9 => h9) d_P_isInked_5 ?_
    refine va_tlen (v := 10) hx hb hST.2 hS rfl d_P_isInked_8 ?_
    refine lv_icmp_lt (tgt := 14) hx hb d_P_isInked_9 (by decide) (fun c2 => ?_) (fun c2 => ?_)
    · refine lv_iconst (v := 3) hx hb d_P_isInked_14 (by decide) ?_
      refine lv_iload_n hx hb d_P_isInked_15 rfl (lv_at hl 2 rfl) ?_
      refine lv_iconst (v := 4) hx hb d_P_isInked_16 (by decide) ?_
      refine lv_idiv hx hb d_P_isInked_17 (by decide) ?_
      refine lv_imul hx hb d_P_isInked_18 ?_
      refine lv_iload_n hx hb d_P_isInked_19 rfl (lv_at hl 1 rfl) ?_
      refine lv_iconst (v := 4) hx hb d_P_isInked_20 (by decide) ?_
      refine lv_idiv hx hb d_P_isInked_21 (by decide) ?_
      refine lv_iadd hx hb d_P_isInked_22 ?_
      refine lv_istore_n (lv' := [(3, .int ((3 * (p3 / 4)) + (p2 / 4))), (0, .int p1), (1, .int p2), (2, .int p3)]) hx hb d_P_isInked_23 rfl hl (by decide) rfl (fun ls hl => ?_)
      refine va_gets hx hb hST.1 hS hown (ht _ kf_P_111) (fun _ h9 => h9) d_P_isInked_24 ?_
      refine lv_iload_n hx hb d_P_isInked_27 rfl (lv_at hl 1 rfl) ?_
      refine va_ti (v := .int (sgn p1.toNatClampNeg)) hx hb hST.2 hS (i := p1) (ink_in c1 c2) rfl d_P_isInked_28 ?_
      refine lv_bipush (v := 14) hx hb d_P_isInked_29 (by decide) ?_
      refine lv_iload_n hx hb d_P_isInked_31 rfl (lv_at hl 0 rfl) ?_
      refine lv_isub hx hb d_P_isInked_32 ?_
      refine lv_ishr hx hb d_P_isInked_33 ?_
      refine lv_iconst (v := 1) hx hb d_P_isInked_34 (by decide) ?_
      refine lv_iand hx hb d_P_isInked_35 ?_
      refine lv_if_eq (tgt := 43) hx hb d_P_isInked_36 (by decide) (fun c3 => ?_) (fun c3 => ?_)
      · refine lv_iconst (v := 0) hx hb d_P_isInked_43 (by decide) ?_
        exact W.zret (v := 0) hx hb hr rfl (fun t h9 _ => ⟨congrArg (fun z => Outcome.returned (some (Value.int z))) (by unfold fn_P_isInked; rw [if_neg c1, if_pos c2, if_pos c3]), h9⟩) (fun _ h => nomatch h) d_P_isInked_44
      · refine lv_iconst (v := 1) hx hb d_P_isInked_39 (by decide) ?_
        refine lv_goto (tgt := 44) hx hb d_P_isInked_40 (by decide) ?_
        exact W.zret (v := 1) hx hb hr rfl (fun t h9 _ => ⟨congrArg (fun z => Outcome.returned (some (Value.int z))) (by unfold fn_P_isInked; rw [if_neg c1, if_pos c2, if_neg c3]), h9⟩) (fun _ h => nomatch h) d_P_isInked_44
    · refine lv_iconst (v := 0) hx hb d_P_isInked_12 (by decide) ?_
      exact W.zret (v := 0) hx hb hr rfl (fun t h9 _ => ⟨congrArg (fun z => Outcome.returned (some (Value.int z))) (by unfold fn_P_isInked; rw [if_neg c1, if_neg c2]), h9⟩) (fun _ h => nomatch h) d_P_isInked_13
def fn_P_point (sd : Int64) (k : Int32) (n : Nat) (f : Nat → Int64) (p1 : Int32) (p2 : Int32) (p3 : Int32) : Int32 := (if k = 1 then (if (fn_D_has n p1) = 0 then (-1) else (if p2 < 0 then (-1) else (if 12 ≤ p2 then (-1) else (if p3 < 0 then (-1) else (if p3 < 20 then (if (fn_P_isInked ((fn_D_fact n f p1 1) - (fn_D_fact n f p1 1) / 10 * 10) p2 p3) = 0 then (200 + (fn_P_noise sd p1 p2 p3)) else (40 + (fn_P_noise sd p1 p2 p3))) else (-1)))))) else (-1))
set_option maxHeartbeats 4000000 in
set_option maxRecDepth 100000 in
theorem c_P_point (l : Launch) (G : GT) (H : Heap) (tt : Nat) (a : Nat) (d1 : Nat) (d2 : Nat) (v1 : Nat) (v2 : Nat) (v3 : Nat) (o1 : Nat) (t1 : Nat) (sd : Int64) (k : Int32) (n : Nat) (fb : Int32) (f : Nat → Int64) (g : Nat → Int32) (h : Nat → Int32) (q : Nat) (ns : Int64) (lb : Int32) (p1 : Int32) (p2 : Int32) (p3 : Int32) (hP : va_P G.1 classes [(a, .inr (0, [.ref d1, .ref v1, .ref o1, .ref t1, .long ns, .int lb])), (d1, .inr (1, [.ref d2, .long sd, .int k, .int (nI n), .int fb])), (d2, .inl (G.2.1, 16, .inr (.inl f))), (v1, .inr (2, [.ref v2, .ref v3, .int (nI q)])), (v2, .inl (G.2.2.1, 100, .inl g)), (v3, .inl (G.2.2.2, 100, .inl h))] H) (hn : n ≤ 16) (hq : q ≤ 100) : Met l y_P_point (Cond.code y_P_point b_P_point 5 (some .int) :: TG) ({ frames := 2, cells := 0, slots := 0, locals := 53 }) (PCS G H tt [.ref a, .int p1, .int p2, .int p3]) (QcRead (fn_P_point sd k n f p1 p2 p3)) 0 0 (fun _ => False) := by
  refine Met.ofW (cc := b_P_point) (maxL := 5) (ret := (some .int)) (by decide) rfl ?_
  intro p e s m args below meth c s₁ B hml hv
  obtain ⟨rfl, hH, hKN, hST⟩ := hv
  subst hH
  have hx := B.exec
  have hb := B.bytes
  have hr := B.returns
  have hts := atoms_spec (ws := (Cond.code y_P_point b_P_point 5 (some .int) :: TG)) B.pre
  have ht : ∀ w ∈ TG, w.before _ s = true := fun w h => hts w (List.mem_cons_of_mem _ h)
  have hown : s.vm.findClass R_P = some m.cls := findClass_of_methodNamed B.named
  have hlocks := B.notSynchronized
  have hK := hKN.1
  have hl := lv_entry ([.ref a, .int p1, .int p2, .int p3]) (n := 5) (Nat.le_of_ble_eq_true rfl)
  rw [lg_entry_eq]
  generalize (lg_sl ([.ref a, .int p1, .int p2, .int p3]) ++ List.replicate (5 - (lg_sl ([.ref a, .int p1, .int p2, .int p3])).length) Slot.unset).toArray = ls at hl ⊢
  have hl : lv_has ls 5 [(0, .ref a), (1, .int p1), (2, .int p2), (3, .int p3)] := hl
  refine lv_aload_n hx hb d_P_point_0 rfl (lv_at hl 0 rfl) ?_
  refine va_get (D := G.1) (ci := 0) (v := .ref d1) (C := R_P) (T := F_P) (N := 6) hx hb ht in_P hown hK hP 0 rfl rfl 0 (by decide) (ht _ kf_P_20) (fun _ h9 => h9) rfl d_P_point_1 ?_
  refine va_getN (D := G.1) (ci := 1) (v := .int k) (C := R_D) (T := F_D) (N := 5) hx hb ht in_D hown hK hP 1 rfl rfl 2 (by decide) (va_Nw.use rfl (hKN.2 _ kn_P_66 rfl)) (fun _ h9 => h9) rfl d_P_point_4 ?_
  refine lv_iconst (v := 1) hx hb d_P_point_7 (by decide) ?_
  refine lv_icmp_ne (tgt := 22) hx hb d_P_point_8 (by decide) (fun c1 => ?_) (fun c1 => ?_)
  · refine lv_iconst (v := (-1)) hx hb d_P_point_22 (by decide) ?_
    exact W.iret (v := (-1)) hx hb hr (fun t h9 _ => ⟨congrArg (fun z => Outcome.returned (some (Value.int z))) (by unfold fn_P_point; rw [if_neg c1]), h9⟩) (fun _ h => nomatch h) d_P_point_23
  · refine lv_aload_n hx hb d_P_point_11 rfl (lv_at hl 0 rfl) ?_
    refine va_get (D := G.1) (ci := 0) (v := .ref d1) (C := R_P) (T := F_P) (N := 6) hx hb ht in_P hown hK hP 0 rfl rfl 0 (by decide) (ht _ kf_P_20) (fun _ h9 => h9) rfl d_P_point_12 ?_
    refine lv_iload_n hx hb d_P_point_15 rfl (lv_at hl 1 rfl) ?_
    refine pr_i (ru_V (b := d1) (As := [.int p1]) (rest := []) ⟨hx, hb, hml, hown, ht⟩ hKN (c_D_has l G _ d1 d2 sd k n fb f p1 (hP.sub [1, 2] rfl) hn) kc_P_55 ⟨rfl, rfl⟩ ⟨Nat.le_of_ble_eq_true rfl, Nat.le_of_ble_eq_true rfl⟩ (va_recv hK hP (ci := 1) (q0 := 1) rfl rfl) rfl hl.1 rfl (Nat.le_of_ble_eq_true rfl) d_P_point_16 ⟨Nat.le_of_ble_eq_true rfl, Nat.le_of_ble_eq_true rfl⟩) ?_
    refine lv_if_ne (tgt := 24) hx hb d_P_point_19 (by decide) (fun c2 => ?_) (fun c2 => ?_)
    · refine lv_iload_n hx hb d_P_point_24 rfl (lv_at hl 2 rfl) ?_
      refine lv_if_lt (tgt := 44) hx hb d_P_point_25 (by decide) (fun c3 => ?_) (fun c3 => ?_)
      · refine lv_iconst (v := (-1)) hx hb d_P_point_44 (by decide) ?_
        exact W.iret (v := (-1)) hx hb hr (fun t h9 _ => ⟨congrArg (fun z => Outcome.returned (some (Value.int z))) (by unfold fn_P_point; rw [if_pos c1, if_neg c2, if_pos c3]), h9⟩) (fun _ h => nomatch h) d_P_point_45
      · refine lv_iload_n hx hb d_P_point_28 rfl (lv_at hl 2 rfl) ?_
        refine lv_bipush (v := 12) hx hb d_P_point_29 (by decide) ?_
        refine lv_icmp_ge (tgt := 44) hx hb d_P_point_31 (by decide) (fun c4 => ?_) (fun c4 => ?_)
        · refine lv_iconst (v := (-1)) hx hb d_P_point_44 (by decide) ?_
          exact W.iret (v := (-1)) hx hb hr (fun t h9 _ => ⟨congrArg (fun z => Outcome.returned (some (Value.int z))) (by unfold fn_P_point; rw [if_pos c1, if_neg c2, if_neg c3, if_pos c4]), h9⟩) (fun _ h => nomatch h) d_P_point_45
        · refine lv_iload_n hx hb d_P_point_34 rfl (lv_at hl 3 rfl) ?_
          refine lv_if_lt (tgt := 44) hx hb d_P_point_35 (by decide) (fun c5 => ?_) (fun c5 => ?_)
          · refine lv_iconst (v := (-1)) hx hb d_P_point_44 (by decide) ?_
            exact W.iret (v := (-1)) hx hb hr (fun t h9 _ => ⟨congrArg (fun z => Outcome.returned (some (Value.int z))) (by unfold fn_P_point; rw [if_pos c1, if_neg c2, if_neg c3, if_neg c4, if_pos c5]), h9⟩) (fun _ h => nomatch h) d_P_point_45
          · refine lv_iload_n hx hb d_P_point_38 rfl (lv_at hl 3 rfl) ?_
            refine lv_bipush (v := 20) hx hb d_P_point_39 (by decide) ?_
            refine lv_icmp_lt (tgt := 46) hx hb d_P_point_41 (by decide) (fun c6 => ?_) (fun c6 => ?_)
            · refine lv_aload_n hx hb d_P_point_46 rfl (lv_at hl 0 rfl) ?_
              refine va_get (D := G.1) (ci := 0) (v := .ref d1) (C := R_P) (T := F_P) (N := 6) hx hb ht in_P hown hK hP 0 rfl rfl 0 (by decide) (ht _ kf_P_20) (fun _ h9 => h9) rfl d_P_point_47 ?_
              refine lv_iload_n hx hb d_P_point_50 rfl (lv_at hl 1 rfl) ?_
              refine lv_iconst (v := 1) hx hb d_P_point_51 (by decide) ?_
              refine pr_i (ru_V (b := d1) (As := [.int p1, .int 1]) (rest := []) ⟨hx, hb, hml, hown, ht⟩ hKN (c_D_fact l G _ d1 d2 sd k n fb f p1 1 (hP.sub [1, 2] rfl) hn) kc_P_62 ⟨rfl, rfl⟩ ⟨Nat.le_of_ble_eq_true rfl, Nat.le_of_ble_eq_true rfl⟩ (va_recv hK hP (ci := 1) (q0 := 1) rfl rfl) rfl hl.1 rfl (Nat.le_of_ble_eq_true rfl) d_P_point_52 ⟨Nat.le_of_ble_eq_true rfl, Nat.le_of_ble_eq_true rfl⟩) ?_
              refine lv_bipush (v := 10) hx hb d_P_point_55 (by decide) ?_
              refine lv_irem hx hb d_P_point_57 (by decide) ?_
              refine lv_iload_n hx hb d_P_point_58 rfl (lv_at hl 2 rfl) ?_
              refine lv_iload_n hx hb d_P_point_59 rfl (lv_at hl 3 rfl) ?_
              refine pr_i (ru_SS (As := [.int ((fn_D_fact n f p1 1) - (fn_D_fact n f p1 1) / 10 * 10), .int p2, .int p3]) (rest := []) ⟨hx, hb, hml, hown, ht⟩ hKN hST (c_P_isInked l G _ tt ((fn_D_fact n f p1 1) - (fn_D_fact n f p1 1) / 10 * 10) p2 p3) kc_P_69 ⟨rfl, rfl⟩ ⟨Nat.le_of_ble_eq_true rfl, Nat.le_of_ble_eq_true rfl⟩ rfl hl.1 rfl (Nat.le_of_ble_eq_true rfl) d_P_point_60 ⟨Nat.le_of_ble_eq_true rfl, Nat.le_of_ble_eq_true rfl⟩) ?_
              refine lv_if_eq (tgt := 71) hx hb d_P_point_63 (by decide) (fun c7 => ?_) (fun c7 => ?_)
              · refine lv_sipush (v := 200) hx hb d_P_point_71 (by decide) ?_
                refine lv_istore (lv' := [(4, .int 200), (0, .ref a), (1, .int p1), (2, .int p2), (3, .int p3)]) hx hb d_P_point_74 hl (by decide) rfl (fun ls hl => ?_)
                refine lv_iload hx hb d_P_point_76 (lv_at hl 0 rfl) ?_
                refine lv_aload_n hx hb d_P_point_78 rfl (lv_at hl 1 rfl) ?_
                refine va_get (D := G.1) (ci := 0) (v := .ref d1) (C := R_P) (T := F_P) (N := 6) hx hb ht in_P hown hK hP 0 rfl rfl 0 (by decide) (ht _ kf_P_20) (fun _ h9 => h9) rfl d_P_point_79 ?_
                refine va_getN (D := G.1) (ci := 1) (v := .long sd) (C := R_D) (T := F_D) (N := 5) hx hb ht in_D hown hK hP 1 rfl rfl 1 (by decide) (va_Nw.use rfl (hKN.2 _ kn_P_73 rfl)) (fun _ h9 => h9) rfl d_P_point_82 ?_
                refine lv_iload_n hx hb d_P_point_85 rfl (lv_at hl 2 rfl) ?_
                refine lv_iload_n hx hb d_P_point_86 rfl (lv_at hl 3 rfl) ?_
                refine lv_iload_n hx hb d_P_point_87 rfl (lv_at hl 4 rfl) ?_
                refine pr_i (ru_S (As := [.long sd, .int p1, .int p2, .int p3]) (rest := [.int 200]) ⟨hx, hb, hml, hown, ht⟩ hKN (c_P_noise l G _ sd p1 p2 p3) kc_P_76 ⟨rfl, rfl⟩ ⟨Nat.le_of_ble_eq_true rfl, Nat.le_of_ble_eq_true rfl⟩ rfl hl.1 rfl (Nat.le_of_ble_eq_true rfl) d_P_point_88 ⟨Nat.le_of_ble_eq_true rfl, Nat.le_of_ble_eq_true rfl⟩) ?_
                refine lv_iadd hx hb d_P_point_91 ?_
                exact W.iret (v := (200 + (fn_P_noise sd p1 p2 p3))) hx hb hr (fun t h9 _ => ⟨congrArg (fun z => Outcome.returned (some (Value.int z))) (by unfold fn_P_point; rw [if_pos c1, if_neg c2, if_neg c3, if_neg c4, if_neg c5, if_pos c6, if_pos c7]), h9⟩) (fun _ h => nomatch h) d_P_point_92
              · refine lv_bipush (v := 40) hx hb d_P_point_66 (by decide) ?_
                refine lv_goto (tgt := 74) hx hb d_P_point_68 (by decide) ?_
                refine lv_istore (lv' := [(4, .int 40), (0, .ref a), (1, .int p1), (2, .int p2), (3, .int p3)]) hx hb d_P_point_74 hl (by decide) rfl (fun ls hl => ?_)
                refine lv_iload hx hb d_P_point_76 (lv_at hl 0 rfl) ?_
                refine lv_aload_n hx hb d_P_point_78 rfl (lv_at hl 1 rfl) ?_
                refine va_get (D := G.1) (ci := 0) (v := .ref d1) (C := R_P) (T := F_P) (N := 6) hx hb ht in_P hown hK hP 0 rfl rfl 0 (by decide) (ht _ kf_P_20) (fun _ h9 => h9) rfl d_P_point_79 ?_
                refine va_getN (D := G.1) (ci := 1) (v := .long sd) (C := R_D) (T := F_D) (N := 5) hx hb ht in_D hown hK hP 1 rfl rfl 1 (by decide) (va_Nw.use rfl (hKN.2 _ kn_P_73 rfl)) (fun _ h9 => h9) rfl d_P_point_82 ?_
                refine lv_iload_n hx hb d_P_point_85 rfl (lv_at hl 2 rfl) ?_
                refine lv_iload_n hx hb d_P_point_86 rfl (lv_at hl 3 rfl) ?_
                refine lv_iload_n hx hb d_P_point_87 rfl (lv_at hl 4 rfl) ?_
                refine pr_i (ru_S (As := [.long sd, .int p1, .int p2, .int p3]) (rest := [.int 40]) ⟨hx, hb, hml, hown, ht⟩ hKN (c_P_noise l G _ sd p1 p2 p3) kc_P_76 ⟨rfl, rfl⟩ ⟨Nat.le_of_ble_eq_true rfl, Nat.le_of_ble_eq_true rfl⟩ rfl hl.1 rfl (Nat.le_of_ble_eq_true rfl) d_P_point_88 ⟨Nat.le_of_ble_eq_true rfl, Nat.le_of_ble_eq_true rfl⟩) ?_
                refine lv_iadd hx hb d_P_point_91 ?_
                exact W.iret (v := (40 + (fn_P_noise sd p1 p2 p3))) hx hb hr (fun t h9 _ => ⟨congrArg (fun z => Outcome.returned (some (Value.int z))) (by unfold fn_P_point; rw [if_pos c1, if_neg c2, if_neg c3, if_neg c4, if_neg c5, if_pos c6, if_neg c7]), h9⟩) (fun _ h => nomatch h) d_P_point_92
            · refine lv_iconst (v := (-1)) hx hb d_P_point_44 (by decide) ?_
              exact W.iret (v := (-1)) hx hb hr (fun t h9 _ => ⟨congrArg (fun z => Outcome.returned (some (Value.int z))) (by unfold fn_P_point; rw [if_pos c1, if_neg c2, if_neg c3, if_neg c4, if_neg c5, if_neg c6]), h9⟩) (fun _ h => nomatch h) d_P_point_45
    · refine lv_iconst (v := (-1)) hx hb d_P_point_22 (by decide) ?_
      exact W.iret (v := (-1)) hx hb hr (fun t h9 _ => ⟨congrArg (fun z => Outcome.returned (some (Value.int z))) (by unfold fn_P_point; rw [if_pos c1, if_pos c2]), h9⟩) (fun _ h => nomatch h) d_P_point_23
end
section
set_option maxHeartbeats 4000000 in
set_option maxRecDepth 100000 in
theorem c_D_init (l : Launch) (G : GT) (H : Heap) (a : Nat) (hP : va_P G.1 classes [(a, .inr (1, [.null, .long 0, .int 0, .int 0, .int 0]))] H) (hD0 : va_D (fun _ => True) [(a, .inr (1, [.null, .long 0, .int 0, .int 0, .int 0]))]) : Met l y_D_init (Cond.code y_D_init b_D_init 1 none :: TG) ({ frames := 1, cells := 1, slots := 16, locals := 12 }) (PC G H [.ref a]) (QN G (fun z : Nat => [(a, .inr (1, [.ref z, .long 0, .int (-1), .int (nI 0), .int 0])), (z, .inl (G.2.1, 16, .inr (.inl (fun _ => 0))))]) (va_A [(a, .inr (1, [.null, .long 0, .int 0, .int 0, .int 0]))] H.size)) 1 16 (va_A [(a, .inr (1, [.null, .long 0, .int 0, .int 0, .int 0]))] H.size) := by
  refine Met.ofW (cc := b_D_init) (maxL := 1) (ret := none) (by decide) rfl ?_
  intro p e s m args below meth c s₁ B hml hv
  obtain ⟨rfl, hH, hKN⟩ := hv
  subst hH
  have hx := B.exec
  have hb := B.bytes
  have hr := B.returns
  have hts := atoms_spec (ws := (Cond.code y_D_init b_D_init 1 none :: TG)) B.pre
  have ht : ∀ w ∈ TG, w.before _ s = true := fun w h => hts w (List.mem_cons_of_mem _ h)
  have hown : s.vm.findClass R_D = some m.cls := findClass_of_methodNamed B.named
  have hlocks := B.notSynchronized
  have hK := hKN.1
  have hl := lv_entry ([.ref a]) (n := 1) (Nat.le_of_ble_eq_true rfl)
  rw [lg_entry_eq]
  generalize (lg_sl ([.ref a]) ++ List.replicate (1 - (lg_sl ([.ref a])).length) Slot.unset).toArray = ls at hl ⊢
  have hl : lv_has ls 1 [(0, .ref a)] := hl
  have hin : meth.name = "<init>" := (name_of_methodNamed B.named B.method).1
  have hD := hD0.self (sz := s.heap.size)
  generalize hAe : va_A [(a, .inr (1, [.null, .long 0, .int 0, .int 0, .int 0]))] s.heap.size = A at hD ⊢
  have hA : ∀ q : Nat, s.heap.size ≤ q → A q := fun q h => by rw [← hAe]; exact Or.inr h
  have hS : va_S A s.heap s.heap [] := va_S.rf
  refine lv_aload_n hx hb d_D_init_0 rfl (lv_at hl 0 rfl) ?_
  refine W.objInit hx hb hown (ht _ km_D_3) (ht _ k_objI) (ht _ k_objC) rfl (by rw [hml]; exact hl.1) rfl d_D_init_1 (Nat.le_of_ble_eq_true rfl) (Nat.le_of_ble_eq_true rfl) ?_
  refine W.eq (g2 := F0 m 4 ls []) rfl ?_
  refine lv_aload_n hx hb d_D_init_4 rfl (lv_at hl 0 rfl) ?_
  refine lv_bipush (v := 16) hx hb d_D_init_5 (by decide) ?_
  refine va_newa (atype := .long) (ty := .long) (N' := 16) (a0 := (16, .inr (.inl (fun _ => 0)))) hx hb (ht _ k_arr_long) rfl hK hP hD hS hA (fun _ => rfl) (by decide) (by decide) (by decide) (Nat.le_of_ble_eq_true rfl) (Nat.le_of_ble_eq_true rfl) d_D_init_7 (fun q7 cA H hK1 hP hD hS => ?_)
  obtain rfl : cA = G.2.1 := arr_one hK1 3 0 rfl rfl (Or.inl rfl)
  have hP : va_P G.1 classes [(a, .inr (1, [.null, .long 0, .int 0, .int 0, .int 0])), (q7, .inl (G.2.1, 16, .inr (.inl (fun _ => 0))))] H := hP
  have hD : va_D A [(a, .inr (1, [.null, .long 0, .int 0, .int 0, .int 0])), (q7, .inl (G.2.1, 16, .inr (.inl (fun _ => 0))))] := hD
  refine va_putF (D := G.1) (ci := 1) (v := .ref q7) (ty := .array .long) (C := R_D) (T := F_D) (N := 5) hx hb ht in_D t_D tk_D n_D hown hK hP hD hS 0 rfl rfl 0 (by decide) (ht _ kf_D_9) (fun _ h9 => h9) rfl hin rfl (by decide +kernel) rfl rfl (Nat.le_of_ble_eq_true rfl) d_D_init_9 (fun H locs hP hD hS => ?_)
  have hP : va_P G.1 classes [(a, .inr (1, [.ref q7, .long 0, .int 0, .int 0, .int 0])), (q7, .inl (G.2.1, 16, .inr (.inl (fun _ => 0))))] H := hP
  have hD : va_D A [(a, .inr (1, [.ref q7, .long 0, .int 0, .int 0, .int 0])), (q7, .inl (G.2.1, 16, .inr (.inl (fun _ => 0))))] := hD
  refine lv_aload_n hx hb d_D_init_12 rfl (lv_at hl 0 rfl) ?_
  refine lv_lconst (v := 0) hx hb d_D_init_13 (by decide) ?_
  refine va_put (D := G.1) (ci := 1) (v := .long 0) (ty := .long) (C := R_D) (T := F_D) (N := 5) hx hb ht in_D t_D tk_D n_D hown hK hP hD hS 0 rfl rfl 1 (by decide) (ht _ kf_D_15) (fun _ h9 => h9) rfl (by decide +kernel) rfl rfl (Nat.le_of_ble_eq_true rfl) d_D_init_14 (fun H locs hP hD hS => ?_)
  have hP : va_P G.1 classes [(a, .inr (1, [.ref q7, .long 0, .int 0, .int 0, .int 0])), (q7, .inl (G.2.1, 16, .inr (.inl (fun _ => 0))))] H := hP
  have hD : va_D A [(a, .inr (1, [.ref q7, .long 0, .int 0, .int 0, .int 0])), (q7, .inl (G.2.1, 16, .inr (.inl (fun _ => 0))))] := hD
  refine lv_aload_n hx hb d_D_init_17 rfl (lv_at hl 0 rfl) ?_
  refine lv_iconst (v := (-1)) hx hb d_D_init_18 (by decide) ?_
  refine va_put (D := G.1) (ci := 1) (v := .int (-1)) (ty := .int) (C := R_D) (T := F_D) (N := 5) hx hb ht in_D t_D tk_D n_D hown hK hP hD hS 0 rfl rfl 2 (by decide) (ht _ kf_D_19) (fun _ h9 => h9) rfl (by decide +kernel) rfl rfl (Nat.le_of_ble_eq_true rfl) d_D_init_19 (fun H locs hP hD hS => ?_)
  have hP : va_P G.1 classes [(a, .inr (1, [.ref q7, .long 0, .int (-1), .int 0, .int 0])), (q7, .inl (G.2.1, 16, .inr (.inl (fun _ => 0))))] H := hP
  have hD : va_D A [(a, .inr (1, [.ref q7, .long 0, .int (-1), .int 0, .int 0])), (q7, .inl (G.2.1, 16, .inr (.inl (fun _ => 0))))] := hD
  refine lv_aload_n hx hb d_D_init_22 rfl (lv_at hl 0 rfl) ?_
  refine lv_iconst (v := 0) hx hb d_D_init_23 (by decide) ?_
  refine va_put (D := G.1) (ci := 1) (v := .int 0) (ty := .int) (C := R_D) (T := F_D) (N := 5) hx hb ht in_D t_D tk_D n_D hown hK hP hD hS 0 rfl rfl 3 (by decide) (ht _ kf_D_23) (fun _ h9 => h9) rfl (by decide +kernel) rfl rfl (Nat.le_of_ble_eq_true rfl) d_D_init_24 (fun H locs hP hD hS => ?_)
  have hP : va_P G.1 classes [(a, .inr (1, [.ref q7, .long 0, .int (-1), .int 0, .int 0])), (q7, .inl (G.2.1, 16, .inr (.inl (fun _ => 0))))] H := hP
  have hD : va_D A [(a, .inr (1, [.ref q7, .long 0, .int (-1), .int 0, .int 0])), (q7, .inl (G.2.1, 16, .inr (.inl (fun _ => 0))))] := hD
  refine lv_aload_n hx hb d_D_init_27 rfl (lv_at hl 0 rfl) ?_
  refine lv_iconst (v := 0) hx hb d_D_init_28 (by decide) ?_
  refine va_put (D := G.1) (ci := 1) (v := .int 0) (ty := .int) (C := R_D) (T := F_D) (N := 5) hx hb ht in_D t_D tk_D n_D hown hK hP hD hS 0 rfl rfl 4 (by decide) (ht _ kf_D_26) (fun _ h9 => h9) rfl (by decide +kernel) rfl rfl (Nat.le_of_ble_eq_true rfl) d_D_init_29 (fun H locs hP hD hS => ?_)
  have hP : va_P G.1 classes [(a, .inr (1, [.ref q7, .long 0, .int (-1), .int 0, .int 0])), (q7, .inl (G.2.1, 16, .inr (.inl (fun _ => 0))))] H := hP
  have hD : va_D A [(a, .inr (1, [.ref q7, .long 0, .int (-1), .int 0, .int 0])), (q7, .inl (G.2.1, 16, .inr (.inl (fun _ => 0))))] := hD
  refine W.widen (k := 1) (n := 16) (Nat.le_of_ble_eq_true rfl) (Nat.le_of_ble_eq_true rfl) ?_
  exact W.vret hx hb hr (fun t h9 _ => ⟨⟨q7, rfl, trivial, by rw [h9]; exact hP.sub [0, 1] rfl, hD.sub [0, 1] (by decide) rfl⟩, hS.F h9⟩) hS.2.2 d_D_init_32
set_option maxHeartbeats 4000000 in
set_option maxRecDepth 100000 in
theorem c_V_init (l : Launch) (G : GT) (H : Heap) (a : Nat) (hP : va_P G.1 classes [(a, .inr (2, [.null, .null, .int 0]))] H) (hD0 : va_D (fun _ => True) [(a, .inr (2, [.null, .null, .int 0]))]) : Met l y_V_init (Cond.code y_V_init b_V_init 1 none :: TG) ({ frames := 1, cells := 2, slots := 200, locals := 12 }) (PC G H [.ref a]) (QN G (fun z : Nat × Nat => [(a, .inr (2, [.ref z.1, .ref z.2, .int (nI 0)])), (z.1, .inl (G.2.2.1, 100, .inl (fun _ => 0))), (z.2, .inl (G.2.2.2, 100, .inl (fun _ => 0)))]) (va_A [(a, .inr (2, [.null, .null, .int 0]))] H.size)) 2 200 (va_A [(a, .inr (2, [.null, .null, .int 0]))] H.size) := by
  refine Met.ofW (cc := b_V_init) (maxL := 1) (ret := none) (by decide) rfl ?_
  intro p e s m args below meth c s₁ B hml hv
  obtain ⟨rfl, hH, hKN⟩ := hv
  subst hH
  have hx := B.exec
  have hb := B.bytes
  have hr := B.returns
  have hts := atoms_spec (ws := (Cond.code y_V_init b_V_init 1 none :: TG)) B.pre
  have ht : ∀ w ∈ TG, w.before _ s = true := fun w h => hts w (List.mem_cons_of_mem _ h)
  have hown : s.vm.findClass R_V = some m.cls := findClass_of_methodNamed B.named
  have hlocks := B.notSynchronized
  have hK := hKN.1
  have hl := lv_entry ([.ref a]) (n := 1) (Nat.le_of_ble_eq_true rfl)
  rw [lg_entry_eq]
  generalize (lg_sl ([.ref a]) ++ List.replicate (1 - (lg_sl ([.ref a])).length) Slot.unset).toArray = ls at hl ⊢
  have hl : lv_has ls 1 [(0, .ref a)] := hl
  have hin : meth.name = "<init>" := (name_of_methodNamed B.named B.method).1
  have hD := hD0.self (sz := s.heap.size)
  generalize hAe : va_A [(a, .inr (2, [.null, .null, .int 0]))] s.heap.size = A at hD ⊢
  have hA : ∀ q : Nat, s.heap.size ≤ q → A q := fun q h => by rw [← hAe]; exact Or.inr h
  have hS : va_S A s.heap s.heap [] := va_S.rf
  refine lv_aload_n hx hb d_V_init_0 rfl (lv_at hl 0 rfl) ?_
  refine W.objInit hx hb hown (ht _ km_V_3) (ht _ k_objI) (ht _ k_objC) rfl (by rw [hml]; exact hl.1) rfl d_V_init_1 (Nat.le_of_ble_eq_true rfl) (Nat.le_of_ble_eq_true rfl) ?_
  refine W.eq (g2 := F0 m 4 ls []) rfl ?_
  refine lv_aload_n hx hb d_V_init_4 rfl (lv_at hl 0 rfl) ?_
  refine lv_bipush (v := 100) hx hb d_V_init_5 (by decide) ?_
  refine va_newa (atype := .int) (ty := .int) (N' := 100) (a0 := (100, .inl (fun _ => 0))) hx hb (ht _ k_arr_int) rfl hK hP hD hS hA (fun _ => rfl) (by decide) (by decide) (by decide) (Nat.le_of_ble_eq_true rfl) (Nat.le_of_ble_eq_true rfl) d_V_init_7 (fun q7 cA H hK1 hP hD hS => ?_)
  obtain rfl : cA = G.2.2.1 := arr_one hK1 3 1 rfl rfl (Or.inr (Or.inl rfl))
  have hP : va_P G.1 classes [(a, .inr (2, [.null, .null, .int 0])), (q7, .inl (G.2.2.1, 100, .inl (fun _ => 0)))] H := hP
  have hD : va_D A [(a, .inr (2, [.null, .null, .int 0])), (q7, .inl (G.2.2.1, 100, .inl (fun _ => 0)))] := hD
  refine va_putF (D := G.1) (ci := 2) (v := .ref q7) (ty := .array .int) (C := R_V) (T := F_V) (N := 3) hx hb ht in_V t_V tk_V n_V hown hK hP hD hS 0 rfl rfl 0 (by decide) (ht _ kf_V_9) (fun _ h9 => h9) rfl hin rfl (by decide +kernel) rfl rfl (Nat.le_of_ble_eq_true rfl) d_V_init_9 (fun H locs hP hD hS => ?_)
  have hP : va_P G.1 classes [(a, .inr (2, [.ref q7, .null, .int 0])), (q7, .inl (G.2.2.1, 100, .inl (fun _ => 0)))] H := hP
  have hD : va_D A [(a, .inr (2, [.ref q7, .null, .int 0])), (q7, .inl (G.2.2.1, 100, .inl (fun _ => 0)))] := hD
  refine lv_aload_n hx hb d_V_init_12 rfl (lv_at hl 0 rfl) ?_
  refine lv_bipush (v := 100) hx hb d_V_init_13 (by decide) ?_
  refine va_newa (atype := .boolean) (ty := .boolean) (N' := 100) (a0 := (100, .inl (fun _ => 0))) hx hb (ht _ k_arr_boolean) rfl hK hP hD hS hA (fun _ => rfl) (by decide) (by decide) (by decide) (Nat.le_of_ble_eq_true rfl) (Nat.le_of_ble_eq_true rfl) d_V_init_15 (fun q15 cA H hK1 hP hD hS => ?_)
  obtain rfl : cA = G.2.2.2 := arr_one hK1 3 2 rfl rfl (Or.inr (Or.inr rfl))
  have hP : va_P G.1 classes [(a, .inr (2, [.ref q7, .null, .int 0])), (q7, .inl (G.2.2.1, 100, .inl (fun _ => 0))), (q15, .inl (G.2.2.2, 100, .inl (fun _ => 0)))] H := hP
  have hD : va_D A [(a, .inr (2, [.ref q7, .null, .int 0])), (q7, .inl (G.2.2.1, 100, .inl (fun _ => 0))), (q15, .inl (G.2.2.2, 100, .inl (fun _ => 0)))] := hD
  refine va_putF (D := G.1) (ci := 2) (v := .ref q15) (ty := .array .boolean) (C := R_V) (T := F_V) (N := 3) hx hb ht in_V t_V tk_V n_V hown hK hP hD hS 0 rfl rfl 1 (by decide) (ht _ kf_V_15) (fun _ h9 => h9) rfl hin rfl (by decide +kernel) rfl rfl (Nat.le_of_ble_eq_true rfl) d_V_init_17 (fun H locs hP hD hS => ?_)
  have hP : va_P G.1 classes [(a, .inr (2, [.ref q7, .ref q15, .int 0])), (q7, .inl (G.2.2.1, 100, .inl (fun _ => 0))), (q15, .inl (G.2.2.2, 100, .inl (fun _ => 0)))] H := hP
  have hD : va_D A [(a, .inr (2, [.ref q7, .ref q15, .int 0])), (q7, .inl (G.2.2.1, 100, .inl (fun _ => 0))), (q15, .inl (G.2.2.2, 100, .inl (fun _ => 0)))] := hD
  refine lv_aload_n hx hb d_V_init_20 rfl (lv_at hl 0 rfl) ?_
  refine lv_iconst (v := 0) hx hb d_V_init_21 (by decide) ?_
  refine va_put (D := G.1) (ci := 2) (v := .int 0) (ty := .int) (C := R_V) (T := F_V) (N := 3) hx hb ht in_V t_V tk_V n_V hown hK hP hD hS 0 rfl rfl 2 (by decide) (ht _ kf_V_19) (fun _ h9 => h9) rfl (by decide +kernel) rfl rfl (Nat.le_of_ble_eq_true rfl) d_V_init_22 (fun H locs hP hD hS => ?_)
  have hP : va_P G.1 classes [(a, .inr (2, [.ref q7, .ref q15, .int 0])), (q7, .inl (G.2.2.1, 100, .inl (fun _ => 0))), (q15, .inl (G.2.2.2, 100, .inl (fun _ => 0)))] H := hP
  have hD : va_D A [(a, .inr (2, [.ref q7, .ref q15, .int 0])), (q7, .inl (G.2.2.1, 100, .inl (fun _ => 0))), (q15, .inl (G.2.2.2, 100, .inl (fun _ => 0)))] := hD
  refine W.widen (k := 2) (n := 200) (Nat.le_of_ble_eq_true rfl) (Nat.le_of_ble_eq_true rfl) ?_
  exact W.vret hx hb hr (fun t h9 _ => ⟨⟨(q7, q15), rfl, trivial, by rw [h9]; exact hP.sub [0, 1, 2] rfl, hD.sub [0, 1, 2] (by decide) rfl⟩, hS.F h9⟩) hS.2.2 d_V_init_25
set_option maxHeartbeats 4000000 in
set_option maxRecDepth 100000 in
theorem c_P_init (l : Launch) (G : GT) (H : Heap) (a : Nat) (p1 : Int32) (hP : va_P G.1 classes [(a, .inr (0, [.null, .null, .null, .null, .long 0, .int 0]))] H) (hD0 : va_D (fun _ => True) [(a, .inr (0, [.null, .null, .null, .null, .long 0, .int 0]))]) : Met l y_P_init (Cond.code y_P_init b_P_init 2 none :: TG) ({ frames := 2, cells := 9, slots := 266, locals := 32 }) (PC G H [.ref a, .int p1]) (QN G (fun z : Nat × Nat × Nat × Nat × Nat × Nat × Nat × Nat × Nat => [(a, .inr (0, [.ref z.1, .ref z.2.2.1, .ref z.2.2.2.2.2.1, .ref z.2.2.2.2.2.2.2.1, .long p1.toInt64, .int 0])), (z.1, .inr (1, [.ref z.2.1, .long 0, .int (-1), .int (nI 0), .int 0])), (z.2.1, .inl (G.2.1, 16, .inr (.inl (fun _ => 0)))), (z.2.2.1, .inr (2, [.ref z.2.2.2.1, .ref z.2.2.2.2.1, .int (nI 0)])), (z.2.2.2.1, .inl (G.2.2.1, 100, .inl (fun _ => 0))), (z.2.2.2.2.1, .inl (G.2.2.2, 100, .inl (fun _ => 0))), (z.2.2.2.2.2.1, .inr (1, [.ref z.2.2.2.2.2.2.1, .long 0, .int (-1), .int (nI 0), .int 0])), (z.2.2.2.2.2.2.1, .inl (G.2.1, 16, .inr (.inl (fun _ => 0)))), (z.2.2.2.2.2.2.2.1, .inr (1, [.ref z.2.2.2.2.2.2.2.2, .long 0, .int (-1), .int (nI 0), .int 0])), (z.2.2.2.2.2.2.2.2, .inl (G.2.1, 16, .inr (.inl (fun _ => 0))))]) (va_A [(a, .inr (0, [.null, .null, .null, .null, .long 0, .int 0]))] H.size)) 9 266 (va_A [(a, .inr (0, [.null, .null, .null, .null, .long 0, .int 0]))] H.size) := by
  refine Met.ofW (cc := b_P_init) (maxL := 2) (ret := none) (by decide) rfl ?_
  intro p e s m args below meth c s₁ B hml hv
  obtain ⟨rfl, hH, hKN⟩ := hv
  subst hH
  have hx := B.exec
  have hb := B.bytes
  have hr := B.returns
  have hts := atoms_spec (ws := (Cond.code y_P_init b_P_init 2 none :: TG)) B.pre
  have ht : ∀ w ∈ TG, w.before _ s = true := fun w h => hts w (List.mem_cons_of_mem _ h)
  have hown : s.vm.findClass R_P = some m.cls := findClass_of_methodNamed B.named
  have hlocks := B.notSynchronized
  have hK := hKN.1
  have hl := lv_entry ([.ref a, .int p1]) (n := 2) (Nat.le_of_ble_eq_true rfl)
  rw [lg_entry_eq]
  generalize (lg_sl ([.ref a, .int p1]) ++ List.replicate (2 - (lg_sl ([.ref a, .int p1])).length) Slot.unset).toArray = ls at hl ⊢
  have hl : lv_has ls 2 [(0, .ref a), (1, .int p1)] := hl
  have hin : meth.name = "<init>" := (name_of_methodNamed B.named B.method).1
  have hD := hD0.self (sz := s.heap.size)
  generalize hAe : va_A [(a, .inr (0, [.null, .null, .null, .null, .long 0, .int 0]))] s.heap.size = A at hD ⊢
  have hA : ∀ q : Nat, s.heap.size ≤ q → A q := fun q h => by rw [← hAe]; exact Or.inr h
  have hS : va_S A s.heap s.heap [] := va_S.rf
  refine lv_aload_n hx hb d_P_init_0 rfl (lv_at hl 0 rfl) ?_
  refine W.objInit hx hb hown (ht _ km_P_1) (ht _ k_objI) (ht _ k_objC) rfl (by rw [hml]; exact hl.1) rfl d_P_init_1 (Nat.le_of_ble_eq_true rfl) (Nat.le_of_ble_eq_true rfl) ?_
  refine W.eq (g2 := F0 m 4 ls []) rfl ?_
  refine lv_aload_n hx hb d_P_init_4 rfl (lv_at hl 0 rfl) ?_
  refine lv_iload_n hx hb d_P_init_5 rfl (lv_at hl 1 rfl) ?_
  refine lv_i2l hx hb d_P_init_6 rfl ?_
  refine va_put (D := G.1) (ci := 0) (v := .long (p1.toInt64)) (ty := .long) (C := R_P) (T := F_P) (N := 6) hx hb ht in_P t_P tk_P n_P hown hK hP hD hS 0 rfl rfl 4 (by decide) (ht _ kf_P_7) (fun _ h9 => h9) rfl (by decide +kernel) rfl rfl (Nat.le_of_ble_eq_true rfl) d_P_init_7 (fun H locs hP hD hS => ?_)
  have hP : va_P G.1 classes [(a, .inr (0, [.null, .null, .null, .null, .long (p1.toInt64), .int 0]))] H := hP
  have hD : va_D A [(a, .inr (0, [.null, .null, .null, .null, .long (p1.toInt64), .int 0]))] := hD
  refine lv_aload_n hx hb d_P_init_10 rfl (lv_at hl 0 rfl) ?_
  refine lv_iconst (v := 0) hx hb d_P_init_11 (by decide) ?_
  refine va_put (D := G.1) (ci := 0) (v := .int 0) (ty := .int) (C := R_P) (T := F_P) (N := 6) hx hb ht in_P t_P tk_P n_P hown hK hP hD hS 0 rfl rfl 5 (by decide) (ht _ kf_P_13) (fun _ h9 => h9) rfl (by decide +kernel) rfl rfl (Nat.le_of_ble_eq_true rfl) d_P_init_12 (fun H locs hP hD hS => ?_)
  have hP : va_P G.1 classes [(a, .inr (0, [.null, .null, .null, .null, .long (p1.toInt64), .int 0]))] H := hP
  have hD : va_D A [(a, .inr (0, [.null, .null, .null, .null, .long (p1.toInt64), .int 0]))] := hD
  refine lv_aload_n hx hb d_P_init_15 rfl (lv_at hl 0 rfl) ?_
  refine va_new (ci := 1) (fs := [.null, .long 0, .int 0, .int 0, .int 0]) (C := R_D) (T := F_D) (N := 5) hx hb ht in_D t_D tk_D hown (ht _ kw_P_17) (ht _ ki_D) (ht _ kz_D) hK hP hD hS hA rfl (fun j hj => by rcases (show j = 0 ∨ j = 1 ∨ j = 2 ∨ j = 3 ∨ j = 4 by omega) with rfl | rfl | rfl | rfl | rfl <;> rfl) (Nat.le_of_ble_eq_true rfl) (Nat.le_of_ble_eq_true rfl) d_P_init_16 (fun o16 H hP hD hS => ?_)
  have hP : va_P G.1 classes [(a, .inr (0, [.null, .null, .null, .null, .long (p1.toInt64), .int 0])), (o16, .inr (1, [.null, .long 0, .int 0, .int 0, .int 0]))] H := hP
  have hD : va_D A [(a, .inr (0, [.null, .null, .null, .null, .long (p1.toInt64), .int 0])), (o16, .inr (1, [.null, .long 0, .int 0, .int 0, .int 0]))] := hD
  refine lv_dup hx hb d_P_init_19 rfl ?_
  refine mu_n (wr := [(a, .inr (0, [.null, .null, .null, .null, .long (p1.toInt64), .int 0]))]) (ru_IN (b := o16) (As := []) (rest := [.ref o16, .ref a]) ⟨hx, hb, hml, hown, ht⟩ hKN (c_D_init l G _ o16 (hP.sub [1] rfl) ((hD.sub (ws' := [(o16, .inr (1, [.null, .long 0, .int 0, .int 0, .int 0]))]) [1] (by decide) rfl).weaken (fun _ _ _ _ => trivial))) kc_P_19 ⟨rfl, rfl⟩ ⟨Nat.le_of_ble_eq_true rfl, Nat.le_of_ble_eq_true rfl⟩ rfl hl.1 rfl (Nat.le_of_ble_eq_true rfl) d_P_init_20 ⟨Nat.le_of_ble_eq_true rfl, Nat.le_of_ble_eq_true rfl⟩) hP hD hS hA [1] [0] rfl rfl (by decide) (by decide) (fun z20 H locs hP hD hS => ?_)
  obtain ⟨q20, e20⟩ : ∃ z, z = z20 := ⟨_, rfl⟩
  rw [← e20] at hP hD
  have hP : va_P G.1 classes [(a, .inr (0, [.null, .null, .null, .null, .long (p1.toInt64), .int 0])), (o16, .inr (1, [.ref q20, .long 0, .int (-1), .int (nI 0), .int 0])), (q20, .inl (G.2.1, 16, .inr (.inl (fun _ => 0))))] H := hP
  have hD : va_D A [(a, .inr (0, [.null, .null, .null, .null, .long (p1.toInt64), .int 0])), (o16, .inr (1, [.ref q20, .long 0, .int (-1), .int (nI 0), .int 0])), (q20, .inl (G.2.1, 16, .inr (.inl (fun _ => 0))))] := hD
  refine va_putF (D := G.1) (ci := 0) (v := .ref o16) (ty := .object "PostDrawer$Drawing") (C := R_P) (T := F_P) (N := 6) hx hb ht in_P t_P tk_P n_P hown hK hP hD hS 0 rfl rfl 0 (by decide) (ht _ kf_P_20) (fun _ h9 => h9) rfl hin rfl (by decide +kernel) rfl rfl (Nat.le_of_ble_eq_true rfl) d_P_init_23 (fun H locs hP hD hS => ?_)
  have hP : va_P G.1 classes [(a, .inr (0, [.ref o16, .null, .null, .null, .long (p1.toInt64), .int 0])), (o16, .inr (1, [.ref q20, .long 0, .int (-1), .int (nI 0), .int 0])), (q20, .inl (G.2.1, 16, .inr (.inl (fun _ => 0))))] H := hP
  have hD : va_D A [(a, .inr (0, [.ref o16, .null, .null, .null, .long (p1.toInt64), .int 0])), (o16, .inr (1, [.ref q20, .long 0, .int (-1), .int (nI 0), .int 0])), (q20, .inl (G.2.1, 16, .inr (.inl (fun _ => 0))))] := hD
  refine lv_aload_n hx hb d_P_init_26 rfl (lv_at hl 0 rfl) ?_
  refine va_new (ci := 1) (fs := [.null, .long 0, .int 0, .int 0, .int 0]) (C := R_D) (T := F_D) (N := 5) hx hb ht in_D t_D tk_D hown (ht _ kw_P_17) (ht _ ki_D) (ht _ kz_D) hK hP hD hS hA rfl (fun j hj => by rcases (show j = 0 ∨ j = 1 ∨ j = 2 ∨ j = 3 ∨ j = 4 by omega) with rfl | rfl | rfl | rfl | rfl <;> rfl) (Nat.le_of_ble_eq_true rfl) (Nat.le_of_ble_eq_true rfl) d_P_init_27 (fun o27 H hP hD hS => ?_)
  have hP : va_P G.1 classes [(a, .inr (0, [.ref o16, .null, .null, .null, .long (p1.toInt64), .int 0])), (o16, .inr (1, [.ref q20, .long 0, .int (-1), .int (nI 0), .int 0])), (q20, .inl (G.2.1, 16, .inr (.inl (fun _ => 0)))), (o27, .inr (1, [.null, .long 0, .int 0, .int 0, .int 0]))] H := hP
  have hD : va_D A [(a, .inr (0, [.ref o16, .null, .null, .null, .long (p1.toInt64), .int 0])), (o16, .inr (1, [.ref q20, .long 0, .int (-1), .int (nI 0), .int 0])), (q20, .inl (G.2.1, 16, .inr (.inl (fun _ => 0)))), (o27, .inr (1, [.null, .long 0, .int 0, .int 0, .int 0]))] := hD
  refine lv_dup hx hb d_P_init_30 rfl ?_
  refine mu_n (wr := [(a, .inr (0, [.ref o16, .null, .null, .null, .long (p1.toInt64), .int 0])), (o16, .inr (1, [.ref q20, .long 0, .int (-1), .int (nI 0), .int 0])), (q20, .inl (G.2.1, 16, .inr (.inl (fun _ => 0))))]) (ru_IN (b := o27) (As := []) (rest := [.ref o27, .ref a]) ⟨hx, hb, hml, hown, ht⟩ hKN (c_D_init l G _ o27 (hP.sub [3] rfl) ((hD.sub (ws' := [(o27, .inr (1, [.null, .long 0, .int 0, .int 0, .int 0]))]) [3] (by decide) rfl).weaken (fun _ _ _ _ => trivial))) kc_P_19 ⟨rfl, rfl⟩ ⟨Nat.le_of_ble_eq_true rfl, Nat.le_of_ble_eq_true rfl⟩ rfl hl.1 rfl (Nat.le_of_ble_eq_true rfl) d_P_init_31 ⟨Nat.le_of_ble_eq_true rfl, Nat.le_of_ble_eq_true rfl⟩) hP hD hS hA [3] [0, 1, 2] rfl rfl (by decide) (by decide) (fun z31 H locs hP hD hS => ?_)
  obtain ⟨q31, e31⟩ : ∃ z, z = z31 := ⟨_, rfl⟩
  rw [← e31] at hP hD
  have hP : va_P G.1 classes [(a, .inr (0, [.ref o16, .null, .null, .null, .long (p1.toInt64), .int 0])), (o16, .inr (1, [.ref q20, .long 0, .int (-1), .int (nI 0), .int 0])), (q20, .inl (G.2.1, 16, .inr (.inl (fun _ => 0)))), (o27, .inr (1, [.ref q31, .long 0, .int (-1), .int (nI 0), .int 0])), (q31, .inl (G.2.1, 16, .inr (.inl (fun _ => 0))))] H := hP
  have hD : va_D A [(a, .inr (0, [.ref o16, .null, .null, .null, .long (p1.toInt64), .int 0])), (o16, .inr (1, [.ref q20, .long 0, .int (-1), .int (nI 0), .int 0])), (q20, .inl (G.2.1, 16, .inr (.inl (fun _ => 0)))), (o27, .inr (1, [.ref q31, .long 0, .int (-1), .int (nI 0), .int 0])), (q31, .inl (G.2.1, 16, .inr (.inl (fun _ => 0))))] := hD
  refine va_putF (D := G.1) (ci := 0) (v := .ref o27) (ty := .object "PostDrawer$Drawing") (C := R_P) (T := F_P) (N := 6) hx hb ht in_P t_P tk_P n_P hown hK hP hD hS 0 rfl rfl 2 (by decide) (ht _ kf_P_24) (fun _ h9 => h9) rfl hin rfl (by decide +kernel) rfl rfl (Nat.le_of_ble_eq_true rfl) d_P_init_34 (fun H locs hP hD hS => ?_)
  have hP : va_P G.1 classes [(a, .inr (0, [.ref o16, .null, .ref o27, .null, .long (p1.toInt64), .int 0])), (o16, .inr (1, [.ref q20, .long 0, .int (-1), .int (nI 0), .int 0])), (q20, .inl (G.2.1, 16, .inr (.inl (fun _ => 0)))), (o27, .inr (1, [.ref q31, .long 0, .int (-1), .int (nI 0), .int 0])), (q31, .inl (G.2.1, 16, .inr (.inl (fun _ => 0))))] H := hP
  have hD : va_D A [(a, .inr (0, [.ref o16, .null, .ref o27, .null, .long (p1.toInt64), .int 0])), (o16, .inr (1, [.ref q20, .long 0, .int (-1), .int (nI 0), .int 0])), (q20, .inl (G.2.1, 16, .inr (.inl (fun _ => 0)))), (o27, .inr (1, [.ref q31, .long 0, .int (-1), .int (nI 0), .int 0])), (q31, .inl (G.2.1, 16, .inr (.inl (fun _ => 0))))] := hD
  refine lv_aload_n hx hb d_P_init_37 rfl (lv_at hl 0 rfl) ?_
  refine va_new (ci := 1) (fs := [.null, .long 0, .int 0, .int 0, .int 0]) (C := R_D) (T := F_D) (N := 5) hx hb ht in_D t_D tk_D hown (ht _ kw_P_17) (ht _ ki_D) (ht _ kz_D) hK hP hD hS hA rfl (fun j hj => by rcases (show j = 0 ∨ j = 1 ∨ j = 2 ∨ j = 3 ∨ j = 4 by omega) with rfl | rfl | rfl | rfl | rfl <;> rfl) (Nat.le_of_ble_eq_true rfl) (Nat.le_of_ble_eq_true rfl) d_P_init_38 (fun o38 H hP hD hS => ?_)
  have hP : va_P G.1 classes [(a, .inr (0, [.ref o16, .null, .ref o27, .null, .long (p1.toInt64), .int 0])), (o16, .inr (1, [.ref q20, .long 0, .int (-1), .int (nI 0), .int 0])), (q20, .inl (G.2.1, 16, .inr (.inl (fun _ => 0)))), (o27, .inr (1, [.ref q31, .long 0, .int (-1), .int (nI 0), .int 0])), (q31, .inl (G.2.1, 16, .inr (.inl (fun _ => 0)))), (o38, .inr (1, [.null, .long 0, .int 0, .int 0, .int 0]))] H := hP
  have hD : va_D A [(a, .inr (0, [.ref o16, .null, .ref o27, .null, .long (p1.toInt64), .int 0])), (o16, .inr (1, [.ref q20, .long 0, .int (-1), .int (nI 0), .int 0])), (q20, .inl (G.2.1, 16, .inr (.inl (fun _ => 0)))), (o27, .inr (1, [.ref q31, .long 0, .int (-1), .int (nI 0), .int 0])), (q31, .inl (G.2.1, 16, .inr (.inl (fun _ => 0)))), (o38, .inr (1, [.null, .long 0, .int 0, .int 0, .int 0]))] := hD
  refine lv_dup hx hb d_P_init_41 rfl ?_
  refine mu_n (wr := [(a, .inr (0, [.ref o16, .null, .ref o27, .null, .long (p1.toInt64), .int 0])), (o16, .inr (1, [.ref q20, .long 0, .int (-1), .int (nI 0), .int 0])), (q20, .inl (G.2.1, 16, .inr (.inl (fun _ => 0)))), (o27, .inr (1, [.ref q31, .long 0, .int (-1), .int (nI 0), .int 0])), (q31, .inl (G.2.1, 16, .inr (.inl (fun _ => 0))))]) (ru_IN (b := o38) (As := []) (rest := [.ref o38, .ref a]) ⟨hx, hb, hml, hown, ht⟩ hKN (c_D_init l G _ o38 (hP.sub [5] rfl) ((hD.sub (ws' := [(o38, .inr (1, [.null, .long 0, .int 0, .int 0, .int 0]))]) [5] (by decide) rfl).weaken (fun _ _ _ _ => trivial))) kc_P_19 ⟨rfl, rfl⟩ ⟨Nat.le_of_ble_eq_true rfl, Nat.le_of_ble_eq_true rfl⟩ rfl hl.1 rfl (Nat.le_of_ble_eq_true rfl) d_P_init_42 ⟨Nat.le_of_ble_eq_true rfl, Nat.le_of_ble_eq_true rfl⟩) hP hD hS hA [5] [0, 1, 2, 3, 4] rfl rfl (by decide) (by decide) (fun z42 H locs hP hD hS => ?_)
  obtain ⟨q42, e42⟩ : ∃ z, z = z42 := ⟨_, rfl⟩
  rw [← e42] at hP hD
  have hP : va_P G.1 classes [(a, .inr (0, [.ref o16, .null, .ref o27, .null, .long (p1.toInt64), .int 0])), (o16, .inr (1, [.ref q20, .long 0, .int (-1), .int (nI 0), .int 0])), (q20, .inl (G.2.1, 16, .inr (.inl (fun _ => 0)))), (o27, .inr (1, [.ref q31, .long 0, .int (-1), .int (nI 0), .int 0])), (q31, .inl (G.2.1, 16, .inr (.inl (fun _ => 0)))), (o38, .inr (1, [.ref q42, .long 0, .int (-1), .int (nI 0), .int 0])), (q42, .inl (G.2.1, 16, .inr (.inl (fun _ => 0))))] H := hP
  have hD : va_D A [(a, .inr (0, [.ref o16, .null, .ref o27, .null, .long (p1.toInt64), .int 0])), (o16, .inr (1, [.ref q20, .long 0, .int (-1), .int (nI 0), .int 0])), (q20, .inl (G.2.1, 16, .inr (.inl (fun _ => 0)))), (o27, .inr (1, [.ref q31, .long 0, .int (-1), .int (nI 0), .int 0])), (q31, .inl (G.2.1, 16, .inr (.inl (fun _ => 0)))), (o38, .inr (1, [.ref q42, .long 0, .int (-1), .int (nI 0), .int 0])), (q42, .inl (G.2.1, 16, .inr (.inl (fun _ => 0))))] := hD
  refine va_putF (D := G.1) (ci := 0) (v := .ref o38) (ty := .object "PostDrawer$Drawing") (C := R_P) (T := F_P) (N := 6) hx hb ht in_P t_P tk_P n_P hown hK hP hD hS 0 rfl rfl 3 (by decide) (ht _ kf_P_27) (fun _ h9 => h9) rfl hin rfl (by decide +kernel) rfl rfl (Nat.le_of_ble_eq_true rfl) d_P_init_45 (fun H locs hP hD hS => ?_)
  have hP : va_P G.1 classes [(a, .inr (0, [.ref o16, .null, .ref o27, .ref o38, .long (p1.toInt64), .int 0])), (o16, .inr (1, [.ref q20, .long 0, .int (-1), .int (nI 0), .int 0])), (q20, .inl (G.2.1, 16, .inr (.inl (fun _ => 0)))), (o27, .inr (1, [.ref q31, .long 0, .int (-1), .int (nI 0), .int 0])), (q31, .inl (G.2.1, 16, .inr (.inl (fun _ => 0)))), (o38, .inr (1, [.ref q42, .long 0, .int (-1), .int (nI 0), .int 0])), (q42, .inl (G.2.1, 16, .inr (.inl (fun _ => 0))))] H := hP
  have hD : va_D A [(a, .inr (0, [.ref o16, .null, .ref o27, .ref o38, .long (p1.toInt64), .int 0])), (o16, .inr (1, [.ref q20, .long 0, .int (-1), .int (nI 0), .int 0])), (q20, .inl (G.2.1, 16, .inr (.inl (fun _ => 0)))), (o27, .inr (1, [.ref q31, .long 0, .int (-1), .int (nI 0), .int 0])), (q31, .inl (G.2.1, 16, .inr (.inl (fun _ => 0)))), (o38, .inr (1, [.ref q42, .long 0, .int (-1), .int (nI 0), .int 0])), (q42, .inl (G.2.1, 16, .inr (.inl (fun _ => 0))))] := hD
  refine lv_aload_n hx hb d_P_init_48 rfl (lv_at hl 0 rfl) ?_
  refine va_new (ci := 2) (fs := [.null, .null, .int 0]) (C := R_V) (T := F_V) (N := 3) hx hb ht in_V t_V tk_V hown (ht _ kw_P_30) (ht _ ki_V) (ht _ kz_V) hK hP hD hS hA rfl (fun j hj => by rcases (show j = 0 ∨ j = 1 ∨ j = 2 by omega) with rfl | rfl | rfl <;> rfl) (Nat.le_of_ble_eq_true rfl) (Nat.le_of_ble_eq_true rfl) d_P_init_49 (fun o49 H hP hD hS => ?_)
  have hP : va_P G.1 classes [(a, .inr (0, [.ref o16, .null, .ref o27, .ref o38, .long (p1.toInt64), .int 0])), (o16, .inr (1, [.ref q20, .long 0, .int (-1), .int (nI 0), .int 0])), (q20, .inl (G.2.1, 16, .inr (.inl (fun _ => 0)))), (o27, .inr (1, [.ref q31, .long 0, .int (-1), .int (nI 0), .int 0])), (q31, .inl (G.2.1, 16, .inr (.inl (fun _ => 0)))), (o38, .inr (1, [.ref q42, .long 0, .int (-1), .int (nI 0), .int 0])), (q42, .inl (G.2.1, 16, .inr (.inl (fun _ => 0)))), (o49, .inr (2, [.null, .null, .int 0]))] H := hP
  have hD : va_D A [(a, .inr (0, [.ref o16, .null, .ref o27, .ref o38, .long (p1.toInt64), .int 0])), (o16, .inr (1, [.ref q20, .long 0, .int (-1), .int (nI 0), .int 0])), (q20, .inl (G.2.1, 16, .inr (.inl (fun _ => 0)))), (o27, .inr (1, [.ref q31, .long 0, .int (-1), .int (nI 0), .int 0])), (q31, .inl (G.2.1, 16, .inr (.inl (fun _ => 0)))), (o38, .inr (1, [.ref q42, .long 0, .int (-1), .int (nI 0), .int 0])), (q42, .inl (G.2.1, 16, .inr (.inl (fun _ => 0)))), (o49, .inr (2, [.null, .null, .int 0]))] := hD
  refine lv_dup hx hb d_P_init_52 rfl ?_
  refine mu_n (wr := [(a, .inr (0, [.ref o16, .null, .ref o27, .ref o38, .long (p1.toInt64), .int 0])), (o16, .inr (1, [.ref q20, .long 0, .int (-1), .int (nI 0), .int 0])), (q20, .inl (G.2.1, 16, .inr (.inl (fun _ => 0)))), (o27, .inr (1, [.ref q31, .long 0, .int (-1), .int (nI 0), .int 0])), (q31, .inl (G.2.1, 16, .inr (.inl (fun _ => 0)))), (o38, .inr (1, [.ref q42, .long 0, .int (-1), .int (nI 0), .int 0])), (q42, .inl (G.2.1, 16, .inr (.inl (fun _ => 0))))]) (ru_IN (b := o49) (As := []) (rest := [.ref o49, .ref a]) ⟨hx, hb, hml, hown, ht⟩ hKN (c_V_init l G _ o49 (hP.sub [7] rfl) ((hD.sub (ws' := [(o49, .inr (2, [.null, .null, .int 0]))]) [7] (by decide) rfl).weaken (fun _ _ _ _ => trivial))) kc_P_32 ⟨rfl, rfl⟩ ⟨Nat.le_of_ble_eq_true rfl, Nat.le_of_ble_eq_true rfl⟩ rfl hl.1 rfl (Nat.le_of_ble_eq_true rfl) d_P_init_53 ⟨Nat.le_of_ble_eq_true rfl, Nat.le_of_ble_eq_true rfl⟩) hP hD hS hA [7] [0, 1, 2, 3, 4, 5, 6] rfl rfl (by decide) (by decide) (fun z53 H locs hP hD hS => ?_)
  obtain ⟨q53a, q53b⟩ := z53
  have hP : va_P G.1 classes [(a, .inr (0, [.ref o16, .null, .ref o27, .ref o38, .long (p1.toInt64), .int 0])), (o16, .inr (1, [.ref q20, .long 0, .int (-1), .int (nI 0), .int 0])), (q20, .inl (G.2.1, 16, .inr (.inl (fun _ => 0)))), (o27, .inr (1, [.ref q31, .long 0, .int (-1), .int (nI 0), .int 0])), (q31, .inl (G.2.1, 16, .inr (.inl (fun _ => 0)))), (o38, .inr (1, [.ref q42, .long 0, .int (-1), .int (nI 0), .int 0])), (q42, .inl (G.2.1, 16, .inr (.inl (fun _ => 0)))), (o49, .inr (2, [.ref q53a, .ref q53b, .int (nI 0)])), (q53a, .inl (G.2.2.1, 100, .inl (fun _ => 0))), (q53b, .inl (G.2.2.2, 100, .inl (fun _ => 0)))] H := hP
  have hD : va_D A [(a, .inr (0, [.ref o16, .null, .ref o27, .ref o38, .long (p1.toInt64), .int 0])), (o16, .inr (1, [.ref q20, .long 0, .int (-1), .int (nI 0), .int 0])), (q20, .inl (G.2.1, 16, .inr (.inl (fun _ => 0)))), (o27, .inr (1, [.ref q31, .long 0, .int (-1), .int (nI 0), .int 0])), (q31, .inl (G.2.1, 16, .inr (.inl (fun _ => 0)))), (o38, .inr (1, [.ref q42, .long 0, .int (-1), .int (nI 0), .int 0])), (q42, .inl (G.2.1, 16, .inr (.inl (fun _ => 0)))), (o49, .inr (2, [.ref q53a, .ref q53b, .int (nI 0)])), (q53a, .inl (G.2.2.1, 100, .inl (fun _ => 0))), (q53b, .inl (G.2.2.2, 100, .inl (fun _ => 0)))] := hD
  refine va_putF (D := G.1) (ci := 0) (v := .ref o49) (ty := .object "PostDrawer$Verdicts") (C := R_P) (T := F_P) (N := 6) hx hb ht in_P t_P tk_P n_P hown hK hP hD hS 0 rfl rfl 1 (by decide) (ht _ kf_P_33) (fun _ h9 => h9) rfl hin rfl (by decide +kernel) rfl rfl (Nat.le_of_ble_eq_true rfl) d_P_init_56 (fun H locs hP hD hS => ?_)
  have hP : va_P G.1 classes [(a, .inr (0, [.ref o16, .ref o49, .ref o27, .ref o38, .long (p1.toInt64), .int 0])), (o16, .inr (1, [.ref q20, .long 0, .int (-1), .int (nI 0), .int 0])), (q20, .inl (G.2.1, 16, .inr (.inl (fun _ => 0)))), (o27, .inr (1, [.ref q31, .long 0, .int (-1), .int (nI 0), .int 0])), (q31, .inl (G.2.1, 16, .inr (.inl (fun _ => 0)))), (o38, .inr (1, [.ref q42, .long 0, .int (-1), .int (nI 0), .int 0])), (q42, .inl (G.2.1, 16, .inr (.inl (fun _ => 0)))), (o49, .inr (2, [.ref q53a, .ref q53b, .int (nI 0)])), (q53a, .inl (G.2.2.1, 100, .inl (fun _ => 0))), (q53b, .inl (G.2.2.2, 100, .inl (fun _ => 0)))] H := hP
  have hD : va_D A [(a, .inr (0, [.ref o16, .ref o49, .ref o27, .ref o38, .long (p1.toInt64), .int 0])), (o16, .inr (1, [.ref q20, .long 0, .int (-1), .int (nI 0), .int 0])), (q20, .inl (G.2.1, 16, .inr (.inl (fun _ => 0)))), (o27, .inr (1, [.ref q31, .long 0, .int (-1), .int (nI 0), .int 0])), (q31, .inl (G.2.1, 16, .inr (.inl (fun _ => 0)))), (o38, .inr (1, [.ref q42, .long 0, .int (-1), .int (nI 0), .int 0])), (q42, .inl (G.2.1, 16, .inr (.inl (fun _ => 0)))), (o49, .inr (2, [.ref q53a, .ref q53b, .int (nI 0)])), (q53a, .inl (G.2.2.1, 100, .inl (fun _ => 0))), (q53b, .inl (G.2.2.2, 100, .inl (fun _ => 0)))] := hD
  refine W.widen (k := 9) (n := 266) (Nat.le_of_ble_eq_true rfl) (Nat.le_of_ble_eq_true rfl) ?_
  exact W.vret hx hb hr (fun t h9 _ => ⟨⟨(o16, q20, o49, q53a, q53b, o27, q31, o38, q42), rfl, trivial, by rw [h9]; exact hP.sub [0, 1, 2, 7, 8, 9, 3, 4, 5, 6] rfl, hD.sub [0, 1, 2, 7, 8, 9, 3, 4, 5, 6] (by decide) rfl⟩, hS.F h9⟩) hS.2.2 d_P_init_59
end
section
theorem hsp01 (n : Nat) (fb : Int32) (f : Nat → Int64) (n2 : Nat) (fb2 : Int32) (f2 : Nat → Int64) : narrow .boolean (.int (hsp n fb f n2 fb2 f2)) = .int (hsp n fb f n2 fb2 f2) := by
  unfold hsp
  split
  · split
    · rfl
    · rfl
  · rfl
set_option maxHeartbeats 4000000 in
set_option maxRecDepth 100000 in
theorem c_P_same_no (l : Launch) (G : GT) (H : Heap) (a : Nat) (d1 : Nat) (d2 : Nat) (v1 : Nat) (v2 : Nat) (v3 : Nat) (o1 : Nat) (t1 : Nat) (sd : Int64) (k : Int32) (n : Nat) (fb : Int32) (f : Nat → Int64) (g : Nat → Int32) (h : Nat → Int32) (q : Nat) (ns : Int64) (lb : Int32) (s1 : Int64) (p1 : Int32) (p2 : Int32) (hP : va_P G.1 classes [(a, .inr (0, [.ref d1, .ref v1, .ref o1, .ref t1, .long ns, .int lb])), (d1, .inr (1, [.ref d2, .long sd, .int k, .int (nI n), .int fb])), (d2, .inl (G.2.1, 16, .inr (.inl f))), (v1, .inr (2, [.ref v2, .ref v3, .int (nI q)])), (v2, .inl (G.2.2.1, 100, .inl g)), (v3, .inl (G.2.2.2, 100, .inl h))] H) (hn : n ≤ 16) (hq : q ≤ 100) (hdr : fn_P_isDrawable p1 p2 = 0) : Met l y_P_same (Cond.code y_P_same b_P_same 5 (some .boolean) :: TG) ({ frames := 1, cells := 0, slots := 0, locals := 21 }) (PC G H [.ref a, .long s1, .int p1, .int p2]) (QcRead (0)) 0 0 (fun _ => False) := by
  refine Met.ofW (cc := b_P_same) (maxL := 5) (ret := (some .boolean)) (by decide) rfl ?_
  intro p e s m args below meth c s₁ B hml hv
  obtain ⟨rfl, hH, hKN⟩ := hv
  subst hH
  have hx := B.exec
  have hb := B.bytes
  have hr := B.returns
  have hts := atoms_spec (ws := (Cond.code y_P_same b_P_same 5 (some .boolean) :: TG)) B.pre
  have ht : ∀ w ∈ TG, w.before _ s = true := fun w h => hts w (List.mem_cons_of_mem _ h)
  have hown : s.vm.findClass R_P = some m.cls := findClass_of_methodNamed B.named
  have hlocks := B.notSynchronized
  have hK := hKN.1
  have hl := lv_entry ([.ref a, .long s1, .int p1, .int p2]) (n := 5) (Nat.le_of_ble_eq_true rfl)
  rw [lg_entry_eq]
  generalize (lg_sl ([.ref a, .long s1, .int p1, .int p2]) ++ List.replicate (5 - (lg_sl ([.ref a, .long s1, .int p1, .int p2])).length) Slot.unset).toArray = ls at hl ⊢
  have hl : lv_has ls 5 [(0, .ref a), (1, .long s1), (3, .int p1), (4, .int p2)] := hl
  refine lv_iload_n hx hb d_P_same_0 rfl (lv_at hl 2 rfl) ?_
  refine lv_iload hx hb d_P_same_1 (lv_at hl 3 rfl) ?_
  refine pr_i (ru_S (As := [.int p1, .int p2]) (rest := []) ⟨hx, hb, hml, hown, ht⟩ hKN (c_P_isDrawable l G _ p1 p2) kc_P_37 ⟨rfl, rfl⟩ ⟨Nat.le_of_ble_eq_true rfl, Nat.le_of_ble_eq_true rfl⟩ rfl hl.1 rfl (Nat.le_of_ble_eq_true rfl) d_P_same_3 ⟨Nat.le_of_ble_eq_true rfl, Nat.le_of_ble_eq_true rfl⟩) ?_
  refine lv_if_ne (tgt := 11) hx hb d_P_same_6 (by decide) (fun c1 => ?_) (fun c1 => ?_)
  · exact absurd hdr c1
  · refine lv_iconst (v := 0) hx hb d_P_same_9 (by decide) ?_
    exact W.zret (v := 0) hx hb hr rfl (fun t h9 _ => ⟨congrArg (fun z => Outcome.returned (some (Value.int z))) rfl, h9⟩) (fun _ h => nomatch h) d_P_same_10
set_option maxHeartbeats 4000000 in
set_option maxRecDepth 100000 in
theorem c_P_same (l : Launch) (G : GT) (H : Heap) (a : Nat) (d1 : Nat) (d2 : Nat) (v1 : Nat) (v2 : Nat) (v3 : Nat) (o1 : Nat) (t1 : Nat) (sd : Int64) (k : Int32) (n : Nat) (fb : Int32) (f : Nat → Int64) (g : Nat → Int32) (h : Nat → Int32) (q : Nat) (ns : Int64) (lb : Int32) (o2 : Nat) (sO : Int64) (kO : Int32) (nO : Nat) (bO : Int32) (fO : Nat → Int64) (t2 : Nat) (sT : Int64) (kT : Int32) (nT : Nat) (bT : Int32) (fT : Nat → Int64) (s1 : Int64) (p1 : Int32) (p2 : Nat) (hP : va_P G.1 classes [(a, .inr (0, [.ref d1, .ref v1, .ref o1, .ref t1, .long ns, .int lb])), (d1, .inr (1, [.ref d2, .long sd, .int k, .int (nI n), .int fb])), (d2, .inl (G.2.1, 16, .inr (.inl f))), (v1, .inr (2, [.ref v2, .ref v3, .int (nI q)])), (v2, .inl (G.2.2.1, 100, .inl g)), (v3, .inl (G.2.2.2, 100, .inl h)), (o1, .inr (1, [.ref o2, .long sO, .int kO, .int (nI nO), .int bO])), (o2, .inl (G.2.1, 16, .inr (.inl fO))), (t1, .inr (1, [.ref t2, .long sT, .int kT, .int (nI nT), .int bT])), (t2, .inl (G.2.1, 16, .inr (.inl fT)))] H) (hD0 : va_D (fun _ => True) [(a, .inr (0, [.ref d1, .ref v1, .ref o1, .ref t1, .long ns, .int lb])), (d1, .inr (1, [.ref d2, .long sd, .int k, .int (nI n), .int fb])), (d2, .inl (G.2.1, 16, .inr (.inl f))), (v1, .inr (2, [.ref v2, .ref v3, .int (nI q)])), (v2, .inl (G.2.2.1, 100, .inl g)), (v3, .inl (G.2.2.2, 100, .inl h)), (o1, .inr (1, [.ref o2, .long sO, .int kO, .int (nI nO), .int bO])), (o2, .inl (G.2.1, 16, .inr (.inl fO))), (t1, .inr (1, [.ref t2, .long sT, .int kT, .int (nI nT), .int bT])), (t2, .inl (G.2.1, 16, .inr (.inl fT)))]) (hn : n ≤ 16) (hq : q ≤ 100) (hnO : nO ≤ 16) (hnT : nT ≤ 16) (hdr : ¬ fn_P_isDrawable p1 (nI p2) = 0) (hp2 : p2 < 16) : Met l y_P_same (Cond.code y_P_same b_P_same 5 (some .boolean) :: TG) ({ frames := 5, cells := 0, slots := 0, locals := 117 }) (PC G H [.ref a, .long s1, .int p1, .int (nI p2)]) (QMi G (hsp (p2 + 1) (fbN p1 (p2 + 1) (fl ns p1 fO (p2 + 1))) (fl ns p1 fO (p2 + 1)) (p2 + 1) (fbN p1 (p2 + 1) (fl s1 p1 fT (p2 + 1))) (fl s1 p1 fT (p2 + 1))) [(a, .inr (0, [.ref d1, .ref v1, .ref o1, .ref t1, .long ns, .int lb])), (d1, .inr (1, [.ref d2, .long sd, .int k, .int (nI n), .int fb])), (d2, .inl (G.2.1, 16, .inr (.inl f))), (v1, .inr (2, [.ref v2, .ref v3, .int (nI q)])), (v2, .inl (G.2.2.1, 100, .inl g)), (v3, .inl (G.2.2.2, 100, .inl h)), (o1, .inr (1, [.ref o2, .long ns, .int p1, .int (nI (p2 + 1)), .int (fbN p1 (p2 + 1) (fl ns p1 fO (p2 + 1)))])), (o2, .inl (G.2.1, 16, .inr (.inl (fl ns p1 fO (p2 + 1))))), (t1, .inr (1, [.ref t2, .long s1, .int p1, .int (nI (p2 + 1)), .int (fbN p1 (p2 + 1) (fl s1 p1 fT (p2 + 1)))])), (t2, .inl (G.2.1, 16, .inr (.inl (fl s1 p1 fT (p2 + 1)))))] (va_A [(a, .inr (0, [.ref d1, .ref v1, .ref o1, .ref t1, .long ns, .int lb])), (d1, .inr (1, [.ref d2, .long sd, .int k, .int (nI n), .int fb])), (d2, .inl (G.2.1, 16, .inr (.inl f))), (v1, .inr (2, [.ref v2, .ref v3, .int (nI q)])), (v2, .inl (G.2.2.1, 100, .inl g)), (v3, .inl (G.2.2.2, 100, .inl h)), (o1, .inr (1, [.ref o2, .long sO, .int kO, .int (nI nO), .int bO])), (o2, .inl (G.2.1, 16, .inr (.inl fO))), (t1, .inr (1, [.ref t2, .long sT, .int kT, .int (nI nT), .int bT])), (t2, .inl (G.2.1, 16, .inr (.inl fT)))] H.size)) 0 0 (va_A [(a, .inr (0, [.ref d1, .ref v1, .ref o1, .ref t1, .long ns, .int lb])), (d1, .inr (1, [.ref d2, .long sd, .int k, .int (nI n), .int fb])), (d2, .inl (G.2.1, 16, .inr (.inl f))), (v1, .inr (2, [.ref v2, .ref v3, .int (nI q)])), (v2, .inl (G.2.2.1, 100, .inl g)), (v3, .inl (G.2.2.2, 100, .inl h)), (o1, .inr (1, [.ref o2, .long sO, .int kO, .int (nI nO), .int bO])), (o2, .inl (G.2.1, 16, .inr (.inl fO))), (t1, .inr (1, [.ref t2, .long sT, .int kT, .int (nI nT), .int bT])), (t2, .inl (G.2.1, 16, .inr (.inl fT)))] H.size) := by
  refine Met.ofW (cc := b_P_same) (maxL := 5) (ret := (some .boolean)) (by decide) rfl ?_
  intro p e s m args below meth c s₁ B hml hv
  obtain ⟨rfl, hH, hKN⟩ := hv
  subst hH
  have hx := B.exec
  have hb := B.bytes
  have hr := B.returns
  have hts := atoms_spec (ws := (Cond.code y_P_same b_P_same 5 (some .boolean) :: TG)) B.pre
  have ht : ∀ w ∈ TG, w.before _ s = true := fun w h => hts w (List.mem_cons_of_mem _ h)
  have hown : s.vm.findClass R_P = some m.cls := findClass_of_methodNamed B.named
  have hlocks := B.notSynchronized
  have hK := hKN.1
  have hl := lv_entry ([.ref a, .long s1, .int p1, .int (nI p2)]) (n := 5) (Nat.le_of_ble_eq_true rfl)
  rw [lg_entry_eq]
  generalize (lg_sl ([.ref a, .long s1, .int p1, .int (nI p2)]) ++ List.replicate (5 - (lg_sl ([.ref a, .long s1, .int p1, .int (nI p2)])).length) Slot.unset).toArray = ls at hl ⊢
  have hl : lv_has ls 5 [(0, .ref a), (1, .long s1), (3, .int p1), (4, .int (nI p2))] := hl
  have hD := hD0.self (sz := s.heap.size)
  generalize hAe : va_A [(a, .inr (0, [.ref d1, .ref v1, .ref o1, .ref t1, .long ns, .int lb])), (d1, .inr (1, [.ref d2, .long sd, .int k, .int (nI n), .int fb])), (d2, .inl (G.2.1, 16, .inr (.inl f))), (v1, .inr (2, [.ref v2, .ref v3, .int (nI q)])), (v2, .inl (G.2.2.1, 100, .inl g)), (v3, .inl (G.2.2.2, 100, .inl h)), (o1, .inr (1, [.ref o2, .long sO, .int kO, .int (nI nO), .int bO])), (o2, .inl (G.2.1, 16, .inr (.inl fO))), (t1, .inr (1, [.ref t2, .long sT, .int kT, .int (nI nT), .int bT])), (t2, .inl (G.2.1, 16, .inr (.inl fT)))] s.heap.size = A at hD ⊢
  have hA : ∀ q : Nat, s.heap.size ≤ q → A q := fun q h => by rw [← hAe]; exact Or.inr h
  have hS : va_S A s.heap s.heap [] := va_S.rf
  refine lv_iload_n hx hb d_P_same_0 rfl (lv_at hl 2 rfl) ?_
  refine lv_iload hx hb d_P_same_1 (lv_at hl 3 rfl) ?_
  refine pr_i (ru_S (As := [.int p1, .int (nI p2)]) (rest := []) ⟨hx, hb, hml, hown, ht⟩ hKN (c_P_isDrawable l G _ p1 (nI p2)) kc_P_37 ⟨rfl, rfl⟩ ⟨Nat.le_of_ble_eq_true rfl, Nat.le_of_ble_eq_true rfl⟩ rfl hl.1 rfl (Nat.le_of_ble_eq_true rfl) d_P_same_3 ⟨Nat.le_of_ble_eq_true rfl, Nat.le_of_ble_eq_true rfl⟩) ?_
  refine lv_if_ne (tgt := 11) hx hb d_P_same_6 (by decide) (fun c1 => ?_) (fun c1 => ?_)
  · refine lv_aload_n hx hb d_P_same_11 rfl (lv_at hl 0 rfl) ?_
    refine va_get (D := G.1) (ci := 0) (v := .ref o1) (C := R_P) (T := F_P) (N := 6) hx hb ht in_P hown hK hP 0 rfl rfl 2 (by decide) (ht _ kf_P_24) (fun _ h9 => h9) rfl d_P_same_12 ?_
    refine lv_aload_n hx hb d_P_same_15 rfl (lv_at hl 0 rfl) ?_
    refine va_get (D := G.1) (ci := 0) (v := .long ns) (C := R_P) (T := F_P) (N := 6) hx hb ht in_P hown hK hP 0 rfl rfl 4 (by decide) (ht _ kf_P_7) (fun _ h9 => h9) rfl d_P_same_16 ?_
    refine lv_iload_n hx hb d_P_same_19 rfl (lv_at hl 2 rfl) ?_
    refine lv_iload hx hb d_P_same_20 (lv_at hl 3 rfl) ?_
    refine lv_iconst (v := 1) hx hb d_P_same_22 (by decide) ?_
    refine lv_iadd hx hb d_P_same_23 ?_
    rw [nI_1 p2]
    refine mu_v (wr := [(a, .inr (0, [.ref d1, .ref v1, .ref o1, .ref t1, .long ns, .int lb])), (d1, .inr (1, [.ref d2, .long sd, .int k, .int (nI n), .int fb])), (d2, .inl (G.2.1, 16, .inr (.inl f))), (v1, .inr (2, [.ref v2, .ref v3, .int (nI q)])), (v2, .inl (G.2.2.1, 100, .inl g)), (v3, .inl (G.2.2.2, 100, .inl h)), (t1, .inr (1, [.ref t2, .long sT, .int kT, .int (nI nT), .int bT])), (t2, .inl (G.2.1, 16, .inr (.inl fT)))]) (wn := [(a, .inr (0, [.ref d1, .ref v1, .ref o1, .ref t1, .long ns, .int lb])), (d1, .inr (1, [.ref d2, .long sd, .int k, .int (nI n), .int fb])), (d2, .inl (G.2.1, 16, .inr (.inl f))), (v1, .inr (2, [.ref v2, .ref v3, .int (nI q)])), (v2, .inl (G.2.2.1, 100, .inl g)), (v3, .inl (G.2.2.2, 100, .inl h)), (o1, .inr (1, [.ref o2, .long ns, .int p1, .int (nI (p2 + 1)), .int (fbN p1 (p2 + 1) (fl ns p1 fO (p2 + 1)))])), (o2, .inl (G.2.1, 16, .inr (.inl (fl ns p1 fO (p2 + 1))))), (t1, .inr (1, [.ref t2, .long sT, .int kT, .int (nI nT), .int bT])), (t2, .inl (G.2.1, 16, .inr (.inl fT)))]) (ru_V (b := o1) (As := [.long ns, .int p1, .int (nI (p2 + 1))]) (rest := []) ⟨hx, hb, hml, hown, ht⟩ hKN (c_D_fill l G _ o1 o2 sO kO nO bO fO ns p1 (p2 + 1) (hP.sub [6, 7] rfl) ((hD.sub (ws' := [(o1, .inr (1, [.ref o2, .long sO, .int kO, .int (nI nO), .int bO])), (o2, .inl (G.2.1, 16, .inr (.inl fO)))]) [6, 7] (by decide) rfl).weaken (fun _ _ _ _ => trivial)) hnO (show p2 + 1 ≤ 16 by omega)) kc_P_41 ⟨rfl, rfl⟩ ⟨Nat.le_of_ble_eq_true rfl, Nat.le_of_ble_eq_true rfl⟩ (va_recv hK hP (ci := 1) (q0 := 6) rfl rfl) rfl hl.1 rfl (Nat.le_of_ble_eq_true rfl) d_P_same_24 ⟨Nat.le_of_ble_eq_true rfl, Nat.le_of_ble_eq_true rfl⟩) hP hD hS hA [6, 7] [0, 1, 2, 3, 4, 5, 8, 9] [0, 1, 2, 3, 4, 5, 8, 9, 6, 7] rfl rfl ⟨by decide, by decide, by decide⟩ (by decide) rfl rfl (fun H locs hP hD hS => ?_)
    have hn2 : p2 + 1 ≤ 16 := by omega
    refine lv_aload_n hx hb d_P_same_27 rfl (lv_at hl 0 rfl) ?_
    refine va_get (D := G.1) (ci := 0) (v := .ref t1) (C := R_P) (T := F_P) (N := 6) hx hb ht in_P hown hK hP 0 rfl rfl 3 (by decide) (ht _ kf_P_27) (fun _ h9 => h9) rfl d_P_same_28 ?_
    refine lv_lload_n hx hb d_P_same_31 rfl (lv_at hl 1 rfl) ?_
    refine lv_iload_n hx hb d_P_same_32 rfl (lv_at hl 2 rfl) ?_
    refine lv_iload hx hb d_P_same_33 (lv_at hl 3 rfl) ?_
    refine lv_iconst (v := 1) hx hb d_P_same_35 (by decide) ?_
    refine lv_iadd hx hb d_P_same_36 ?_
    rw [nI_1 p2]
    refine mu_v (wr := [(a, .inr (0, [.ref d1, .ref v1, .ref o1, .ref t1, .long ns, .int lb])), (d1, .inr (1, [.ref d2, .long sd, .int k, .int (nI n), .int fb])), (d2, .inl (G.2.1, 16, .inr (.inl f))), (v1, .inr (2, [.ref v2, .ref v3, .int (nI q)])), (v2, .inl (G.2.2.1, 100, .inl g)), (v3, .inl (G.2.2.2, 100, .inl h)), (o1, .inr (1, [.ref o2, .long ns, .int p1, .int (nI (p2 + 1)), .int (fbN p1 (p2 + 1) (fl ns p1 fO (p2 + 1)))])), (o2, .inl (G.2.1, 16, .inr (.inl (fl ns p1 fO (p2 + 1)))))]) (wn := [(a, .inr (0, [.ref d1, .ref v1, .ref o1, .ref t1, .long ns, .int lb])), (d1, .inr (1, [.ref d2, .long sd, .int k, .int (nI n), .int fb])), (d2, .inl (G.2.1, 16, .inr (.inl f))), (v1, .inr (2, [.ref v2, .ref v3, .int (nI q)])), (v2, .inl (G.2.2.1, 100, .inl g)), (v3, .inl (G.2.2.2, 100, .inl h)), (o1, .inr (1, [.ref o2, .long ns, .int p1, .int (nI (p2 + 1)), .int (fbN p1 (p2 + 1) (fl ns p1 fO (p2 + 1)))])), (o2, .inl (G.2.1, 16, .inr (.inl (fl ns p1 fO (p2 + 1))))), (t1, .inr (1, [.ref t2, .long s1, .int p1, .int (nI (p2 + 1)), .int (fbN p1 (p2 + 1) (fl s1 p1 fT (p2 + 1)))])), (t2, .inl (G.2.1, 16, .inr (.inl (fl s1 p1 fT (p2 + 1)))))]) (ru_V (b := t1) (As := [.long s1, .int p1, .int (nI (p2 + 1))]) (rest := []) ⟨hx, hb, hml, hown, ht⟩ hKN (c_D_fill l G _ t1 t2 sT kT nT bT fT s1 p1 (p2 + 1) (hP.sub [8, 9] rfl) ((hD.sub (ws' := [(t1, .inr (1, [.ref t2, .long sT, .int kT, .int (nI nT), .int bT])), (t2, .inl (G.2.1, 16, .inr (.inl fT)))]) [8, 9] (by decide) rfl).weaken (fun _ _ _ _ => trivial)) hnT (show p2 + 1 ≤ 16 by omega)) kc_P_41 ⟨rfl, rfl⟩ ⟨Nat.le_of_ble_eq_true rfl, Nat.le_of_ble_eq_true rfl⟩ (va_recv hK hP (ci := 1) (q0 := 8) rfl rfl) rfl hl.1 rfl (Nat.le_of_ble_eq_true rfl) d_P_same_37 ⟨Nat.le_of_ble_eq_true rfl, Nat.le_of_ble_eq_true rfl⟩) hP hD hS hA [8, 9] [0, 1, 2, 3, 4, 5, 6, 7] [0, 1, 2, 3, 4, 5, 6, 7, 8, 9] rfl rfl ⟨by decide, by decide, by decide⟩ (by decide) rfl rfl (fun H locs hP hD hS => ?_)
    refine lv_aload_n hx hb d_P_same_40 rfl (lv_at hl 0 rfl) ?_
    refine va_get (D := G.1) (ci := 0) (v := .ref o1) (C := R_P) (T := F_P) (N := 6) hx hb ht in_P hown hK hP 0 rfl rfl 2 (by decide) (ht _ kf_P_24) (fun _ h9 => h9) rfl d_P_same_41 ?_
    refine lv_aload_n hx hb d_P_same_44 rfl (lv_at hl 0 rfl) ?_
    refine va_get (D := G.1) (ci := 0) (v := .ref t1) (C := R_P) (T := F_P) (N := 6) hx hb ht in_P hown hK hP 0 rfl rfl 3 (by decide) (ht _ kf_P_27) (fun _ h9 => h9) rfl d_P_same_45 ?_
    refine pr_i (ru_S (As := [.ref o1, .ref t1]) (rest := []) ⟨hx, hb, hml, hown, ht⟩ hKN (c_P_haveSameParts l G _ o1 o2 ns p1 (p2 + 1) (fbN p1 (p2 + 1) (fl ns p1 fO (p2 + 1))) (fl ns p1 fO (p2 + 1)) t1 t2 s1 p1 (p2 + 1) (fbN p1 (p2 + 1) (fl s1 p1 fT (p2 + 1))) (fl s1 p1 fT (p2 + 1)) (hP.sub [6, 7, 8, 9] rfl) hn2 hn2) kc_P_104 ⟨rfl, rfl⟩ ⟨Nat.le_of_ble_eq_true rfl, Nat.le_of_ble_eq_true rfl⟩ rfl hl.1 rfl (Nat.le_of_ble_eq_true rfl) d_P_same_48 ⟨Nat.le_of_ble_eq_true rfl, Nat.le_of_ble_eq_true rfl⟩) ?_
    exact W.zret (v := (hsp (p2 + 1) (fbN p1 (p2 + 1) (fl ns p1 fO (p2 + 1))) (fl ns p1 fO (p2 + 1)) (p2 + 1) (fbN p1 (p2 + 1) (fl s1 p1 fT (p2 + 1))) (fl s1 p1 fT (p2 + 1)))) hx hb hr (hsp01 _ _ _ _ _ _) (fun t h9 _ => ⟨⟨(hsp (p2 + 1) (fbN p1 (p2 + 1) (fl ns p1 fO (p2 + 1))) (fl ns p1 fO (p2 + 1)) (p2 + 1) (fbN p1 (p2 + 1) (fl s1 p1 fT (p2 + 1))) (fl s1 p1 fT (p2 + 1))), (), rfl, rfl, by show va_P _ _ _ t.heap; rw [h9]; exact hP⟩, hS.F h9⟩) hS.2.2 d_P_same_51
  · exact absurd c1 hdr
end
section
def bcS1 (x : Int32) : Int32 := x - (((x.toUInt32 >>> ((1 : Int32).toUInt32 &&& Int32.toUInt32 31)).toInt32) &&& 1431655765)
def bcS2 (x : Int32) : Int32 := (x &&& 858993459) + (((x.toUInt32 >>> ((2 : Int32).toUInt32 &&& Int32.toUInt32 31)).toInt32) &&& 858993459)
def bcS3 (x : Int32) : Int32 := (x + ((x.toUInt32 >>> ((4 : Int32).toUInt32 &&& Int32.toUInt32 31)).toInt32)) &&& 252645135
def bcS4 (x : Int32) : Int32 := x + ((x.toUInt32 >>> ((8 : Int32).toUInt32 &&& Int32.toUInt32 31)).toInt32)
def bcS5 (x : Int32) : Int32 := x + ((x.toUInt32 >>> ((16 : Int32).toUInt32 &&& Int32.toUInt32 31)).toInt32)
def bcS6 (x : Int32) : Int32 := (x &&& 63)
def fn_J_bitCount (p1 : Int32) : Int32 := bcS6 (bcS5 (bcS4 (bcS3 (bcS2 (bcS1 (p1))))))
set_option maxHeartbeats 4000000 in
set_option maxRecDepth 100000 in
theorem c_J_bitCount (l : Launch) (G : GT) (H : Heap) (p1 : Int32) : Met l y_J_bitCount (Cond.code y_J_bitCount b_J_bitCount 1 (some .int) :: TG) ({ frames := 0, cells := 0, slots := 0, locals := 0 }) (PC G H [.int p1]) (QcRead (fn_J_bitCount p1)) 0 0 (fun _ => False) := by
  refine Met.ofW (cc := b_J_bitCount) (maxL := 1) (ret := (some .int)) (by decide) rfl ?_
  intro p e s m args below meth c s₁ B hml hv
  obtain ⟨rfl, hH, hKN⟩ := hv
  subst hH
  have hx := B.exec
  have hb := B.bytes
  have hr := B.returns
  have hts := atoms_spec (ws := (Cond.code y_J_bitCount b_J_bitCount 1 (some .int) :: TG)) B.pre
  have ht : ∀ w ∈ TG, w.before _ s = true := fun w h => hts w (List.mem_cons_of_mem _ h)
  have hown : s.vm.findClass R_J = some m.cls := findClass_of_methodNamed B.named
  have hlocks := B.notSynchronized
  have hK := hKN.1
  have hl := lv_entry ([.int p1]) (n := 1) (Nat.le_of_ble_eq_true rfl)
  rw [lg_entry_eq]
  generalize (lg_sl ([.int p1]) ++ List.replicate (1 - (lg_sl ([.int p1])).length) Slot.unset).toArray = ls at hl ⊢
  have hl : lv_has ls 1 [(0, .int p1)] := hl
  refine lv_iload_n hx hb d_J_bitCount_0 rfl (lv_at hl 0 rfl) ?_
  refine lv_iload_n hx hb d_J_bitCount_1 rfl (lv_at hl 0 rfl) ?_
  refine lv_iconst (v := 1) hx hb d_J_bitCount_2 (by decide) ?_
  refine lv_iushr hx hb d_J_bitCount_3 rfl ?_
  refine lv_ldcw (v := 1431655765) hx hb hown (ht _ kl_J_265) d_J_bitCount_4 ?_
  refine lv_iand hx hb d_J_bitCount_7 ?_
  refine lv_isub hx hb d_J_bitCount_8 ?_
  refine lv_topi (fun v1 e1 => ?_)
  refine lv_istore_n (lv' := [(0, .int v1)]) hx hb d_J_bitCount_9 rfl hl (by decide) rfl (fun ls hl => ?_)
  refine lv_iload_n hx hb d_J_bitCount_10 rfl (lv_at hl 0 rfl) ?_
  refine lv_ldcw (v := 858993459) hx hb hown (ht _ kl_J_266) d_J_bitCount_11 ?_
  refine lv_iand hx hb d_J_bitCount_14 ?_
  refine lv_iload_n hx hb d_J_bitCount_15 rfl (lv_at hl 0 rfl) ?_
  refine lv_iconst (v := 2) hx hb d_J_bitCount_16 (by decide) ?_
  refine lv_iushr hx hb d_J_bitCount_17 rfl ?_
  refine lv_ldcw (v := 858993459) hx hb hown (ht _ kl_J_266) d_J_bitCount_18 ?_
  refine lv_iand hx hb d_J_bitCount_21 ?_
  refine lv_iadd hx hb d_J_bitCount_22 ?_
  refine lv_topi (fun v2 e2 => ?_)
  refine lv_istore_n (lv' := [(0, .int v2)]) hx hb d_J_bitCount_23 rfl hl (by decide) rfl (fun ls hl => ?_)
  refine lv_iload_n hx hb d_J_bitCount_24 rfl (lv_at hl 0 rfl) ?_
  refine lv_iload_n hx hb d_J_bitCount_25 rfl (lv_at hl 0 rfl) ?_
  refine lv_iconst (v := 4) hx hb d_J_bitCount_26 (by decide) ?_
  refine lv_iushr hx hb d_J_bitCount_27 rfl ?_
  refine lv_iadd hx hb d_J_bitCount_28 ?_
  refine lv_ldcw (v := 252645135) hx hb hown (ht _ kl_J_267) d_J_bitCount_29 ?_
  refine lv_iand hx hb d_J_bitCount_32 ?_
  refine lv_topi (fun v3 e3 => ?_)
  refine lv_istore_n (lv' := [(0, .int v3)]) hx hb d_J_bitCount_33 rfl hl (by decide) rfl (fun ls hl => ?_)
  refine lv_iload_n hx hb d_J_bitCount_34 rfl (lv_at hl 0 rfl) ?_
  refine lv_iload_n hx hb d_J_bitCount_35 rfl (lv_at hl 0 rfl) ?_
  refine lv_bipush (v := 8) hx hb d_J_bitCount_36 (by decide) ?_
  refine lv_iushr hx hb d_J_bitCount_38 rfl ?_
  refine lv_iadd hx hb d_J_bitCount_39 ?_
  refine lv_topi (fun v4 e4 => ?_)
  refine lv_istore_n (lv' := [(0, .int v4)]) hx hb d_J_bitCount_40 rfl hl (by decide) rfl (fun ls hl => ?_)
  refine lv_iload_n hx hb d_J_bitCount_41 rfl (lv_at hl 0 rfl) ?_
  refine lv_iload_n hx hb d_J_bitCount_42 rfl (lv_at hl 0 rfl) ?_
  refine lv_bipush (v := 16) hx hb d_J_bitCount_43 (by decide) ?_
  refine lv_iushr hx hb d_J_bitCount_45 rfl ?_
  refine lv_iadd hx hb d_J_bitCount_46 ?_
  refine lv_topi (fun v5 e5 => ?_)
  refine lv_istore_n (lv' := [(0, .int v5)]) hx hb d_J_bitCount_47 rfl hl (by decide) rfl (fun ls hl => ?_)
  refine lv_iload_n hx hb d_J_bitCount_48 rfl (lv_at hl 0 rfl) ?_
  refine lv_bipush (v := 63) hx hb d_J_bitCount_49 (by decide) ?_
  refine lv_iand hx hb d_J_bitCount_51 ?_
  exact W.iret (v := (v5 &&& 63)) hx hb hr (fun t h9 _ => ⟨congrArg (fun z => Outcome.returned (some (Value.int z))) (by subst e1; subst e2; subst e3; subst e4; subst e5; rfl), h9⟩) (fun _ h => nomatch h) d_J_bitCount_52
set_option maxHeartbeats 4000000 in
set_option maxRecDepth 100000 in
theorem c_P_shorter_no (l : Launch) (G : GT) (H : Heap) (a : Nat) (d1 : Nat) (d2 : Nat) (v1 : Nat) (v2 : Nat) (v3 : Nat) (o1 : Nat) (t1 : Nat) (sd : Int64) (k : Int32) (n : Nat) (fb : Int32) (f : Nat → Int64) (g : Nat → Int32) (h : Nat → Int32) (q : Nat) (ns : Int64) (lb : Int32) (hP : va_P G.1 classes [(a, .inr (0, [.ref d1, .ref v1, .ref o1, .ref t1, .long ns, .int lb])), (d1, .inr (1, [.ref d2, .long sd, .int k, .int (nI n), .int fb])), (d2, .inl (G.2.1, 16, .inr (.inl f))), (v1, .inr (2, [.ref v2, .ref v3, .int (nI q)])), (v2, .inl (G.2.2.1, 100, .inl g)), (v3, .inl (G.2.2.2, 100, .inl h))] H) (hn : n ≤ 16) (hq : q ≤ 100) (hE : ¬ fn_D_isEmpty n = 0) : Met l y_P_shorter (Cond.code y_P_shorter b_P_shorter 1 (some .int) :: TG) ({ frames := 1, cells := 0, slots := 0, locals := 20 }) (PC G H [.ref a]) (QcRead (-13)) 0 0 (fun _ => False) := by
  refine Met.ofW (cc := b_P_shorter) (maxL := 1) (ret := (some .int)) (by decide) rfl ?_
  intro p e s m args below meth c s₁ B hml hv
  obtain ⟨rfl, hH, hKN⟩ := hv
  subst hH
  have hx := B.exec
  have hb := B.bytes
  have hr := B.returns
  have hts := atoms_spec (ws := (Cond.code y_P_shorter b_P_shorter 1 (some .int) :: TG)) B.pre
  have ht : ∀ w ∈ TG, w.before _ s = true := fun w h => hts w (List.mem_cons_of_mem _ h)
  have hown : s.vm.findClass R_P = some m.cls := findClass_of_methodNamed B.named
  have hlocks := B.notSynchronized
  have hK := hKN.1
  have hl := lv_entry ([.ref a]) (n := 1) (Nat.le_of_ble_eq_true rfl)
  rw [lg_entry_eq]
  generalize (lg_sl ([.ref a]) ++ List.replicate (1 - (lg_sl ([.ref a])).length) Slot.unset).toArray = ls at hl ⊢
  have hl : lv_has ls 1 [(0, .ref a)] := hl
  refine lv_aload_n hx hb d_P_shorter_0 rfl (lv_at hl 0 rfl) ?_
  refine va_get (D := G.1) (ci := 0) (v := .ref d1) (C := R_P) (T := F_P) (N := 6) hx hb ht in_P hown hK hP 0 rfl rfl 0 (by decide) (ht _ kf_P_20) (fun _ h9 => h9) rfl d_P_shorter_1 ?_
  refine pr_i (ru_V (b := d1) (As := []) (rest := []) ⟨hx, hb, hml, hown, ht⟩ hKN (c_D_isEmpty l G _ d1 d2 sd k n fb f (hP.sub [1, 2] rfl) hn) kc_P_80 ⟨rfl, rfl⟩ ⟨Nat.le_of_ble_eq_true rfl, Nat.le_of_ble_eq_true rfl⟩ (va_recv hK hP (ci := 1) (q0 := 1) rfl rfl) rfl hl.1 rfl (Nat.le_of_ble_eq_true rfl) d_P_shorter_4 ⟨Nat.le_of_ble_eq_true rfl, Nat.le_of_ble_eq_true rfl⟩) ?_
  refine lv_if_eq (tgt := 13) hx hb d_P_shorter_7 (by decide) (fun c1 => ?_) (fun c1 => ?_)
  · exact absurd c1 hE
  · refine lv_bipush (v := (-13)) hx hb d_P_shorter_10 (by decide) ?_
    exact W.iret (v := (-13)) hx hb hr (fun t h9 _ => ⟨congrArg (fun z => Outcome.returned (some (Value.int z))) rfl, h9⟩) (fun _ h => nomatch h) d_P_shorter_12
def shN (n : Nat) (g h : Nat → Int32) (q : Nat) : Int32 := if fn_V_stayFor g h q (fn_D_allBits n) = 0 then fn_D_allBits n else la g h q 16 (fn_D_allBits n)
set_option maxHeartbeats 4000000 in
set_option maxRecDepth 100000 in
theorem c_P_shorter (l : Launch) (G : GT) (H : Heap) (a : Nat) (d1 : Nat) (d2 : Nat) (v1 : Nat) (v2 : Nat) (v3 : Nat) (o1 : Nat) (t1 : Nat) (sd : Int64) (k : Int32) (n : Nat) (fb : Int32) (f : Nat → Int64) (g : Nat → Int32) (h : Nat → Int32) (q : Nat) (ns : Int64) (lb : Int32) (hP : va_P G.1 classes [(a, .inr (0, [.ref d1, .ref v1, .ref o1, .ref t1, .long ns, .int lb])), (d1, .inr (1, [.ref d2, .long sd, .int k, .int (nI n), .int fb])), (d2, .inl (G.2.1, 16, .inr (.inl f))), (v1, .inr (2, [.ref v2, .ref v3, .int (nI q)])), (v2, .inl (G.2.2.1, 100, .inl g)), (v3, .inl (G.2.2.2, 100, .inl h))] H) (hD0 : va_D (fun _ => True) [(a, .inr (0, [.ref d1, .ref v1, .ref o1, .ref t1, .long ns, .int lb])), (d1, .inr (1, [.ref d2, .long sd, .int k, .int (nI n), .int fb])), (d2, .inl (G.2.1, 16, .inr (.inl f))), (v1, .inr (2, [.ref v2, .ref v3, .int (nI q)])), (v2, .inl (G.2.2.1, 100, .inl g)), (v3, .inl (G.2.2.2, 100, .inl h))]) (hn : n ≤ 16) (hq : q ≤ 100) (hE : fn_D_isEmpty n = 0) : Met l y_P_shorter (Cond.code y_P_shorter b_P_shorter 1 (some .int) :: TG) ({ frames := 5, cells := 0, slots := 0, locals := 109 }) (PC G H [.ref a]) (QMi G (fn_J_bitCount (shN n g h q)) [(a, .inr (0, [.ref d1, .ref v1, .ref o1, .ref t1, .long ns, .int (shN n g h q)])), (d1, .inr (1, [.ref d2, .long sd, .int k, .int (nI n), .int fb])), (d2, .inl (G.2.1, 16, .inr (.inl f))), (v1, .inr (2, [.ref v2, .ref v3, .int (nI q)])), (v2, .inl (G.2.2.1, 100, .inl g)), (v3, .inl (G.2.2.2, 100, .inl h))] (va_A [(a, .inr (0, [.ref d1, .ref v1, .ref o1, .ref t1, .long ns, .int lb])), (d1, .inr (1, [.ref d2, .long sd, .int k, .int (nI n), .int fb])), (d2, .inl (G.2.1, 16, .inr (.inl f))), (v1, .inr (2, [.ref v2, .ref v3, .int (nI q)])), (v2, .inl (G.2.2.1, 100, .inl g)), (v3, .inl (G.2.2.2, 100, .inl h))] H.size)) 0 0 (va_A [(a, .inr (0, [.ref d1, .ref v1, .ref o1, .ref t1, .long ns, .int lb])), (d1, .inr (1, [.ref d2, .long sd, .int k, .int (nI n), .int fb])), (d2, .inl (G.2.1, 16, .inr (.inl f))), (v1, .inr (2, [.ref v2, .ref v3, .int (nI q)])), (v2, .inl (G.2.2.1, 100, .inl g)), (v3, .inl (G.2.2.2, 100, .inl h))] H.size) := by
  refine Met.ofW (cc := b_P_shorter) (maxL := 1) (ret := (some .int)) (by decide) rfl ?_
  intro p e s m args below meth c s₁ B hml hv
  obtain ⟨rfl, hH, hKN⟩ := hv
  subst hH
  have hx := B.exec
  have hb := B.bytes
  have hr := B.returns
  have hts := atoms_spec (ws := (Cond.code y_P_shorter b_P_shorter 1 (some .int) :: TG)) B.pre
  have ht : ∀ w ∈ TG, w.before _ s = true := fun w h => hts w (List.mem_cons_of_mem _ h)
  have hown : s.vm.findClass R_P = some m.cls := findClass_of_methodNamed B.named
  have hlocks := B.notSynchronized
  have hK := hKN.1
  have hl := lv_entry ([.ref a]) (n := 1) (Nat.le_of_ble_eq_true rfl)
  rw [lg_entry_eq]
  generalize (lg_sl ([.ref a]) ++ List.replicate (1 - (lg_sl ([.ref a])).length) Slot.unset).toArray = ls at hl ⊢
  have hl : lv_has ls 1 [(0, .ref a)] := hl
  have hD := hD0.self (sz := s.heap.size)
  generalize hAe : va_A [(a, .inr (0, [.ref d1, .ref v1, .ref o1, .ref t1, .long ns, .int lb])), (d1, .inr (1, [.ref d2, .long sd, .int k, .int (nI n), .int fb])), (d2, .inl (G.2.1, 16, .inr (.inl f))), (v1, .inr (2, [.ref v2, .ref v3, .int (nI q)])), (v2, .inl (G.2.2.1, 100, .inl g)), (v3, .inl (G.2.2.2, 100, .inl h))] s.heap.size = A at hD ⊢
  have hA : ∀ q : Nat, s.heap.size ≤ q → A q := fun q h => by rw [← hAe]; exact Or.inr h
  have hS : va_S A s.heap s.heap [] := va_S.rf
  refine lv_aload_n hx hb d_P_shorter_0 rfl (lv_at hl 0 rfl) ?_
  refine va_get (D := G.1) (ci := 0) (v := .ref d1) (C := R_P) (T := F_P) (N := 6) hx hb ht in_P hown hK hP 0 rfl rfl 0 (by decide) (ht _ kf_P_20) (fun _ h9 => h9) rfl d_P_shorter_1 ?_
  refine pr_i (ru_V (b := d1) (As := []) (rest := []) ⟨hx, hb, hml, hown, ht⟩ hKN (c_D_isEmpty l G _ d1 d2 sd k n fb f (hP.sub [1, 2] rfl) hn) kc_P_80 ⟨rfl, rfl⟩ ⟨Nat.le_of_ble_eq_true rfl, Nat.le_of_ble_eq_true rfl⟩ (va_recv hK hP (ci := 1) (q0 := 1) rfl rfl) rfl hl.1 rfl (Nat.le_of_ble_eq_true rfl) d_P_shorter_4 ⟨Nat.le_of_ble_eq_true rfl, Nat.le_of_ble_eq_true rfl⟩) ?_
  refine lv_if_eq (tgt := 13) hx hb d_P_shorter_7 (by decide) (fun c1 => ?_) (fun c1 => ?_)
  · refine lv_aload_n hx hb d_P_shorter_13 rfl (lv_at hl 0 rfl) ?_
    refine lv_aload_n hx hb d_P_shorter_14 rfl (lv_at hl 0 rfl) ?_
    refine va_get (D := G.1) (ci := 0) (v := .ref d1) (C := R_P) (T := F_P) (N := 6) hx hb ht in_P hown hK hP 0 rfl rfl 0 (by decide) (ht _ kf_P_20) (fun _ h9 => h9) rfl d_P_shorter_15 ?_
    refine pr_i (ru_V (b := d1) (As := []) (rest := [.ref a]) ⟨hx, hb, hml, hown, ht⟩ hKN (c_D_allBits l G _ d1 d2 sd k n fb f (hP.sub [1, 2] rfl) hn) kc_P_45 ⟨rfl, rfl⟩ ⟨Nat.le_of_ble_eq_true rfl, Nat.le_of_ble_eq_true rfl⟩ (va_recv hK hP (ci := 1) (q0 := 1) rfl rfl) rfl hl.1 rfl (Nat.le_of_ble_eq_true rfl) d_P_shorter_18 ⟨Nat.le_of_ble_eq_true rfl, Nat.le_of_ble_eq_true rfl⟩) ?_
    refine va_put (D := G.1) (ci := 0) (v := .int (fn_D_allBits n)) (ty := .int) (C := R_P) (T := F_P) (N := 6) hx hb ht in_P t_P tk_P n_P hown hK hP hD hS 0 rfl rfl 5 (by decide) (ht _ kf_P_13) (fun _ h9 => h9) rfl (by decide +kernel) rfl rfl (Nat.le_of_ble_eq_true rfl) d_P_shorter_21 (fun H locs hP hD hS => ?_)
    have hP : va_P G.1 classes [(a, .inr (0, [.ref d1, .ref v1, .ref o1, .ref t1, .long ns, .int (fn_D_allBits n)])), (d1, .inr (1, [.ref d2, .long sd, .int k, .int (nI n), .int fb])), (d2, .inl (G.2.1, 16, .inr (.inl f))), (v1, .inr (2, [.ref v2, .ref v3, .int (nI q)])), (v2, .inl (G.2.2.1, 100, .inl g)), (v3, .inl (G.2.2.2, 100, .inl h))] H := hP
    have hD : va_D A [(a, .inr (0, [.ref d1, .ref v1, .ref o1, .ref t1, .long ns, .int (fn_D_allBits n)])), (d1, .inr (1, [.ref d2, .long sd, .int k, .int (nI n), .int fb])), (d2, .inl (G.2.1, 16, .inr (.inl f))), (v1, .inr (2, [.ref v2, .ref v3, .int (nI q)])), (v2, .inl (G.2.2.1, 100, .inl g)), (v3, .inl (G.2.2.2, 100, .inl h))] := hD
    refine lv_aload_n hx hb d_P_shorter_24 rfl (lv_at hl 0 rfl) ?_
    refine va_get (D := G.1) (ci := 0) (v := .ref v1) (C := R_P) (T := F_P) (N := 6) hx hb ht in_P hown hK hP 0 rfl rfl 1 (by decide) (ht _ kf_P_33) (fun _ h9 => h9) rfl d_P_shorter_25 ?_
    refine lv_aload_n hx hb d_P_shorter_28 rfl (lv_at hl 0 rfl) ?_
    refine va_get (D := G.1) (ci := 0) (v := .int (fn_D_allBits n)) (C := R_P) (T := F_P) (N := 6) hx hb ht in_P hown hK hP 0 rfl rfl 5 (by decide) (ht _ kf_P_13) (fun _ h9 => h9) rfl d_P_shorter_29 ?_
    refine pr_i (ru_V (b := v1) (As := [.int (fn_D_allBits n)]) (rest := []) ⟨hx, hb, hml, hown, ht⟩ hKN (c_V_stayFor l G _ v1 v2 v3 g h q (fn_D_allBits n) (hP.sub [3, 4, 5] rfl) hq) kc_P_89 ⟨rfl, rfl⟩ ⟨Nat.le_of_ble_eq_true rfl, Nat.le_of_ble_eq_true rfl⟩ (va_recv hK hP (ci := 2) (q0 := 3) rfl rfl) rfl hl.1 rfl (Nat.le_of_ble_eq_true rfl) d_P_shorter_32 ⟨Nat.le_of_ble_eq_true rfl, Nat.le_of_ble_eq_true rfl⟩) ?_
    refine lv_if_eq (tgt := 42) hx hb d_P_shorter_35 (by decide) (fun c2 => ?_) (fun c2 => ?_)
    · refine lv_aload_n hx hb d_P_shorter_42 rfl (lv_at hl 0 rfl) ?_
      refine va_get (D := G.1) (ci := 0) (v := .int (fn_D_allBits n)) (C := R_P) (T := F_P) (N := 6) hx hb ht in_P hown hK hP 0 rfl rfl 5 (by decide) (ht _ kf_P_13) (fun _ h9 => h9) rfl d_P_shorter_43 ?_
      refine pr_i (ru_S (As := [.int (fn_D_allBits n)]) (rest := []) ⟨hx, hb, hml, hown, ht⟩ hKN (c_J_bitCount l G _ (fn_D_allBits n)) kc_P_95 ⟨rfl, rfl⟩ ⟨Nat.le_of_ble_eq_true rfl, Nat.le_of_ble_eq_true rfl⟩ rfl hl.1 rfl (Nat.le_of_ble_eq_true rfl) d_P_shorter_46 ⟨Nat.le_of_ble_eq_true rfl, Nat.le_of_ble_eq_true rfl⟩) ?_
      have e9 : shN n g h q = _ := (by unfold shN; rw [if_pos c2])
      exact W.iret (v := (fn_J_bitCount (fn_D_allBits n))) hx hb hr (fun t h9 _ => ⟨⟨(fn_J_bitCount (fn_D_allBits n)), (), rfl, (by rw [e9]), by show va_P _ _ _ t.heap; rw [h9]; exact (by rw [e9]; exact hP)⟩, hS.F h9⟩) hS.2.2 d_P_shorter_49
    · refine lv_aload_n hx hb d_P_shorter_38 rfl (lv_at hl 0 rfl) ?_
      refine mu_v (wr := []) (wn := [(a, .inr (0, [.ref d1, .ref v1, .ref o1, .ref t1, .long ns, .int (la g h q 16 (fn_D_allBits n))])), (d1, .inr (1, [.ref d2, .long sd, .int k, .int (nI n), .int fb])), (d2, .inl (G.2.1, 16, .inr (.inl f))), (v1, .inr (2, [.ref v2, .ref v3, .int (nI q)])), (v2, .inl (G.2.2.1, 100, .inl g)), (v3, .inl (G.2.2.2, 100, .inl h))]) (ru_V (b := a) (As := []) (rest := []) ⟨hx, hb, hml, hown, ht⟩ hKN (c_P_leaveOutAll l G _ a d1 d2 v1 v2 v3 o1 t1 sd k n fb f g h q ns (fn_D_allBits n) (hP.sub [0, 1, 2, 3, 4, 5] rfl) ((hD.sub (ws' := [(a, .inr (0, [.ref d1, .ref v1, .ref o1, .ref t1, .long ns, .int (fn_D_allBits n)])), (d1, .inr (1, [.ref d2, .long sd, .int k, .int (nI n), .int fb])), (d2, .inl (G.2.1, 16, .inr (.inl f))), (v1, .inr (2, [.ref v2, .ref v3, .int (nI q)])), (v2, .inl (G.2.2.1, 100, .inl g)), (v3, .inl (G.2.2.2, 100, .inl h))]) [0, 1, 2, 3, 4, 5] (by decide) rfl).weaken (fun _ _ _ _ => trivial)) hn hq) kc_P_92 ⟨rfl, rfl⟩ ⟨Nat.le_of_ble_eq_true rfl, Nat.le_of_ble_eq_true rfl⟩ (va_recv hK hP (ci := 0) (q0 := 0) rfl rfl) rfl hl.1 rfl (Nat.le_of_ble_eq_true rfl) d_P_shorter_39 ⟨Nat.le_of_ble_eq_true rfl, Nat.le_of_ble_eq_true rfl⟩) hP hD hS hA [0, 1, 2, 3, 4, 5] [] [0, 1, 2, 3, 4, 5] rfl rfl ⟨by decide, by decide, by decide⟩ (by decide) rfl rfl (fun H locs hP hD hS => ?_)
      refine lv_aload_n hx hb d_P_shorter_42 rfl (lv_at hl 0 rfl) ?_
      refine va_get (D := G.1) (ci := 0) (v := .int (la g h q 16 (fn_D_allBits n))) (C := R_P) (T := F_P) (N := 6) hx hb ht in_P hown hK hP 0 rfl rfl 5 (by decide) (ht _ kf_P_13) (fun _ h9 => h9) rfl d_P_shorter_43 ?_
      refine pr_i (ru_S (As := [.int (la g h q 16 (fn_D_allBits n))]) (rest := []) ⟨hx, hb, hml, hown, ht⟩ hKN (c_J_bitCount l G _ (la g h q 16 (fn_D_allBits n))) kc_P_95 ⟨rfl, rfl⟩ ⟨Nat.le_of_ble_eq_true rfl, Nat.le_of_ble_eq_true rfl⟩ rfl hl.1 rfl (Nat.le_of_ble_eq_true rfl) d_P_shorter_46 ⟨Nat.le_of_ble_eq_true rfl, Nat.le_of_ble_eq_true rfl⟩) ?_
      have e9 : shN n g h q = _ := (by unfold shN; rw [if_neg c2])
      exact W.iret (v := (fn_J_bitCount (la g h q 16 (fn_D_allBits n)))) hx hb hr (fun t h9 _ => ⟨⟨(fn_J_bitCount (la g h q 16 (fn_D_allBits n))), (), rfl, (by rw [e9]), by show va_P _ _ _ t.heap; rw [h9]; exact (by rw [e9]; exact hP)⟩, hS.F h9⟩) hS.2.2 d_P_shorter_49
  · exact absurd hE c1
end
section
def fn_M_in (p1 : Int32) (p2 : Int32) (p3 : Int32) : Int32 := (if p1 < p2 then 0 else (if p3 < p1 then 0 else 1))
set_option maxHeartbeats 4000000 in
set_option maxRecDepth 100000 in
theorem c_M_in (l : Launch) (G : GT) (H : Heap) (p1 : Int32) (p2 : Int32) (p3 : Int32) : Met l y_M_in (Cond.code y_M_in b_M_in 3 (some .boolean) :: TG) ({ frames := 0, cells := 0, slots := 0, locals := 0 }) (PC G H [.int p1, .int p2, .int p3]) (QcRead (fn_M_in p1 p2 p3)) 0 0 (fun _ => False) := by
  refine Met.ofW (cc := b_M_in) (maxL := 3) (ret := (some .boolean)) (by decide) rfl ?_
  intro p e s m args below meth c s₁ B hml hv
  obtain ⟨rfl, hH, hKN⟩ := hv
  subst hH
  have hx := B.exec
  have hb := B.bytes
  have hr := B.returns
  have hts := atoms_spec (ws := (Cond.code y_M_in b_M_in 3 (some .boolean) :: TG)) B.pre
  have ht : ∀ w ∈ TG, w.before _ s = true := fun w h => hts w (List.mem_cons_of_mem _ h)
  have hown : s.vm.findClass R_M = some m.cls := findClass_of_methodNamed B.named
  have hlocks := B.notSynchronized
  have hK := hKN.1
  have hl := lv_entry ([.int p1, .int p2, .int p3]) (n := 3) (Nat.le_of_ble_eq_true rfl)
  rw [lg_entry_eq]
  generalize (lg_sl ([.int p1, .int p2, .int p3]) ++ List.replicate (3 - (lg_sl ([.int p1, .int p2, .int p3])).length) Slot.unset).toArray = ls at hl ⊢
  have hl : lv_has ls 3 [(0, .int p1), (1, .int p2), (2, .int p3)] := hl
  refine lv_iload_n hx hb d_M_in_0 rfl (lv_at hl 0 rfl) ?_
  refine lv_iload_n hx hb d_M_in_1 rfl (lv_at hl 1 rfl) ?_
  refine lv_icmp_lt (tgt := 14) hx hb d_M_in_2 (by decide) (fun c1 => ?_) (fun c1 => ?_)
  · refine lv_iconst (v := 0) hx hb d_M_in_14 (by decide) ?_
    exact W.zret (v := 0) hx hb hr rfl (fun t h9 _ => ⟨congrArg (fun z => Outcome.returned (some (Value.int z))) (by unfold fn_M_in; rw [if_pos c1]), h9⟩) (fun _ h => nomatch h) d_M_in_15
  · refine lv_iload_n hx hb d_M_in_5 rfl (lv_at hl 0 rfl) ?_
    refine lv_iload_n hx hb d_M_in_6 rfl (lv_at hl 2 rfl) ?_
    refine lv_icmp_gt (tgt := 14) hx hb d_M_in_7 (by decide) (fun c2 => ?_) (fun c2 => ?_)
    · refine lv_iconst (v := 0) hx hb d_M_in_14 (by decide) ?_
      exact W.zret (v := 0) hx hb hr rfl (fun t h9 _ => ⟨congrArg (fun z => Outcome.returned (some (Value.int z))) (by unfold fn_M_in; rw [if_neg c1, if_pos c2]), h9⟩) (fun _ h => nomatch h) d_M_in_15
    · refine lv_iconst (v := 1) hx hb d_M_in_10 (by decide) ?_
      refine lv_goto (tgt := 15) hx hb d_M_in_11 (by decide) ?_
      exact W.zret (v := 1) hx hb hr rfl (fun t h9 _ => ⟨congrArg (fun z => Outcome.returned (some (Value.int z))) (by unfold fn_M_in; rw [if_neg c1, if_neg c2]), h9⟩) (fun _ h => nomatch h) d_M_in_15
set_option maxHeartbeats 4000000 in
set_option maxRecDepth 100000 in
theorem c_M_number (l : Launch) (G : GT) (H : Heap) (sd : Int64) (k : Int32) (i : Int32) : Met l y_M_number (Cond.code y_M_number b_M_number 6 (some .long) :: TG) ({ frames := 0, cells := 0, slots := 0, locals := 0 }) (PC G H [.long sd, .int k, .int i]) (QcReadL (zN sd k i)) 0 0 (fun _ => False) := by
  refine Met.ofW (cc := b_M_number) (maxL := 6) (ret := (some .long)) (by decide) rfl ?_
  intro p e s m args below meth c s₁ B hml hv
  obtain ⟨rfl, hH, hKN⟩ := hv
  subst hH
  have hx := B.exec
  have hb := B.bytes
  have hr := B.returns
  have hts := atoms_spec (ws := (Cond.code y_M_number b_M_number 6 (some .long) :: TG)) B.pre
  have ht : ∀ w ∈ TG, w.before _ s = true := fun w h => hts w (List.mem_cons_of_mem _ h)
  have hown : s.vm.findClass R_M = some m.cls := findClass_of_methodNamed B.named
  have hlocks := B.notSynchronized
  have hK := hKN.1
  have hl := lv_entry ([.long sd, .int k, .int i]) (n := 6) (Nat.le_of_ble_eq_true rfl)
  rw [lg_entry_eq]
  generalize (lg_sl ([.long sd, .int k, .int i]) ++ List.replicate (6 - (lg_sl ([.long sd, .int k, .int i])).length) Slot.unset).toArray = ls at hl ⊢
  have hl : lv_has ls 6 [(0, .long sd), (2, .int k), (3, .int i)] := hl
  refine lv_lload_n hx hb d_M_number_0 rfl (lv_at hl 0 rfl) ?_
  refine lv_lconst (v := 1) hx hb d_M_number_1 (by decide) ?_
  refine lv_iload_n hx hb d_M_number_2 rfl (lv_at hl 2 rfl) ?_
  refine lv_i2l hx hb d_M_number_3 rfl ?_
  refine lv_ladd hx hb d_M_number_4 ?_
  refine lv_ldc2 (v := 64) hx hb hown (ht _ kl_M_28) d_M_number_5 ?_
  refine lv_iload_n hx hb d_M_number_8 rfl (lv_at hl 1 rfl) ?_
  refine lv_i2l hx hb d_M_number_9 rfl ?_
  refine lv_lmul hx hb d_M_number_10 ?_
  refine lv_ladd hx hb d_M_number_11 ?_
  refine lv_ldc2 (v := (-7046029254386353131)) hx hb hown (ht _ kl_M_30) d_M_number_12 ?_
  refine lv_lmul hx hb d_M_number_15 ?_
  refine lv_ladd hx hb d_M_number_16 ?_
  refine lv_topl (fun v1 e1 => ?_)
  refine lv_lstore (lv' := [(4, .long v1), (0, .long sd), (2, .int k), (3, .int i)]) hx hb d_M_number_17 hl (by decide) rfl (fun ls hl => ?_)
  refine lv_lload hx hb d_M_number_19 (lv_at hl 0 rfl) ?_
  refine lv_lload hx hb d_M_number_21 (lv_at hl 0 rfl) ?_
  refine lv_bipush (v := 30) hx hb d_M_number_23 (by decide) ?_
  refine lv_lushr hx hb d_M_number_25 rfl ?_
  refine lv_lxor hx hb d_M_number_26 ?_
  refine lv_ldc2 (v := (-4658895280553007687)) hx hb hown (ht _ kl_M_32) d_M_number_27 ?_
  refine lv_lmul hx hb d_M_number_30 ?_
  refine lv_topl (fun v2 e2 => ?_)
  refine lv_lstore (lv' := [(4, .long v2), (0, .long sd), (2, .int k), (3, .int i)]) hx hb d_M_number_31 hl (by decide) rfl (fun ls hl => ?_)
  refine lv_lload hx hb d_M_number_33 (lv_at hl 0 rfl) ?_
  refine lv_lload hx hb d_M_number_35 (lv_at hl 0 rfl) ?_
  refine lv_bipush (v := 27) hx hb d_M_number_37 (by decide) ?_
  refine lv_lushr hx hb d_M_number_39 rfl ?_
  refine lv_lxor hx hb d_M_number_40 ?_
  refine lv_ldc2 (v := (-7723592293110705685)) hx hb hown (ht _ kl_M_34) d_M_number_41 ?_
  refine lv_lmul hx hb d_M_number_44 ?_
  refine lv_topl (fun v3 e3 => ?_)
  refine lv_lstore (lv' := [(4, .long v3), (0, .long sd), (2, .int k), (3, .int i)]) hx hb d_M_number_45 hl (by decide) rfl (fun ls hl => ?_)
  refine lv_lload hx hb d_M_number_47 (lv_at hl 0 rfl) ?_
  refine lv_lload hx hb d_M_number_49 (lv_at hl 0 rfl) ?_
  refine lv_bipush (v := 31) hx hb d_M_number_51 (by decide) ?_
  refine lv_lushr hx hb d_M_number_53 rfl ?_
  refine lv_lxor hx hb d_M_number_54 ?_
  exact W.lret (v := (v3 ^^^ ((v3.toUInt64 >>> ((31 : Int32).toInt64.toUInt64 &&& Int64.toUInt64 63)).toInt64))) hx hb hr (fun t h9 _ => ⟨congrArg (fun z => Outcome.returned (some (Value.long z))) (by subst e1; subst e2; subst e3; rfl), h9⟩) (fun _ h => nomatch h) d_M_number_55
def fn_M_rest (p1 : Int64) (p2 : Int32) : Int32 := (((((((p1.toUInt64 >>> ((1 : Int32).toInt64.toUInt64 &&& Int64.toUInt64 63)).toInt64) - ((p1.toUInt64 >>> ((1 : Int32).toInt64.toUInt64 &&& Int64.toUInt64 63)).toInt64) / (p2.toInt64) * (p2.toInt64)) * 2) + (p1 &&& 1)) - (((((p1.toUInt64 >>> ((1 : Int32).toInt64.toUInt64 &&& Int64.toUInt64 63)).toInt64) - ((p1.toUInt64 >>> ((1 : Int32).toInt64.toUInt64 &&& Int64.toUInt64 63)).toInt64) / (p2.toInt64) * (p2.toInt64)) * 2) + (p1 &&& 1)) / (p2.toInt64) * (p2.toInt64)).toInt32)
set_option maxHeartbeats 4000000 in
set_option maxRecDepth 100000 in
theorem c_M_rest (l : Launch) (G : GT) (H : Heap) (p1 : Int64) (p2 : Int32) (hz : ¬ p2.toInt64 = 0) : Met l y_M_rest (Cond.code y_M_rest b_M_rest 5 (some .int) :: TG) ({ frames := 0, cells := 0, slots := 0, locals := 0 }) (PC G H [.long p1, .int p2]) (QcRead (fn_M_rest p1 p2)) 0 0 (fun _ => False) := by
  refine Met.ofW (cc := b_M_rest) (maxL := 5) (ret := (some .int)) (by decide) rfl ?_
  intro p e s m args below meth c s₁ B hml hv
  obtain ⟨rfl, hH, hKN⟩ := hv
  subst hH
  have hx := B.exec
  have hb := B.bytes
  have hr := B.returns
  have hts := atoms_spec (ws := (Cond.code y_M_rest b_M_rest 5 (some .int) :: TG)) B.pre
  have ht : ∀ w ∈ TG, w.before _ s = true := fun w h => hts w (List.mem_cons_of_mem _ h)
  have hown : s.vm.findClass R_M = some m.cls := findClass_of_methodNamed B.named
  have hlocks := B.notSynchronized
  have hK := hKN.1
  have hl := lv_entry ([.long p1, .int p2]) (n := 5) (Nat.le_of_ble_eq_true rfl)
  rw [lg_entry_eq]
  generalize (lg_sl ([.long p1, .int p2]) ++ List.replicate (5 - (lg_sl ([.long p1, .int p2])).length) Slot.unset).toArray = ls at hl ⊢
  have hl : lv_has ls 5 [(0, .long p1), (2, .int p2)] := hl
  refine lv_lload_n hx hb d_M_rest_0 rfl (lv_at hl 0 rfl) ?_
  refine lv_iconst (v := 1) hx hb d_M_rest_1 (by decide) ?_
  refine lv_lushr hx hb d_M_rest_2 rfl ?_
  refine lv_lstore_n (lv' := [(3, .long ((p1.toUInt64 >>> ((1 : Int32).toInt64.toUInt64 &&& Int64.toUInt64 63)).toInt64)), (0, .long p1), (2, .int p2)]) hx hb d_M_rest_3 rfl hl (by decide) rfl (fun ls hl => ?_)
  refine lv_lload_n hx hb d_M_rest_4 rfl (lv_at hl 0 rfl) ?_
  refine lv_iload_n hx hb d_M_rest_5 rfl (lv_at hl 2 rfl) ?_
  refine lv_i2l hx hb d_M_rest_6 rfl ?_
  refine lv_lrem hx hb d_M_rest_7 hz ?_
  refine lv_ldc2 (v := 2) hx hb hown (ht _ kl_M_36) d_M_rest_8 ?_
  refine lv_lmul hx hb d_M_rest_11 ?_
  refine lv_lload_n hx hb d_M_rest_12 rfl (lv_at hl 1 rfl) ?_
  refine lv_lconst (v := 1) hx hb d_M_rest_13 (by decide) ?_
  refine lv_land hx hb d_M_rest_14 ?_
  refine lv_ladd hx hb d_M_rest_15 ?_
  refine lv_iload_n hx hb d_M_rest_16 rfl (lv_at hl 2 rfl) ?_
  refine lv_i2l hx hb d_M_rest_17 rfl ?_
  refine lv_lrem hx hb d_M_rest_18 hz ?_
  refine lv_l2i hx hb d_M_rest_19 rfl ?_
  exact W.iret (v := (((((((p1.toUInt64 >>> ((1 : Int32).toInt64.toUInt64 &&& Int64.toUInt64 63)).toInt64) - ((p1.toUInt64 >>> ((1 : Int32).toInt64.toUInt64 &&& Int64.toUInt64 63)).toInt64) / (p2.toInt64) * (p2.toInt64)) * 2) + (p1 &&& 1)) - (((((p1.toUInt64 >>> ((1 : Int32).toInt64.toUInt64 &&& Int64.toUInt64 63)).toInt64) - ((p1.toUInt64 >>> ((1 : Int32).toInt64.toUInt64 &&& Int64.toUInt64 63)).toInt64) / (p2.toInt64) * (p2.toInt64)) * 2) + (p1 &&& 1)) / (p2.toInt64) * (p2.toInt64)).toInt32)) hx hb hr (fun t h9 _ => ⟨congrArg (fun z => Outcome.returned (some (Value.int z))) rfl, h9⟩) (fun _ h => nomatch h) d_M_rest_20
def fn_M_isLess (p1 : Int64) (p2 : Int64) : Int32 := (if 0 ≤ (lg_cmp (p1 ^^^ (-9223372036854775808)) (p2 ^^^ (-9223372036854775808))) then 0 else 1)
set_option maxHeartbeats 4000000 in
set_option maxRecDepth 100000 in
theorem c_M_isLess (l : Launch) (G : GT) (H : Heap) (p1 : Int64) (p2 : Int64) : Met l y_M_isLess (Cond.code y_M_isLess b_M_isLess 4 (some .boolean) :: TG) ({ frames := 0, cells := 0, slots := 0, locals := 0 }) (PC G H [.long p1, .long p2]) (QcRead (fn_M_isLess p1 p2)) 0 0 (fun _ => False) := by
  refine Met.ofW (cc := b_M_isLess) (maxL := 4) (ret := (some .boolean)) (by decide) rfl ?_
  intro p e s m args below meth c s₁ B hml hv
  obtain ⟨rfl, hH, hKN⟩ := hv
  subst hH
  have hx := B.exec
  have hb := B.bytes
  have hr := B.returns
  have hts := atoms_spec (ws := (Cond.code y_M_isLess b_M_isLess 4 (some .boolean) :: TG)) B.pre
  have ht : ∀ w ∈ TG, w.before _ s = true := fun w h => hts w (List.mem_cons_of_mem _ h)
  have hown : s.vm.findClass R_M = some m.cls := findClass_of_methodNamed B.named
  have hlocks := B.notSynchronized
  have hK := hKN.1
  have hl := lv_entry ([.long p1, .long p2]) (n := 4) (Nat.le_of_ble_eq_true rfl)
  rw [lg_entry_eq]
  generalize (lg_sl ([.long p1, .long p2]) ++ List.replicate (4 - (lg_sl ([.long p1, .long p2])).length) Slot.unset).toArray = ls at hl ⊢
  have hl : lv_has ls 4 [(0, .long p1), (2, .long p2)] := hl
  refine lv_lload_n hx hb d_M_isLess_0 rfl (lv_at hl 0 rfl) ?_
  refine lv_ldc2 (v := (-9223372036854775808)) hx hb hown (ht _ kl_M_38) d_M_isLess_1 ?_
  refine lv_lxor hx hb d_M_isLess_4 ?_
  refine lv_lload_n hx hb d_M_isLess_5 rfl (lv_at hl 1 rfl) ?_
  refine lv_ldc2 (v := (-9223372036854775808)) hx hb hown (ht _ kl_M_38) d_M_isLess_6 ?_
  refine lv_lxor hx hb d_M_isLess_9 ?_
  refine W.lcmp hx hb d_M_isLess_10 ?_
  refine lv_if_ge (tgt := 18) hx hb d_M_isLess_11 (by decide) (fun c1 => ?_) (fun c1 => ?_)
  · refine lv_iconst (v := 0) hx hb d_M_isLess_18 (by decide) ?_
    exact W.zret (v := 0) hx hb hr rfl (fun t h9 _ => ⟨congrArg (fun z => Outcome.returned (some (Value.int z))) (by unfold fn_M_isLess; rw [if_pos c1]), h9⟩) (fun _ h => nomatch h) d_M_isLess_19
  · refine lv_iconst (v := 1) hx hb d_M_isLess_14 (by decide) ?_
    refine lv_goto (tgt := 19) hx hb d_M_isLess_15 (by decide) ?_
    exact W.zret (v := 1) hx hb hr rfl (fun t h9 _ => ⟨congrArg (fun z => Outcome.returned (some (Value.int z))) (by unfold fn_M_isLess; rw [if_neg c1]), h9⟩) (fun _ h => nomatch h) d_M_isLess_19
def fn_M_fact (p1 : Int64) (p2 : Int32) : Int32 := (if p2 = 1 then (fn_M_rest p1 100) else (if p2 = 2 then (fn_M_rest ((p1.toUInt64 >>> ((8 : Int32).toInt64.toUInt64 &&& Int64.toUInt64 63)).toInt64) 1000) else (if p2 = 3 then (fn_M_rest ((p1.toUInt64 >>> ((24 : Int32).toInt64.toUInt64 &&& Int64.toUInt64 63)).toInt64) 24) else (fn_M_rest ((p1.toUInt64 >>> ((40 : Int32).toInt64.toUInt64 &&& Int64.toUInt64 63)).toInt64) 2))))
set_option maxHeartbeats 4000000 in
set_option maxRecDepth 100000 in
theorem c_M_fact (l : Launch) (G : GT) (H : Heap) (p1 : Int64) (p2 : Int32) : Met l y_M_fact (Cond.code y_M_fact b_M_fact 3 (some .int) :: TG) ({ frames := 1, cells := 0, slots := 0, locals := 24 }) (PC G H [.long p1, .int p2]) (QcRead (fn_M_fact p1 p2)) 0 0 (fun _ => False) := by
  refine Met.ofW (cc := b_M_fact) (maxL := 3) (ret := (some .int)) (by decide) rfl ?_
  intro p e s m args below meth c s₁ B hml hv
  obtain ⟨rfl, hH, hKN⟩ := hv
  subst hH
  have hx := B.exec
  have hb := B.bytes
  have hr := B.returns
  have hts := atoms_spec (ws := (Cond.code y_M_fact b_M_fact 3 (some .int) :: TG)) B.pre
  have ht : ∀ w ∈ TG, w.before _ s = true := fun w h => hts w (List.mem_cons_of_mem _ h)
  have hown : s.vm.findClass R_M = some m.cls := findClass_of_methodNamed B.named
  have hlocks := B.notSynchronized
  have hK := hKN.1
  have hl := lv_entry ([.long p1, .int p2]) (n := 3) (Nat.le_of_ble_eq_true rfl)
  rw [lg_entry_eq]
  generalize (lg_sl ([.long p1, .int p2]) ++ List.replicate (3 - (lg_sl ([.long p1, .int p2])).length) Slot.unset).toArray = ls at hl ⊢
  have hl : lv_has ls 3 [(0, .long p1), (2, .int p2)] := hl
  refine lv_iload_n hx hb d_M_fact_0 rfl (lv_at hl 1 rfl) ?_
  refine lv_iconst (v := 1) hx hb d_M_fact_1 (by decide) ?_
  refine lv_icmp_ne (tgt := 14) hx hb d_M_fact_2 (by decide) (fun c1 => ?_) (fun c1 => ?_)
  · refine lv_iload_n hx hb d_M_fact_14 rfl (lv_at hl 1 rfl) ?_
    refine lv_iconst (v := 2) hx hb d_M_fact_15 (by decide) ?_
    refine lv_icmp_ne (tgt := 32) hx hb d_M_fact_16 (by decide) (fun c2 => ?_) (fun c2 => ?_)
    · refine lv_iload_n hx hb d_M_fact_32 rfl (lv_at hl 1 rfl) ?_
      refine lv_iconst (v := 3) hx hb d_M_fact_33 (by decide) ?_
      refine lv_icmp_ne (tgt := 49) hx hb d_M_fact_34 (by decide) (fun c3 => ?_) (fun c3 => ?_)
      · refine lv_lload_n hx hb d_M_fact_49 rfl (lv_at hl 0 rfl) ?_
        refine lv_bipush (v := 40) hx hb d_M_fact_50 (by decide) ?_
        refine lv_lushr hx hb d_M_fact_52 rfl ?_
        refine lv_iconst (v := 2) hx hb d_M_fact_53 (by decide) ?_
        refine pr_i (ru_S (As := [.long ((p1.toUInt64 >>> ((40 : Int32).toInt64.toUInt64 &&& Int64.toUInt64 63)).toInt64), .int 2]) (rest := []) ⟨hx, hb, hml, hown, ht⟩ hKN (c_M_rest l G _ ((p1.toUInt64 >>> ((40 : Int32).toInt64.toUInt64 &&& Int64.toUInt64 63)).toInt64) 2 (by decide)) kc_M_40 ⟨rfl, rfl⟩ ⟨Nat.le_of_ble_eq_true rfl, Nat.le_of_ble_eq_true rfl⟩ rfl hl.1 rfl (Nat.le_of_ble_eq_true rfl) d_M_fact_54 ⟨Nat.le_of_ble_eq_true rfl, Nat.le_of_ble_eq_true rfl⟩) ?_
        exact W.iret (v := (fn_M_rest ((p1.toUInt64 >>> ((40 : Int32).toInt64.toUInt64 &&& Int64.toUInt64 63)).toInt64) 2)) hx hb hr (fun t h9 _ => ⟨congrArg (fun z => Outcome.returned (some (Value.int z))) (by unfold fn_M_fact; rw [if_neg c1, if_neg c2, if_neg c3]), h9⟩) (fun _ h => nomatch h) d_M_fact_57
      · refine lv_lload_n hx hb d_M_fact_37 rfl (lv_at hl 0 rfl) ?_
        refine lv_bipush (v := 24) hx hb d_M_fact_38 (by decide) ?_
        refine lv_lushr hx hb d_M_fact_40 rfl ?_
        refine lv_bipush (v := 24) hx hb d_M_fact_41 (by decide) ?_
        refine pr_i (ru_S (As := [.long ((p1.toUInt64 >>> ((24 : Int32).toInt64.toUInt64 &&& Int64.toUInt64 63)).toInt64), .int 24]) (rest := []) ⟨hx, hb, hml, hown, ht⟩ hKN (c_M_rest l G _ ((p1.toUInt64 >>> ((24 : Int32).toInt64.toUInt64 &&& Int64.toUInt64 63)).toInt64) 24 (by decide)) kc_M_40 ⟨rfl, rfl⟩ ⟨Nat.le_of_ble_eq_true rfl, Nat.le_of_ble_eq_true rfl⟩ rfl hl.1 rfl (Nat.le_of_ble_eq_true rfl) d_M_fact_43 ⟨Nat.le_of_ble_eq_true rfl, Nat.le_of_ble_eq_true rfl⟩) ?_
        refine lv_goto (tgt := 57) hx hb d_M_fact_46 (by decide) ?_
        exact W.iret (v := (fn_M_rest ((p1.toUInt64 >>> ((24 : Int32).toInt64.toUInt64 &&& Int64.toUInt64 63)).toInt64) 24)) hx hb hr (fun t h9 _ => ⟨congrArg (fun z => Outcome.returned (some (Value.int z))) (by unfold fn_M_fact; rw [if_neg c1, if_neg c2, if_pos c3]), h9⟩) (fun _ h => nomatch h) d_M_fact_57
    · refine lv_lload_n hx hb d_M_fact_19 rfl (lv_at hl 0 rfl) ?_
      refine lv_bipush (v := 8) hx hb d_M_fact_20 (by decide) ?_
      refine lv_lushr hx hb d_M_fact_22 rfl ?_
      refine lv_sipush (v := 1000) hx hb d_M_fact_23 (by decide) ?_
      refine pr_i (ru_S (As := [.long ((p1.toUInt64 >>> ((8 : Int32).toInt64.toUInt64 &&& Int64.toUInt64 63)).toInt64), .int 1000]) (rest := []) ⟨hx, hb, hml, hown, ht⟩ hKN (c_M_rest l G _ ((p1.toUInt64 >>> ((8 : Int32).toInt64.toUInt64 &&& Int64.toUInt64 63)).toInt64) 1000 (by decide)) kc_M_40 ⟨rfl, rfl⟩ ⟨Nat.le_of_ble_eq_true rfl, Nat.le_of_ble_eq_true rfl⟩ rfl hl.1 rfl (Nat.le_of_ble_eq_true rfl) d_M_fact_26 ⟨Nat.le_of_ble_eq_true rfl, Nat.le_of_ble_eq_true rfl⟩) ?_
      refine lv_goto (tgt := 57) hx hb d_M_fact_29 (by decide) ?_
      exact W.iret (v := (fn_M_rest ((p1.toUInt64 >>> ((8 : Int32).toInt64.toUInt64 &&& Int64.toUInt64 63)).toInt64) 1000)) hx hb hr (fun t h9 _ => ⟨congrArg (fun z => Outcome.returned (some (Value.int z))) (by unfold fn_M_fact; rw [if_neg c1, if_pos c2]), h9⟩) (fun _ h => nomatch h) d_M_fact_57
  · refine lv_lload_n hx hb d_M_fact_5 rfl (lv_at hl 0 rfl) ?_
    refine lv_bipush (v := 100) hx hb d_M_fact_6 (by decide) ?_
    refine pr_i (ru_S (As := [.long p1, .int 100]) (rest := []) ⟨hx, hb, hml, hown, ht⟩ hKN (c_M_rest l G _ p1 100 (by decide)) kc_M_40 ⟨rfl, rfl⟩ ⟨Nat.le_of_ble_eq_true rfl, Nat.le_of_ble_eq_true rfl⟩ rfl hl.1 rfl (Nat.le_of_ble_eq_true rfl) d_M_fact_8 ⟨Nat.le_of_ble_eq_true rfl, Nat.le_of_ble_eq_true rfl⟩) ?_
    refine lv_goto (tgt := 57) hx hb d_M_fact_11 (by decide) ?_
    exact W.iret (v := (fn_M_rest p1 100)) hx hb hr (fun t h9 _ => ⟨congrArg (fun z => Outcome.returned (some (Value.int z))) (by unfold fn_M_fact; rw [if_pos c1]), h9⟩) (fun _ h => nomatch h) d_M_fact_57
/-- how many are ahead of i among the first j -/
def hbf (sd : Int64) (k i : Int32) : Nat → Int32
  | 0 => 0
  | j + 1 => if fn_M_isLess (zN sd k i) (zN sd k (nI j)) = 0 then (if lg_cmp (zN sd k i) (zN sd k (nI j)) = 0 then (if nI j ≤ i then hbf sd k i j else hbf sd k i j + 1) else hbf sd k i j) else hbf sd k i j + 1
def hf (sd : Int64) (k : Int32) (n : Nat) (i : Int32) : Int32 := if k = 3 then (if nI n / 2 ≤ hbf sd k i n then 0 else 1) else 0
set_option maxHeartbeats 4000000 in
set_option maxRecDepth 100000 in
theorem c_M_hasFaults (l : Launch) (G : GT) (H : Heap) (p1 : Int64) (p2 : Int32) (n : Nat) (p4 : Int32) (hn : n ≤ 16) : Met l y_M_hasFaults (Cond.code y_M_hasFaults b_M_hasFaults 11 (some .boolean) :: TG) ({ frames := 1, cells := 0, slots := 0, locals := 25 }) (PC G H [.long p1, .int p2, .int (nI n), .int p4]) (QcRead (hf p1 p2 n p4)) 0 0 (fun _ => False) := by
  refine Met.ofW (cc := b_M_hasFaults) (maxL := 11) (ret := (some .boolean)) (by decide) rfl ?_
  intro p e s m args below meth c s₁ B hml hv
  obtain ⟨rfl, hH, hKN⟩ := hv
  subst hH
  have hx := B.exec
  have hb := B.bytes
  have hr := B.returns
  have hts := atoms_spec (ws := (Cond.code y_M_hasFaults b_M_hasFaults 11 (some .boolean) :: TG)) B.pre
  have ht : ∀ w ∈ TG, w.before _ s = true := fun w h => hts w (List.mem_cons_of_mem _ h)
  have hown : s.vm.findClass R_M = some m.cls := findClass_of_methodNamed B.named
  have hlocks := B.notSynchronized
  have hK := hKN.1
  have hl := lv_entry ([.long p1, .int p2, .int (nI n), .int p4]) (n := 11) (Nat.le_of_ble_eq_true rfl)
  rw [lg_entry_eq]
  generalize (lg_sl ([.long p1, .int p2, .int (nI n), .int p4]) ++ List.replicate (11 - (lg_sl ([.long p1, .int p2, .int (nI n), .int p4])).length) Slot.unset).toArray = ls at hl ⊢
  have hl : lv_has ls 11 [(0, .long p1), (2, .int p2), (3, .int (nI n)), (4, .int p4)] := hl
  refine lv_iconst (v := 0) hx hb d_M_hasFaults_0 (by decide) ?_
  refine lv_istore (lv' := [(5, .int 0), (0, .long p1), (2, .int p2), (3, .int (nI n)), (4, .int p4)]) hx hb d_M_hasFaults_1 hl (by decide) rfl (fun ls hl => ?_)
  refine lv_lload_n hx hb d_M_hasFaults_3 rfl (lv_at hl 1 rfl) ?_
  refine lv_iload_n hx hb d_M_hasFaults_4 rfl (lv_at hl 2 rfl) ?_
  refine lv_iload hx hb d_M_hasFaults_5 (lv_at hl 4 rfl) ?_
  refine pr_l (ru_S (As := [.long p1, .int p2, .int p4]) (rest := []) ⟨hx, hb, hml, hown, ht⟩ hKN (c_M_number l G _ p1 p2 p4) kc_M_44 ⟨rfl, rfl⟩ ⟨Nat.le_of_ble_eq_true rfl, Nat.le_of_ble_eq_true rfl⟩ rfl hl.1 rfl (Nat.le_of_ble_eq_true rfl) d_M_hasFaults_7 ⟨Nat.le_of_ble_eq_true rfl, Nat.le_of_ble_eq_true rfl⟩) ?_
  refine lv_lstore (lv' := [(6, .long (zN p1 p2 p4)), (5, .int 0), (0, .long p1), (2, .int p2), (3, .int (nI n)), (4, .int p4)]) hx hb d_M_hasFaults_10 hl (by decide) rfl (fun ls hl => ?_)
  refine lv_iconst (v := 0) hx hb d_M_hasFaults_12 (by decide) ?_
  refine lv_istore (lv' := [(8, .int 0), (6, .long (zN p1 p2 p4)), (5, .int 0), (0, .long p1), (2, .int p2), (3, .int (nI n)), (4, .int p4)]) hx hb d_M_hasFaults_13 hl (by decide) rfl (fun ls hl => ?_)
  have loop : ∀ (kk j : Nat) (ls : Array Slot), j + kk = n → lv_has ls 11 [(0, .long p1), (2, .int p2), (3, .int (nI n)), (4, .int p4), (5, .int (hbf p1 p2 p4 j)), (6, .long (zN p1 p2 p4)), (8, .int (nI j))] → W p l e (headSpec (Cond.code y_M_hasFaults b_M_hasFaults 11 (some .boolean) :: TG) ({ frames := 1, cells := 0, slots := 0, locals := 25 })).room s m ([.long p1, .int p2, .int (nI n), .int p4] : List Value).toArray below meth c s.heap [] 0 0 (MQ below (QcRead (hf p1 p2 n p4)) ([.long p1, .int p2, .int (nI n), .int p4] : List Value).toArray s 0 0 (fun _ => False)) (F0 m 15 ls []) := by
    intro kk
    induction kk with
    | zero =>
      intro j  ls hj  hl
      refine lv_iload hx hb d_M_hasFaults_15 (lv_at hl 6 rfl) ?_
      refine lv_iload_n hx hb d_M_hasFaults_17 rfl (lv_at hl 2 rfl) ?_
      refine lv_icmp_ge (tgt := 72) hx hb d_M_hasFaults_18 (by decide) (fun c1 => ?_) (fun c1 => ?_)
      · refine lv_iload_n hx hb d_M_hasFaults_72 rfl (lv_at hl 1 rfl) ?_
        refine lv_iconst (v := 3) hx hb d_M_hasFaults_73 (by decide) ?_
        refine lv_icmp_ne (tgt := 89) hx hb d_M_hasFaults_74 (by decide) (fun c2 => ?_) (fun c2 => ?_)
        · refine lv_iconst (v := 0) hx hb d_M_hasFaults_89 (by decide) ?_
          exact W.zret (v := 0) hx hb hr rfl (fun t h9 _ => ⟨congrArg (fun z => Outcome.returned (some (Value.int z))) (by rw [show j = n by omega] at *; unfold hf; rw [if_neg c2]), h9⟩) (fun _ h => nomatch h) d_M_hasFaults_90
        · refine lv_iload hx hb d_M_hasFaults_77 (lv_at hl 4 rfl) ?_
          refine lv_iload_n hx hb d_M_hasFaults_79 rfl (lv_at hl 2 rfl) ?_
          refine lv_iconst (v := 2) hx hb d_M_hasFaults_80 (by decide) ?_
          refine lv_idiv hx hb d_M_hasFaults_81 (by decide) ?_
          refine lv_icmp_ge (tgt := 89) hx hb d_M_hasFaults_82 (by decide) (fun c3 => ?_) (fun c3 => ?_)
          · refine lv_iconst (v := 0) hx hb d_M_hasFaults_89 (by decide) ?_
            exact W.zret (v := 0) hx hb hr rfl (fun t h9 _ => ⟨congrArg (fun z => Outcome.returned (some (Value.int z))) (by rw [show j = n by omega] at *; unfold hf; rw [if_pos c2, if_pos c3]), h9⟩) (fun _ h => nomatch h) d_M_hasFaults_90
          · refine lv_iconst (v := 1) hx hb d_M_hasFaults_85 (by decide) ?_
            refine lv_goto (tgt := 90) hx hb d_M_hasFaults_86 (by decide) ?_
            exact W.zret (v := 1) hx hb hr rfl (fun t h9 _ => ⟨congrArg (fun z => Outcome.returned (some (Value.int z))) (by rw [show j = n by omega] at *; unfold hf; rw [if_pos c2, if_neg c3]), h9⟩) (fun _ h => nomatch h) d_M_hasFaults_90
      · exact absurd (show nI n ≤ nI j from nI_le (by omega) (by omega)) c1
    | succ kk ih =>
      intro j  ls hj  hl
      refine lv_iload hx hb d_M_hasFaults_15 (lv_at hl 6 rfl) ?_
      refine lv_iload_n hx hb d_M_hasFaults_17 rfl (lv_at hl 2 rfl) ?_
      refine lv_icmp_ge (tgt := 72) hx hb d_M_hasFaults_18 (by decide) (fun c4 => ?_) (fun c4 => ?_)
      · exact absurd c4 (nI_ge (show j < n by omega) (by omega))
      · refine lv_lload_n hx hb d_M_hasFaults_21 rfl (lv_at hl 0 rfl) ?_
        refine lv_iload_n hx hb d_M_hasFaults_22 rfl (lv_at hl 1 rfl) ?_
        refine lv_iload hx hb d_M_hasFaults_23 (lv_at hl 6 rfl) ?_
        refine pr_l (ru_S (As := [.long p1, .int p2, .int (nI j)]) (rest := []) ⟨hx, hb, hml, hown, ht⟩ hKN (c_M_number l G _ p1 p2 (nI j)) kc_M_44 ⟨rfl, rfl⟩ ⟨Nat.le_of_ble_eq_true rfl, Nat.le_of_ble_eq_true rfl⟩ rfl hl.1 rfl (Nat.le_of_ble_eq_true rfl) d_M_hasFaults_25 ⟨Nat.le_of_ble_eq_true rfl, Nat.le_of_ble_eq_true rfl⟩) ?_
        refine lv_lstore (lv' := [(9, .long (zN p1 p2 (nI j))), (0, .long p1), (2, .int p2), (3, .int (nI n)), (4, .int p4), (5, .int (hbf p1 p2 p4 j)), (6, .long (zN p1 p2 p4)), (8, .int (nI j))]) hx hb d_M_hasFaults_28 hl (by decide) rfl (fun ls hl => ?_)
        refine lv_lload hx hb d_M_hasFaults_30 (lv_at hl 6 rfl) ?_
        refine lv_lload hx hb d_M_hasFaults_32 (lv_at hl 0 rfl) ?_
        refine pr_i (ru_S (As := [.long (zN p1 p2 p4), .long (zN p1 p2 (nI j))]) (rest := []) ⟨hx, hb, hml, hown, ht⟩ hKN (c_M_isLess l G _ (zN p1 p2 p4) (zN p1 p2 (nI j))) kc_M_48 ⟨rfl, rfl⟩ ⟨Nat.le_of_ble_eq_true rfl, Nat.le_of_ble_eq_true rfl⟩ rfl hl.1 rfl (Nat.le_of_ble_eq_true rfl) d_M_hasFaults_34 ⟨Nat.le_of_ble_eq_true rfl, Nat.le_of_ble_eq_true rfl⟩) ?_
        refine lv_if_ne (tgt := 55) hx hb d_M_hasFaults_37 (by decide) (fun c5 => ?_) (fun c5 => ?_)
        · refine lv_iload hx hb d_M_hasFaults_55 (lv_at hl 5 rfl) ?_
          refine lv_iconst (v := 1) hx hb d_M_hasFaults_57 (by decide) ?_
          refine lv_iadd hx hb d_M_hasFaults_58 ?_
          refine lv_goto (tgt := 64) hx hb d_M_hasFaults_59 (by decide) ?_
          refine lv_istore (lv' := [(5, .int ((hbf p1 p2 p4 j) + 1)), (9, .long (zN p1 p2 (nI j))), (0, .long p1), (2, .int p2), (3, .int (nI n)), (4, .int p4), (6, .long (zN p1 p2 p4)), (8, .int (nI j))]) hx hb d_M_hasFaults_64 hl (by decide) rfl (fun ls hl => ?_)
          refine lv_iinc (v := nI (j + 1)) (lv' := [(8, .int (nI (j + 1))), (5, .int ((hbf p1 p2 p4 j) + 1)), (9, .long (zN p1 p2 (nI j))), (0, .long p1), (2, .int p2), (3, .int (nI n)), (4, .int p4), (6, .long (zN p1 p2 p4))]) hx hb d_M_hasFaults_66 hl (k := 7) rfl (nI_1 j) (by decide) rfl (fun ls hl => ?_)
          refine lv_goto (tgt := 15) hx hb d_M_hasFaults_69 (by decide) ?_
          exact ih (j + 1) ls (by omega) (by rw [show hbf p1 p2 p4 (j + 1) = ((hbf p1 p2 p4 j) + 1) from by simp only [hbf]; rw [if_neg c5]]; exact lv_sub hl [3, 4, 5, 6, 1, 7, 0] rfl)
        · refine lv_lload hx hb d_M_hasFaults_40 (lv_at hl 6 rfl) ?_
          refine lv_lload hx hb d_M_hasFaults_42 (lv_at hl 0 rfl) ?_
          refine W.lcmp hx hb d_M_hasFaults_44 ?_
          refine lv_if_ne (tgt := 62) hx hb d_M_hasFaults_45 (by decide) (fun c6 => ?_) (fun c6 => ?_)
          · refine lv_iload hx hb d_M_hasFaults_62 (lv_at hl 5 rfl) ?_
            refine lv_istore (lv' := [(5, .int (hbf p1 p2 p4 j)), (9, .long (zN p1 p2 (nI j))), (0, .long p1), (2, .int p2), (3, .int (nI n)), (4, .int p4), (6, .long (zN p1 p2 p4)), (8, .int (nI j))]) hx hb d_M_hasFaults_64 hl (by decide) rfl (fun ls hl => ?_)
            refine lv_iinc (v := nI (j + 1)) (lv' := [(8, .int (nI (j + 1))), (5, .int (hbf p1 p2 p4 j)), (9, .long (zN p1 p2 (nI j))), (0, .long p1), (2, .int p2), (3, .int (nI n)), (4, .int p4), (6, .long (zN p1 p2 p4))]) hx hb d_M_hasFaults_66 hl (k := 7) rfl (nI_1 j) (by decide) rfl (fun ls hl => ?_)
            refine lv_goto (tgt := 15) hx hb d_M_hasFaults_69 (by decide) ?_
            exact ih (j + 1) ls (by omega) (by rw [show hbf p1 p2 p4 (j + 1) = hbf p1 p2 p4 j from by simp only [hbf]; rw [if_pos c5, if_neg c6]]; exact lv_sub hl [3, 4, 5, 6, 1, 7, 0] rfl)
          · refine lv_iload hx hb d_M_hasFaults_48 (lv_at hl 7 rfl) ?_
            refine lv_iload hx hb d_M_hasFaults_50 (lv_at hl 4 rfl) ?_
            refine lv_icmp_le (tgt := 62) hx hb d_M_hasFaults_52 (by decide) (fun c7 => ?_) (fun c7 => ?_)
            · refine lv_iload hx hb d_M_hasFaults_62 (lv_at hl 5 rfl) ?_
              refine lv_istore (lv' := [(5, .int (hbf p1 p2 p4 j)), (9, .long (zN p1 p2 (nI j))), (0, .long p1), (2, .int p2), (3, .int (nI n)), (4, .int p4), (6, .long (zN p1 p2 p4)), (8, .int (nI j))]) hx hb d_M_hasFaults_64 hl (by decide) rfl (fun ls hl => ?_)
              refine lv_iinc (v := nI (j + 1)) (lv' := [(8, .int (nI (j + 1))), (5, .int (hbf p1 p2 p4 j)), (9, .long (zN p1 p2 (nI j))), (0, .long p1), (2, .int p2), (3, .int (nI n)), (4, .int p4), (6, .long (zN p1 p2 p4))]) hx hb d_M_hasFaults_66 hl (k := 7) rfl (nI_1 j) (by decide) rfl (fun ls hl => ?_)
              refine lv_goto (tgt := 15) hx hb d_M_hasFaults_69 (by decide) ?_
              exact ih (j + 1) ls (by omega) (by rw [show hbf p1 p2 p4 (j + 1) = hbf p1 p2 p4 j from by simp only [hbf]; rw [if_pos c5, if_pos c6, if_pos c7]]; exact lv_sub hl [3, 4, 5, 6, 1, 7, 0] rfl)
            · refine lv_iload hx hb d_M_hasFaults_55 (lv_at hl 5 rfl) ?_
              refine lv_iconst (v := 1) hx hb d_M_hasFaults_57 (by decide) ?_
              refine lv_iadd hx hb d_M_hasFaults_58 ?_
              refine lv_goto (tgt := 64) hx hb d_M_hasFaults_59 (by decide) ?_
              refine lv_istore (lv' := [(5, .int ((hbf p1 p2 p4 j) + 1)), (9, .long (zN p1 p2 (nI j))), (0, .long p1), (2, .int p2), (3, .int (nI n)), (4, .int p4), (6, .long (zN p1 p2 p4)), (8, .int (nI j))]) hx hb d_M_hasFaults_64 hl (by decide) rfl (fun ls hl => ?_)
              refine lv_iinc (v := nI (j + 1)) (lv' := [(8, .int (nI (j + 1))), (5, .int ((hbf p1 p2 p4 j) + 1)), (9, .long (zN p1 p2 (nI j))), (0, .long p1), (2, .int p2), (3, .int (nI n)), (4, .int p4), (6, .long (zN p1 p2 p4))]) hx hb d_M_hasFaults_66 hl (k := 7) rfl (nI_1 j) (by decide) rfl (fun ls hl => ?_)
              refine lv_goto (tgt := 15) hx hb d_M_hasFaults_69 (by decide) ?_
              exact ih (j + 1) ls (by omega) (by rw [show hbf p1 p2 p4 (j + 1) = ((hbf p1 p2 p4 j) + 1) from by simp only [hbf]; rw [if_pos c5, if_pos c6, if_neg c7]]; exact lv_sub hl [3, 4, 5, 6, 1, 7, 0] rfl)
  exact loop n 0 ls (by omega) (by exact lv_sub hl [3, 4, 5, 6, 2, 1, 0] rfl)
def co (x : Int32) : Nat → Int32
  | 0 => 0
  | j + 1 => co x j + ((x >>> (nI j &&& 31)) &&& 1)
set_option maxHeartbeats 4000000 in
set_option maxRecDepth 100000 in
theorem c_M_countOf (l : Launch) (G : GT) (H : Heap) (p1 : Int32) : Met l y_M_countOf (Cond.code y_M_countOf b_M_countOf 3 (some .int) :: TG) ({ frames := 0, cells := 0, slots := 0, locals := 0 }) (PC G H [.int p1]) (QcRead (co p1 16)) 0 0 (fun _ => False) := by
  refine Met.ofW (cc := b_M_countOf) (maxL := 3) (ret := (some .int)) (by decide) rfl ?_
  intro p e s m args below meth c s₁ B hml hv
  obtain ⟨rfl, hH, hKN⟩ := hv
  subst hH
  have hx := B.exec
  have hb := B.bytes
  have hr := B.returns
  have hts := atoms_spec (ws := (Cond.code y_M_countOf b_M_countOf 3 (some .int) :: TG)) B.pre
  have ht : ∀ w ∈ TG, w.before _ s = true := fun w h => hts w (List.mem_cons_of_mem _ h)
  have hown : s.vm.findClass R_M = some m.cls := findClass_of_methodNamed B.named
  have hlocks := B.notSynchronized
  have hK := hKN.1
  have hl := lv_entry ([.int p1]) (n := 3) (Nat.le_of_ble_eq_true rfl)
  rw [lg_entry_eq]
  generalize (lg_sl ([.int p1]) ++ List.replicate (3 - (lg_sl ([.int p1])).length) Slot.unset).toArray = ls at hl ⊢
  have hl : lv_has ls 3 [(0, .int p1)] := hl
  refine lv_iconst (v := 0) hx hb d_M_countOf_0 (by decide) ?_
  refine lv_istore_n (lv' := [(1, .int 0), (0, .int p1)]) hx hb d_M_countOf_1 rfl hl (by decide) rfl (fun ls hl => ?_)
  refine lv_iconst (v := 0) hx hb d_M_countOf_2 (by decide) ?_
  refine lv_istore_n (lv' := [(2, .int 0), (1, .int 0), (0, .int p1)]) hx hb d_M_countOf_3 rfl hl (by decide) rfl (fun ls hl => ?_)
  have loop : ∀ (kk j : Nat) (ls : Array Slot), j + kk = 16 → lv_has ls 3 [(0, .int p1), (1, .int (co p1 j)), (2, .int (nI j))] → W p l e (headSpec (Cond.code y_M_countOf b_M_countOf 3 (some .int) :: TG) ({ frames := 0, cells := 0, slots := 0, locals := 0 })).room s m ([.int p1] : List Value).toArray below meth c s.heap [] 0 0 (MQ below (QcRead (co p1 16)) ([.int p1] : List Value).toArray s 0 0 (fun _ => False)) (F0 m 4 ls []) := by
    intro kk
    induction kk with
    | zero =>
      intro j  ls hj  hl
      refine lv_iload_n hx hb d_M_countOf_4 rfl (lv_at hl 2 rfl) ?_
      refine lv_bipush (v := 16) hx hb d_M_countOf_5 (by decide) ?_
      refine lv_icmp_ge (tgt := 24) hx hb d_M_countOf_7 (by decide) (fun c1 => ?_) (fun c1 => ?_)
      · refine lv_iload_n hx hb d_M_countOf_24 rfl (lv_at hl 1 rfl) ?_
        exact W.iret (v := co p1 j) hx hb hr (fun t h9 _ => ⟨congrArg (fun z => Outcome.returned (some (Value.int z))) (by rw [show j = 16 by omega]), h9⟩) (fun _ h => nomatch h) d_M_countOf_25
      · exact absurd (show (16 : Int32) ≤ nI j from by rw [show j = 16 by omega]; decide) c1
    | succ kk ih =>
      intro j  ls hj  hl
      refine lv_iload_n hx hb d_M_countOf_4 rfl (lv_at hl 2 rfl) ?_
      refine lv_bipush (v := 16) hx hb d_M_countOf_5 (by decide) ?_
      refine lv_icmp_ge (tgt := 24) hx hb d_M_countOf_7 (by decide) (fun c2 => ?_) (fun c2 => ?_)
      · exact absurd c2 (nI_ge (a := j) (b := 16) (by omega) (by decide))
      · refine lv_iload_n hx hb d_M_countOf_10 rfl (lv_at hl 1 rfl) ?_
        refine lv_iload_n hx hb d_M_countOf_11 rfl (lv_at hl 0 rfl) ?_
        refine lv_iload_n hx hb d_M_countOf_12 rfl (lv_at hl 2 rfl) ?_
        refine lv_ishr hx hb d_M_countOf_13 ?_
        refine lv_iconst (v := 1) hx hb d_M_countOf_14 (by decide) ?_
        refine lv_iand hx hb d_M_countOf_15 ?_
        refine lv_iadd hx hb d_M_countOf_16 ?_
        refine lv_istore_n (lv' := [(1, .int ((co p1 j) + ((p1 >>> ((nI j) &&& 31)) &&& 1))), (0, .int p1), (2, .int (nI j))]) hx hb d_M_countOf_17 rfl hl (by decide) rfl (fun ls hl => ?_)
        refine lv_iinc (v := nI (j + 1)) (lv' := [(2, .int (nI (j + 1))), (1, .int ((co p1 j) + ((p1 >>> ((nI j) &&& 31)) &&& 1))), (0, .int p1)]) hx hb d_M_countOf_18 hl (k := 2) rfl (nI_1 j) (by decide) rfl (fun ls hl => ?_)
        refine lv_goto (tgt := 4) hx hb d_M_countOf_21 (by decide) ?_
        exact ih (j + 1) ls (by omega) (by exact lv_sub hl [2, 1, 0] rfl)
  exact loop 16 0 ls (by omega) (by exact lv_sub hl [2, 1, 0] rfl)
end
section
def po (g : Nat → Int32) (x : Int32) : Nat → Int32
  | 0 => -1
  | j + 1 => if g j = x then nI j else po g x j
theorem po_or (g : Nat → Int32) (x : Int32) : ∀ q, po g x q = -1 ∨ ∃ j, j < q ∧ po g x q = nI j ∧ g j = x
  | 0 => Or.inl rfl
  | q + 1 => by
    unfold po
    split
    · rename_i h
      exact Or.inr ⟨q, by omega, rfl, h⟩
    · rcases po_or g x q with h | ⟨j, h1, h2, h3⟩
      · exact Or.inl h
      · exact Or.inr ⟨j, by omega, h2, h3⟩
theorem po_in {g : Nat → Int32} {x : Int32} {q : Nat} (hq : q ≤ 100) (h : ¬ po g x q = -1) : vp_in (po g x q) 100 := by
  rcases po_or g x q with h1 | ⟨j, h1, h2, -⟩
  · exact absurd h1 h
  · rw [h2]
    exact vp_in_nI (by omega) (by omega)
set_option maxHeartbeats 4000000 in
set_option maxRecDepth 100000 in
theorem c_M_placeOf (l : Launch) (G : GT) (H : Heap) (a : Nat) (w1 : Nat) (w2 : Nat) (w3 : Nat) (ns : Int64) (sd : Int64) (n : Nat) (k : Int32) (lb : Int32) (q : Nat) (g : Nat → Int32) (h : Nat → Int32) (ik : Nat → Int32) (p1 : Int32) (hP : va_P G.1 classes [(a, .inr (3, [.int 0, .long ns, .long sd, .int (nI n), .int k, .int lb, .int (nI q), .ref w1, .ref w2, .ref w3])), (w1, .inl (G.2.2.1, 100, .inl g)), (w2, .inl (G.2.2.2, 100, .inl h)), (w3, .inl (G.2.2.1, 10, .inl ik))] H) (hn : n ≤ 16) (hq : q ≤ 100) : Met l y_M_placeOf (Cond.code y_M_placeOf b_M_placeOf 4 (some .int) :: TG) ({ frames := 0, cells := 0, slots := 0, locals := 0 }) (PC G H [.ref a, .int p1]) (QcRead (po g p1 q)) 0 0 (fun _ => False) := by
  refine Met.ofW (cc := b_M_placeOf) (maxL := 4) (ret := (some .int)) (by decide) rfl ?_
  intro p e s m args below meth c s₁ B hml hv
  obtain ⟨rfl, hH, hKN⟩ := hv
  subst hH
  have hx := B.exec
  have hb := B.bytes
  have hr := B.returns
  have hts := atoms_spec (ws := (Cond.code y_M_placeOf b_M_placeOf 4 (some .int) :: TG)) B.pre
  have ht : ∀ w ∈ TG, w.before _ s = true := fun w h => hts w (List.mem_cons_of_mem _ h)
  have hown : s.vm.findClass R_M = some m.cls := findClass_of_methodNamed B.named
  have hlocks := B.notSynchronized
  have hK := hKN.1
  have hl := lv_entry ([.ref a, .int p1]) (n := 4) (Nat.le_of_ble_eq_true rfl)
  rw [lg_entry_eq]
  generalize (lg_sl ([.ref a, .int p1]) ++ List.replicate (4 - (lg_sl ([.ref a, .int p1])).length) Slot.unset).toArray = ls at hl ⊢
  have hl : lv_has ls 4 [(0, .ref a), (1, .int p1)] := hl
  refine lv_iconst (v := (-1)) hx hb d_M_placeOf_0 (by decide) ?_
  refine lv_istore_n (lv' := [(2, .int (-1)), (0, .ref a), (1, .int p1)]) hx hb d_M_placeOf_1 rfl hl (by decide) rfl (fun ls hl => ?_)
  refine lv_iconst (v := 0) hx hb d_M_placeOf_2 (by decide) ?_
  refine lv_istore_n (lv' := [(3, .int 0), (2, .int (-1)), (0, .ref a), (1, .int p1)]) hx hb d_M_placeOf_3 rfl hl (by decide) rfl (fun ls hl => ?_)
  have loop : ∀ (kk j : Nat) (ls : Array Slot), j + kk = q → lv_has ls 4 [(0, .ref a), (1, .int p1), (2, .int (po g p1 j)), (3, .int (nI j))] → W p l e (headSpec (Cond.code y_M_placeOf b_M_placeOf 4 (some .int) :: TG) ({ frames := 0, cells := 0, slots := 0, locals := 0 })).room s m ([.ref a, .int p1] : List Value).toArray below meth c s.heap [] 0 0 (MQ below (QcRead (po g p1 q)) ([.ref a, .int p1] : List Value).toArray s 0 0 (fun _ => False)) (F0 m 4 ls []) := by
    intro kk
    induction kk with
    | zero =>
      intro j  ls hj  hl
      refine lv_iload_n hx hb d_M_placeOf_4 rfl (lv_at hl 3 rfl) ?_
      refine lv_aload_n hx hb d_M_placeOf_5 rfl (lv_at hl 0 rfl) ?_
      refine va_get (D := G.1) (ci := 3) (v := .int (nI q)) (C := R_M) (T := F_M) (N := 10) hx hb ht in_M hown hK hP 0 rfl rfl 6 (by decide) (ht _ kf_M_68) (fun _ h9 => h9) rfl d_M_placeOf_6 ?_
      refine lv_icmp_ge (tgt := 34) hx hb d_M_placeOf_9 (by decide) (fun c1 => ?_) (fun c1 => ?_)
      · refine lv_iload_n hx hb d_M_placeOf_34 rfl (lv_at hl 2 rfl) ?_
        exact W.iret (v := po g p1 j) hx hb hr (fun t h9 _ => ⟨congrArg (fun z => Outcome.returned (some (Value.int z))) (by rw [show j = q by omega]), h9⟩) (fun _ h => nomatch h) d_M_placeOf_35
      · exact absurd (show nI q ≤ nI j from nI_le (by omega) (by omega)) c1
    | succ kk ih =>
      intro j  ls hj  hl
      refine lv_iload_n hx hb d_M_placeOf_4 rfl (lv_at hl 3 rfl) ?_
      refine lv_aload_n hx hb d_M_placeOf_5 rfl (lv_at hl 0 rfl) ?_
      refine va_get (D := G.1) (ci := 3) (v := .int (nI q)) (C := R_M) (T := F_M) (N := 10) hx hb ht in_M hown hK hP 0 rfl rfl 6 (by decide) (ht _ kf_M_68) (fun _ h9 => h9) rfl d_M_placeOf_6 ?_
      refine lv_icmp_ge (tgt := 34) hx hb d_M_placeOf_9 (by decide) (fun c2 => ?_) (fun c2 => ?_)
      · exact absurd c2 (nI_ge (show j < q by omega) (by omega))
      · refine lv_aload_n hx hb d_M_placeOf_12 rfl (lv_at hl 0 rfl) ?_
        refine va_get (D := G.1) (ci := 3) (v := .ref w1) (C := R_M) (T := F_M) (N := 10) hx hb ht in_M hown hK hP 0 rfl rfl 7 (by decide) (ht _ kf_M_7) (fun _ h9 => h9) rfl d_M_placeOf_13 ?_
        refine lv_iload_n hx hb d_M_placeOf_16 rfl (lv_at hl 3 rfl) ?_
        refine va_iald hx hb hK hP 1 1 rfl rfl (i := (nI j)) (vp_in_nI (show j < 100 by omega) (by omega)) d_M_placeOf_17 ?_
        rw [nI_clamp (show j < 2 ^ 31 by omega)]
        refine lv_iload_n hx hb d_M_placeOf_18 rfl (lv_at hl 1 rfl) ?_
        refine lv_icmp_ne (tgt := 26) hx hb d_M_placeOf_19 (by decide) (fun c3 => ?_) (fun c3 => ?_)
        · refine lv_iload_n hx hb d_M_placeOf_26 rfl (lv_at hl 2 rfl) ?_
          refine lv_istore_n (lv' := [(2, .int (po g p1 j)), (0, .ref a), (1, .int p1), (3, .int (nI j))]) hx hb d_M_placeOf_27 rfl hl (by decide) rfl (fun ls hl => ?_)
          refine lv_iinc (v := nI (j + 1)) (lv' := [(3, .int (nI (j + 1))), (2, .int (po g p1 j)), (0, .ref a), (1, .int p1)]) hx hb d_M_placeOf_28 hl (k := 3) rfl (nI_1 j) (by decide) rfl (fun ls hl => ?_)
          refine lv_goto (tgt := 4) hx hb d_M_placeOf_31 (by decide) ?_
          exact ih (j + 1) ls (by omega) (by rw [show po g p1 (j + 1) = po g p1 j from by simp only [po]; rw [if_neg c3]]; exact lv_sub hl [2, 3, 1, 0] rfl)
        · refine lv_iload_n hx hb d_M_placeOf_22 rfl (lv_at hl 3 rfl) ?_
          refine lv_goto (tgt := 27) hx hb d_M_placeOf_23 (by decide) ?_
          refine lv_istore_n (lv' := [(2, .int (nI j)), (0, .ref a), (1, .int p1), (3, .int (nI j))]) hx hb d_M_placeOf_27 rfl hl (by decide) rfl (fun ls hl => ?_)
          refine lv_iinc (v := nI (j + 1)) (lv' := [(3, .int (nI (j + 1))), (2, .int (nI j)), (0, .ref a), (1, .int p1)]) hx hb d_M_placeOf_28 hl (k := 3) rfl (nI_1 j) (by decide) rfl (fun ls hl => ?_)
          refine lv_goto (tgt := 4) hx hb d_M_placeOf_31 (by decide) ?_
          exact ih (j + 1) ls (by omega) (by rw [show po g p1 (j + 1) = nI j from by simp only [po]; rw [if_pos c3]]; exact lv_sub hl [2, 3, 1, 0] rfl)
  exact loop q 0 ls (by omega) (by exact lv_sub hl [2, 3, 1, 0] rfl)
def fn_M_stays (q : Nat) (g : Nat → Int32) (h : Nat → Int32) (p1 : Int32) : Int32 := (if (po g p1 q) = (-1) then 0 else (if (h (po g p1 q).toNatClampNeg) = 0 then 0 else 1))
set_option maxHeartbeats 4000000 in
set_option maxRecDepth 100000 in
theorem c_M_stays (l : Launch) (G : GT) (H : Heap) (a : Nat) (w1 : Nat) (w2 : Nat) (w3 : Nat) (ns : Int64) (sd : Int64) (n : Nat) (k : Int32) (lb : Int32) (q : Nat) (g : Nat → Int32) (h : Nat → Int32) (ik : Nat → Int32) (p1 : Int32) (hP : va_P G.1 classes [(a, .inr (3, [.int 0, .long ns, .long sd, .int (nI n), .int k, .int lb, .int (nI q), .ref w1, .ref w2, .ref w3])), (w1, .inl (G.2.2.1, 100, .inl g)), (w2, .inl (G.2.2.2, 100, .inl h)), (w3, .inl (G.2.2.1, 10, .inl ik))] H) (hn : n ≤ 16) (hq : q ≤ 100) : Met l y_M_stays (Cond.code y_M_stays b_M_stays 3 (some .boolean) :: TG) ({ frames := 1, cells := 0, slots := 0, locals := 23 }) (PC G H [.ref a, .int p1]) (QcRead (fn_M_stays q g h p1)) 0 0 (fun _ => False) := by
  refine Met.ofW (cc := b_M_stays) (maxL := 3) (ret := (some .boolean)) (by decide) rfl ?_
  intro p e s m args below meth c s₁ B hml hv
  obtain ⟨rfl, hH, hKN⟩ := hv
  subst hH
  have hx := B.exec
  have hb := B.bytes
  have hr := B.returns
  have hts := atoms_spec (ws := (Cond.code y_M_stays b_M_stays 3 (some .boolean) :: TG)) B.pre
  have ht : ∀ w ∈ TG, w.before _ s = true := fun w h => hts w (List.mem_cons_of_mem _ h)
  have hown : s.vm.findClass R_M = some m.cls := findClass_of_methodNamed B.named
  have hlocks := B.notSynchronized
  have hK := hKN.1
  have hl := lv_entry ([.ref a, .int p1]) (n := 3) (Nat.le_of_ble_eq_true rfl)
  rw [lg_entry_eq]
  generalize (lg_sl ([.ref a, .int p1]) ++ List.replicate (3 - (lg_sl ([.ref a, .int p1])).length) Slot.unset).toArray = ls at hl ⊢
  have hl : lv_has ls 3 [(0, .ref a), (1, .int p1)] := hl
  refine lv_aload_n hx hb d_M_stays_0 rfl (lv_at hl 0 rfl) ?_
  refine lv_iload_n hx hb d_M_stays_1 rfl (lv_at hl 1 rfl) ?_
  refine pr_i (ru_V (b := a) (As := [.int p1]) (rest := []) ⟨hx, hb, hml, hown, ht⟩ hKN (c_M_placeOf l G _ a w1 w2 w3 ns sd n k lb q g h ik p1 (hP.sub [0, 1, 2, 3] rfl) hn hq) kc_M_78 ⟨rfl, rfl⟩ ⟨Nat.le_of_ble_eq_true rfl, Nat.le_of_ble_eq_true rfl⟩ (va_recv hK hP (ci := 3) (q0 := 0) rfl rfl) rfl hl.1 rfl (Nat.le_of_ble_eq_true rfl) d_M_stays_2 ⟨Nat.le_of_ble_eq_true rfl, Nat.le_of_ble_eq_true rfl⟩) ?_
  refine lv_istore_n (lv' := [(2, .int (po g p1 q)), (0, .ref a), (1, .int p1)]) hx hb d_M_stays_5 rfl hl (by decide) rfl (fun ls hl => ?_)
  refine lv_iload_n hx hb d_M_stays_6 rfl (lv_at hl 0 rfl) ?_
  refine lv_iconst (v := (-1)) hx hb d_M_stays_7 (by decide) ?_
  refine lv_icmp_eq (tgt := 24) hx hb d_M_stays_8 (by decide) (fun c1 => ?_) (fun c1 => ?_)
  · refine lv_iconst (v := 0) hx hb d_M_stays_24 (by decide) ?_
    exact W.zret (v := 0) hx hb hr rfl (fun t h9 _ => ⟨congrArg (fun z => Outcome.returned (some (Value.int z))) (by unfold fn_M_stays; rw [if_pos c1]), h9⟩) (fun _ h => nomatch h) d_M_stays_25
  · refine lv_aload_n hx hb d_M_stays_11 rfl (lv_at hl 1 rfl) ?_
    refine va_get (D := G.1) (ci := 3) (v := .ref w2) (C := R_M) (T := F_M) (N := 10) hx hb ht in_M hown hK hP 0 rfl rfl 8 (by decide) (ht _ kf_M_13) (fun _ h9 => h9) rfl d_M_stays_12 ?_
    refine lv_iload_n hx hb d_M_stays_15 rfl (lv_at hl 0 rfl) ?_
    refine va_zald hx hb hK hP 2 2 rfl rfl (i := (po g p1 q)) (po_in hq c1) d_M_stays_16 ?_
    refine lv_if_eq (tgt := 24) hx hb d_M_stays_17 (by decide) (fun c2 => ?_) (fun c2 => ?_)
    · refine lv_iconst (v := 0) hx hb d_M_stays_24 (by decide) ?_
      exact W.zret (v := 0) hx hb hr rfl (fun t h9 _ => ⟨congrArg (fun z => Outcome.returned (some (Value.int z))) (by unfold fn_M_stays; rw [if_neg c1, if_pos c2]), h9⟩) (fun _ h => nomatch h) d_M_stays_25
    · refine lv_iconst (v := 1) hx hb d_M_stays_20 (by decide) ?_
      refine lv_goto (tgt := 25) hx hb d_M_stays_21 (by decide) ?_
      exact W.zret (v := 1) hx hb hr rfl (fun t h9 _ => ⟨congrArg (fun z => Outcome.returned (some (Value.int z))) (by unfold fn_M_stays; rw [if_neg c1, if_neg c2]), h9⟩) (fun _ h => nomatch h) d_M_stays_25
def wo (g h : Nat → Int32) (q : Nat) (b : Int32) : Nat → Nat → Int32
  | 0, _ => -1
  | kk + 1, j => if ((b >>> (nI j &&& 31)) &&& 1) = 1 then (if b = (1 : Int32) <<< (nI j &&& 31) then wo g h q b kk (j + 1) else (if fn_M_stays q g h (b - ((1 : Int32) <<< (nI j &&& 31))) = 0 then wo g h q b kk (j + 1) else nI j)) else wo g h q b kk (j + 1)
set_option maxHeartbeats 4000000 in
set_option maxRecDepth 100000 in
theorem c_M_without (l : Launch) (G : GT) (H : Heap) (a : Nat) (w1 : Nat) (w2 : Nat) (w3 : Nat) (ns : Int64) (sd : Int64) (n : Nat) (k : Int32) (lb : Int32) (q : Nat) (g : Nat → Int32) (h : Nat → Int32) (ik : Nat → Int32) (p1 : Int32) (p2 : Nat) (hP : va_P G.1 classes [(a, .inr (3, [.int 0, .long ns, .long sd, .int (nI n), .int k, .int lb, .int (nI q), .ref w1, .ref w2, .ref w3])), (w1, .inl (G.2.2.1, 100, .inl g)), (w2, .inl (G.2.2.2, 100, .inl h)), (w3, .inl (G.2.2.1, 10, .inl ik))] H) (hn : n ≤ 16) (hq : q ≤ 100) (hp2 : p2 ≤ n) : Met l y_M_without (Cond.code y_M_without b_M_without 5 (some .int) :: TG) ({ frames := 2, cells := 0, slots := 0, locals := 45 }) (PC G H [.ref a, .int p1, .int (nI p2)]) (QcRead (wo g h q p1 (n - p2) p2)) 0 0 (fun _ => False) := by
  refine Met.ofW (cc := b_M_without) (maxL := 5) (ret := (some .int)) (by decide) rfl ?_
  intro p e s m args below meth c s₁ B hml hv
  obtain ⟨rfl, hH, hKN⟩ := hv
  subst hH
  have hx := B.exec
  have hb := B.bytes
  have hr := B.returns
  have hts := atoms_spec (ws := (Cond.code y_M_without b_M_without 5 (some .int) :: TG)) B.pre
  have ht : ∀ w ∈ TG, w.before _ s = true := fun w h => hts w (List.mem_cons_of_mem _ h)
  have hown : s.vm.findClass R_M = some m.cls := findClass_of_methodNamed B.named
  have hlocks := B.notSynchronized
  have hK := hKN.1
  have hl := lv_entry ([.ref a, .int p1, .int (nI p2)]) (n := 5) (Nat.le_of_ble_eq_true rfl)
  rw [lg_entry_eq]
  generalize (lg_sl ([.ref a, .int p1, .int (nI p2)]) ++ List.replicate (5 - (lg_sl ([.ref a, .int p1, .int (nI p2)])).length) Slot.unset).toArray = ls at hl ⊢
  have hl : lv_has ls 5 [(0, .ref a), (1, .int p1), (2, .int (nI p2))] := hl
  refine lv_iload_n hx hb d_M_without_0 rfl (lv_at hl 2 rfl) ?_
  refine lv_istore_n (lv' := [(3, .int (nI p2)), (0, .ref a), (1, .int p1), (2, .int (nI p2))]) hx hb d_M_without_1 rfl hl (by decide) rfl (fun ls hl => ?_)
  have loop : ∀ (kk j : Nat) (ls : Array Slot), j + kk = n → wo g h q p1 kk j = wo g h q p1 (n - p2) p2 → lv_has ls 5 [(0, .ref a), (1, .int p1), (3, .int (nI j))] → W p l e (headSpec (Cond.code y_M_without b_M_without 5 (some .int) :: TG) ({ frames := 2, cells := 0, slots := 0, locals := 45 })).room s m ([.ref a, .int p1, .int (nI p2)] : List Value).toArray below meth c s.heap [] 0 0 (MQ below (QcRead (wo g h q p1 (n - p2) p2)) ([.ref a, .int p1, .int (nI p2)] : List Value).toArray s 0 0 (fun _ => False)) (F0 m 2 ls []) := by
    intro kk
    induction kk with
    | zero =>
      intro j  ls hj hv hl
      refine lv_iload_n hx hb d_M_without_2 rfl (lv_at hl 2 rfl) ?_
      refine lv_aload_n hx hb d_M_without_3 rfl (lv_at hl 0 rfl) ?_
      refine va_get (D := G.1) (ci := 3) (v := .int (nI n)) (C := R_M) (T := F_M) (N := 10) hx hb ht in_M hown hK hP 0 rfl rfl 3 (by decide) (ht _ kf_M_62) (fun _ h9 => h9) rfl d_M_without_4 ?_
      refine lv_icmp_ge (tgt := 58) hx hb d_M_without_7 (by decide) (fun c1 => ?_) (fun c1 => ?_)
      · refine lv_iconst (v := (-1)) hx hb d_M_without_58 (by decide) ?_
        exact W.iret (v := (-1)) hx hb hr (fun t h9 _ => ⟨congrArg (fun z => Outcome.returned (some (Value.int z))) (by rw [← hv]; simp only [wo]), h9⟩) (fun _ h => nomatch h) d_M_without_59
      · exact absurd (show nI n ≤ nI j from nI_le (by omega) (by omega)) c1
    | succ kk ih =>
      intro j  ls hj hv hl
      refine lv_iload_n hx hb d_M_without_2 rfl (lv_at hl 2 rfl) ?_
      refine lv_aload_n hx hb d_M_without_3 rfl (lv_at hl 0 rfl) ?_
      refine va_get (D := G.1) (ci := 3) (v := .int (nI n)) (C := R_M) (T := F_M) (N := 10) hx hb ht in_M hown hK hP 0 rfl rfl 3 (by decide) (ht _ kf_M_62) (fun _ h9 => h9) rfl d_M_without_4 ?_
      refine lv_icmp_ge (tgt := 58) hx hb d_M_without_7 (by decide) (fun c2 => ?_) (fun c2 => ?_)
      · exact absurd c2 (nI_ge (show j < n by omega) (by omega))
      · refine lv_iload_n hx hb d_M_without_10 rfl (lv_at hl 1 rfl) ?_
        refine lv_iload_n hx hb d_M_without_11 rfl (lv_at hl 2 rfl) ?_
        refine lv_ishr hx hb d_M_without_12 ?_
        refine lv_iconst (v := 1) hx hb d_M_without_13 (by decide) ?_
        refine lv_iand hx hb d_M_without_14 ?_
        refine lv_iconst (v := 1) hx hb d_M_without_15 (by decide) ?_
        refine lv_icmp_ne (tgt := 23) hx hb d_M_without_16 (by decide) (fun c3 => ?_) (fun c3 => ?_)
        · refine lv_iconst (v := 0) hx hb d_M_without_23 (by decide) ?_
          refine lv_istore (lv' := [(4, .int 0), (0, .ref a), (1, .int p1), (3, .int (nI j))]) hx hb d_M_without_24 hl (by decide) rfl (fun ls hl => ?_)
          refine lv_iload hx hb d_M_without_26 (lv_at hl 0 rfl) ?_
          refine lv_if_eq (tgt := 52) hx hb d_M_without_28 (by decide) (fun _ => ?_) (fun c4 => absurd (by decide) c4)
          refine lv_iinc (v := nI (j + 1)) (lv' := [(3, .int (nI (j + 1))), (4, .int 0), (0, .ref a), (1, .int p1)]) hx hb d_M_without_52 hl (k := 3) rfl (nI_1 j) (by decide) rfl (fun ls hl => ?_)
          refine lv_goto (tgt := 2) hx hb d_M_without_55 (by decide) ?_
          exact ih (j + 1) ls (by omega) (by rw [← hv]; simp only [wo]; rw [if_neg c3]) (lv_sub hl [2, 3, 0] rfl)
        · refine lv_iconst (v := 1) hx hb d_M_without_19 (by decide) ?_
          refine lv_goto (tgt := 24) hx hb d_M_without_20 (by decide) ?_
          refine lv_istore (lv' := [(4, .int 1), (0, .ref a), (1, .int p1), (3, .int (nI j))]) hx hb d_M_without_24 hl (by decide) rfl (fun ls hl => ?_)
          refine lv_iload hx hb d_M_without_26 (lv_at hl 0 rfl) ?_
          refine lv_if_eq (tgt := 52) hx hb d_M_without_28 (by decide) (fun c5 => absurd c5 (by decide)) (fun _ => ?_)
          refine lv_iload_n hx hb d_M_without_31 rfl (lv_at hl 2 rfl) ?_
          refine lv_iconst (v := 1) hx hb d_M_without_32 (by decide) ?_
          refine lv_iload_n hx hb d_M_without_33 rfl (lv_at hl 3 rfl) ?_
          refine lv_ishl hx hb d_M_without_34 ?_
          refine lv_icmp_eq (tgt := 52) hx hb d_M_without_35 (by decide) (fun c6 => ?_) (fun c6 => ?_)
          · refine lv_iinc (v := nI (j + 1)) (lv' := [(3, .int (nI (j + 1))), (4, .int 1), (0, .ref a), (1, .int p1)]) hx hb d_M_without_52 hl (k := 3) rfl (nI_1 j) (by decide) rfl (fun ls hl => ?_)
            refine lv_goto (tgt := 2) hx hb d_M_without_55 (by decide) ?_
            exact ih (j + 1) ls (by omega) (by rw [← hv]; simp only [wo]; rw [if_pos c3, if_pos c6]) (lv_sub hl [2, 3, 0] rfl)
          · refine lv_aload_n hx hb d_M_without_38 rfl (lv_at hl 1 rfl) ?_
            refine lv_iload_n hx hb d_M_without_39 rfl (lv_at hl 2 rfl) ?_
            refine lv_iconst (v := 1) hx hb d_M_without_40 (by decide) ?_
            refine lv_iload_n hx hb d_M_without_41 rfl (lv_at hl 3 rfl) ?_
            refine lv_ishl hx hb d_M_without_42 ?_
            refine lv_isub hx hb d_M_without_43 ?_
            refine pr_i (ru_V (b := a) (As := [.int (p1 - ((1 : Int32) <<< ((nI j) &&& 31)))]) (rest := []) ⟨hx, hb, hml, hown, ht⟩ hKN (c_M_stays l G _ a w1 w2 w3 ns sd n k lb q g h ik (p1 - ((1 : Int32) <<< ((nI j) &&& 31))) (hP.sub [0, 1, 2, 3] rfl) hn hq) kc_M_82 ⟨rfl, rfl⟩ ⟨Nat.le_of_ble_eq_true rfl, Nat.le_of_ble_eq_true rfl⟩ (va_recv hK hP (ci := 3) (q0 := 0) rfl rfl) rfl hl.1 rfl (Nat.le_of_ble_eq_true rfl) d_M_without_44 ⟨Nat.le_of_ble_eq_true rfl, Nat.le_of_ble_eq_true rfl⟩) ?_
            refine lv_if_eq (tgt := 52) hx hb d_M_without_47 (by decide) (fun c7 => ?_) (fun c7 => ?_)
            · refine lv_iinc (v := nI (j + 1)) (lv' := [(3, .int (nI (j + 1))), (4, .int 1), (0, .ref a), (1, .int p1)]) hx hb d_M_without_52 hl (k := 3) rfl (nI_1 j) (by decide) rfl (fun ls hl => ?_)
              refine lv_goto (tgt := 2) hx hb d_M_without_55 (by decide) ?_
              exact ih (j + 1) ls (by omega) (by rw [← hv]; simp only [wo]; rw [if_pos c3, if_neg c6, if_pos c7]) (lv_sub hl [2, 3, 0] rfl)
            · refine lv_iload_n hx hb d_M_without_50 rfl (lv_at hl 3 rfl) ?_
              exact W.iret (v := nI j) hx hb hr (fun t h9 _ => ⟨congrArg (fun z => Outcome.returned (some (Value.int z))) (by rw [← hv]; simp only [wo]; rw [if_pos c3, if_neg c6, if_neg c7]), h9⟩) (fun _ h => nomatch h) d_M_without_51
  exact loop (n - p2) p2 ls (by omega) rfl (by exact lv_sub hl [1, 2, 0] rfl)
end
section
set_option maxHeartbeats 4000000 in
set_option maxRecDepth 100000 in
theorem c_M_seed (l : Launch) (G : GT) (H : Heap) (a : Nat) (w1 : Nat) (w2 : Nat) (w3 : Nat) (ns : Int64) (sd : Int64) (n : Nat) (k : Int32) (lb : Int32) (q : Nat) (g : Nat → Int32) (h : Nat → Int32) (ik : Nat → Int32) (s1 : Int64) (hP : va_P G.1 classes [(a, .inr (3, [.int 0, .long ns, .long sd, .int (nI n), .int k, .int lb, .int (nI q), .ref w1, .ref w2, .ref w3])), (w1, .inl (G.2.2.1, 100, .inl g)), (w2, .inl (G.2.2.2, 100, .inl h)), (w3, .inl (G.2.2.1, 10, .inl ik))] H) (hD0 : va_D (fun _ => True) [(a, .inr (3, [.int 0, .long ns, .long sd, .int (nI n), .int k, .int lb, .int (nI q), .ref w1, .ref w2, .ref w3])), (w1, .inl (G.2.2.1, 100, .inl g)), (w2, .inl (G.2.2.2, 100, .inl h)), (w3, .inl (G.2.2.1, 10, .inl ik))]) (hn : n ≤ 16) (hq : q ≤ 100) : Met l y_M_seed (Cond.code y_M_seed b_M_seed 5 (some .long) :: TG) ({ frames := 0, cells := 0, slots := 0, locals := 0 }) (PC G H [.ref a, .long s1]) (QMl G (ns) [(a, .inr (3, [.int 0, .long s1, .long sd, .int (nI n), .int k, .int lb, .int (nI q), .ref w1, .ref w2, .ref w3])), (w1, .inl (G.2.2.1, 100, .inl g)), (w2, .inl (G.2.2.2, 100, .inl h)), (w3, .inl (G.2.2.1, 10, .inl ik))] (va_A [(a, .inr (3, [.int 0, .long ns, .long sd, .int (nI n), .int k, .int lb, .int (nI q), .ref w1, .ref w2, .ref w3])), (w1, .inl (G.2.2.1, 100, .inl g)), (w2, .inl (G.2.2.2, 100, .inl h)), (w3, .inl (G.2.2.1, 10, .inl ik))] H.size)) 0 0 (va_A [(a, .inr (3, [.int 0, .long ns, .long sd, .int (nI n), .int k, .int lb, .int (nI q), .ref w1, .ref w2, .ref w3])), (w1, .inl (G.2.2.1, 100, .inl g)), (w2, .inl (G.2.2.2, 100, .inl h)), (w3, .inl (G.2.2.1, 10, .inl ik))] H.size) := by
  refine Met.ofW (cc := b_M_seed) (maxL := 5) (ret := (some .long)) (by decide) rfl ?_
  intro p e s m args below meth c s₁ B hml hv
  obtain ⟨rfl, hH, hKN⟩ := hv
  subst hH
  have hx := B.exec
  have hb := B.bytes
  have hr := B.returns
  have hts := atoms_spec (ws := (Cond.code y_M_seed b_M_seed 5 (some .long) :: TG)) B.pre
  have ht : ∀ w ∈ TG, w.before _ s = true := fun w h => hts w (List.mem_cons_of_mem _ h)
  have hown : s.vm.findClass R_M = some m.cls := findClass_of_methodNamed B.named
  have hlocks := B.notSynchronized
  have hK := hKN.1
  have hl := lv_entry ([.ref a, .long s1]) (n := 5) (Nat.le_of_ble_eq_true rfl)
  rw [lg_entry_eq]
  generalize (lg_sl ([.ref a, .long s1]) ++ List.replicate (5 - (lg_sl ([.ref a, .long s1])).length) Slot.unset).toArray = ls at hl ⊢
  have hl : lv_has ls 5 [(0, .ref a), (1, .long s1)] := hl
  have hD := hD0.self (sz := s.heap.size)
  generalize hAe : va_A [(a, .inr (3, [.int 0, .long ns, .long sd, .int (nI n), .int k, .int lb, .int (nI q), .ref w1, .ref w2, .ref w3])), (w1, .inl (G.2.2.1, 100, .inl g)), (w2, .inl (G.2.2.2, 100, .inl h)), (w3, .inl (G.2.2.1, 10, .inl ik))] s.heap.size = A at hD ⊢
  have hA : ∀ q : Nat, s.heap.size ≤ q → A q := fun q h => by rw [← hAe]; exact Or.inr h
  have hS : va_S A s.heap s.heap [] := va_S.rf
  refine lv_aload_n hx hb d_M_seed_0 rfl (lv_at hl 0 rfl) ?_
  refine lv_iconst (v := 0) hx hb d_M_seed_1 (by decide) ?_
  refine va_put (D := G.1) (ci := 3) (v := .int 0) (ty := .int) (C := R_M) (T := F_M) (N := 10) hx hb ht in_M t_M tk_M n_M hown hK hP hD hS 0 rfl rfl 0 (by decide) (ht _ kf_M_24) (fun _ h9 => h9) rfl (by decide +kernel) rfl rfl (Nat.le_of_ble_eq_true rfl) d_M_seed_2 (fun H locs hP hD hS => ?_)
  have hP : va_P G.1 classes [(a, .inr (3, [.int 0, .long ns, .long sd, .int (nI n), .int k, .int lb, .int (nI q), .ref w1, .ref w2, .ref w3])), (w1, .inl (G.2.2.1, 100, .inl g)), (w2, .inl (G.2.2.2, 100, .inl h)), (w3, .inl (G.2.2.1, 10, .inl ik))] H := hP
  have hD : va_D A [(a, .inr (3, [.int 0, .long ns, .long sd, .int (nI n), .int k, .int lb, .int (nI q), .ref w1, .ref w2, .ref w3])), (w1, .inl (G.2.2.1, 100, .inl g)), (w2, .inl (G.2.2.2, 100, .inl h)), (w3, .inl (G.2.2.1, 10, .inl ik))] := hD
  refine lv_aload_n hx hb d_M_seed_5 rfl (lv_at hl 0 rfl) ?_
  refine va_get (D := G.1) (ci := 3) (v := .long ns) (C := R_M) (T := F_M) (N := 10) hx hb ht in_M hown hK hP 0 rfl rfl 1 (by decide) (ht _ kf_M_20) (fun _ h9 => h9) rfl d_M_seed_6 ?_
  refine lv_lstore_n (lv' := [(3, .long ns), (0, .ref a), (1, .long s1)]) hx hb d_M_seed_9 rfl hl (by decide) rfl (fun ls hl => ?_)
  refine lv_aload_n hx hb d_M_seed_10 rfl (lv_at hl 1 rfl) ?_
  refine lv_lload_n hx hb d_M_seed_11 rfl (lv_at hl 2 rfl) ?_
  refine va_put (D := G.1) (ci := 3) (v := .long s1) (ty := .long) (C := R_M) (T := F_M) (N := 10) hx hb ht in_M t_M tk_M n_M hown hK hP hD hS 0 rfl rfl 1 (by decide) (ht _ kf_M_20) (fun _ h9 => h9) rfl (by decide +kernel) rfl rfl (Nat.le_of_ble_eq_true rfl) d_M_seed_12 (fun H locs hP hD hS => ?_)
  have hP : va_P G.1 classes [(a, .inr (3, [.int 0, .long s1, .long sd, .int (nI n), .int k, .int lb, .int (nI q), .ref w1, .ref w2, .ref w3])), (w1, .inl (G.2.2.1, 100, .inl g)), (w2, .inl (G.2.2.2, 100, .inl h)), (w3, .inl (G.2.2.1, 10, .inl ik))] H := hP
  have hD : va_D A [(a, .inr (3, [.int 0, .long s1, .long sd, .int (nI n), .int k, .int lb, .int (nI q), .ref w1, .ref w2, .ref w3])), (w1, .inl (G.2.2.1, 100, .inl g)), (w2, .inl (G.2.2.2, 100, .inl h)), (w3, .inl (G.2.2.1, 10, .inl ik))] := hD
  refine lv_lload_n hx hb d_M_seed_15 rfl (lv_at hl 0 rfl) ?_
  exact W.lret (v := ns) hx hb hr (fun t h9 _ => ⟨⟨ns, (), rfl, rfl, by show va_P _ _ _ t.heap; rw [h9]; exact hP⟩, hS.F h9⟩) hS.2.2 d_M_seed_16
def mdr (p1 p2 : Int32) : Int32 := if fn_M_in p1 0 4 = 0 then 0 else if fn_M_in p2 0 15 = 0 then 0 else 1
set_option maxHeartbeats 4000000 in
set_option maxRecDepth 100000 in
theorem c_M_draw_no (l : Launch) (G : GT) (H : Heap) (a : Nat) (w1 : Nat) (w2 : Nat) (w3 : Nat) (ns : Int64) (sd : Int64) (n : Nat) (k : Int32) (lb : Int32) (q : Nat) (g : Nat → Int32) (h : Nat → Int32) (ik : Nat → Int32) (p1 : Int32) (p2 : Int32) (hP : va_P G.1 classes [(a, .inr (3, [.int 0, .long ns, .long sd, .int (nI n), .int k, .int lb, .int (nI q), .ref w1, .ref w2, .ref w3])), (w1, .inl (G.2.2.1, 100, .inl g)), (w2, .inl (G.2.2.2, 100, .inl h)), (w3, .inl (G.2.2.1, 10, .inl ik))] H) (hD0 : va_D (fun _ => True) [(a, .inr (3, [.int 0, .long ns, .long sd, .int (nI n), .int k, .int lb, .int (nI q), .ref w1, .ref w2, .ref w3])), (w1, .inl (G.2.2.1, 100, .inl g)), (w2, .inl (G.2.2.2, 100, .inl h)), (w3, .inl (G.2.2.1, 10, .inl ik))]) (hn : n ≤ 16) (hq : q ≤ 100) (hdr : mdr p1 p2 = 0) : Met l y_M_draw (Cond.code y_M_draw b_M_draw 3 (some .int) :: TG) ({ frames := 1, cells := 0, slots := 0, locals := 22 }) (PC G H [.ref a, .int p1, .int p2]) (QMi G (-12) [(a, .inr (3, [.int 0, .long ns, .long sd, .int (nI n), .int k, .int lb, .int (nI q), .ref w1, .ref w2, .ref w3])), (w1, .inl (G.2.2.1, 100, .inl g)), (w2, .inl (G.2.2.2, 100, .inl h)), (w3, .inl (G.2.2.1, 10, .inl ik))] (va_A [(a, .inr (3, [.int 0, .long ns, .long sd, .int (nI n), .int k, .int lb, .int (nI q), .ref w1, .ref w2, .ref w3])), (w1, .inl (G.2.2.1, 100, .inl g)), (w2, .inl (G.2.2.2, 100, .inl h)), (w3, .inl (G.2.2.1, 10, .inl ik))] H.size)) 0 0 (va_A [(a, .inr (3, [.int 0, .long ns, .long sd, .int (nI n), .int k, .int lb, .int (nI q), .ref w1, .ref w2, .ref w3])), (w1, .inl (G.2.2.1, 100, .inl g)), (w2, .inl (G.2.2.2, 100, .inl h)), (w3, .inl (G.2.2.1, 10, .inl ik))] H.size) := by
  refine Met.ofW (cc := b_M_draw) (maxL := 3) (ret := (some .int)) (by decide) rfl ?_
  intro p e s m args below meth c s₁ B hml hv
  obtain ⟨rfl, hH, hKN⟩ := hv
  subst hH
  have hx := B.exec
  have hb := B.bytes
  have hr := B.returns
  have hts := atoms_spec (ws := (Cond.code y_M_draw b_M_draw 3 (some .int) :: TG)) B.pre
  have ht : ∀ w ∈ TG, w.before _ s = true := fun w h => hts w (List.mem_cons_of_mem _ h)
  have hown : s.vm.findClass R_M = some m.cls := findClass_of_methodNamed B.named
  have hlocks := B.notSynchronized
  have hK := hKN.1
  have hl := lv_entry ([.ref a, .int p1, .int p2]) (n := 3) (Nat.le_of_ble_eq_true rfl)
  rw [lg_entry_eq]
  generalize (lg_sl ([.ref a, .int p1, .int p2]) ++ List.replicate (3 - (lg_sl ([.ref a, .int p1, .int p2])).length) Slot.unset).toArray = ls at hl ⊢
  have hl : lv_has ls 3 [(0, .ref a), (1, .int p1), (2, .int p2)] := hl
  have hD := hD0.self (sz := s.heap.size)
  generalize hAe : va_A [(a, .inr (3, [.int 0, .long ns, .long sd, .int (nI n), .int k, .int lb, .int (nI q), .ref w1, .ref w2, .ref w3])), (w1, .inl (G.2.2.1, 100, .inl g)), (w2, .inl (G.2.2.2, 100, .inl h)), (w3, .inl (G.2.2.1, 10, .inl ik))] s.heap.size = A at hD ⊢
  have hA : ∀ q : Nat, s.heap.size ≤ q → A q := fun q h => by rw [← hAe]; exact Or.inr h
  have hS : va_S A s.heap s.heap [] := va_S.rf
  refine lv_aload_n hx hb d_M_draw_0 rfl (lv_at hl 0 rfl) ?_
  refine lv_iconst (v := 0) hx hb d_M_draw_1 (by decide) ?_
  refine va_put (D := G.1) (ci := 3) (v := .int 0) (ty := .int) (C := R_M) (T := F_M) (N := 10) hx hb ht in_M t_M tk_M n_M hown hK hP hD hS 0 rfl rfl 0 (by decide) (ht _ kf_M_24) (fun _ h9 => h9) rfl (by decide +kernel) rfl rfl (Nat.le_of_ble_eq_true rfl) d_M_draw_2 (fun H locs hP hD hS => ?_)
  have hP : va_P G.1 classes [(a, .inr (3, [.int 0, .long ns, .long sd, .int (nI n), .int k, .int lb, .int (nI q), .ref w1, .ref w2, .ref w3])), (w1, .inl (G.2.2.1, 100, .inl g)), (w2, .inl (G.2.2.2, 100, .inl h)), (w3, .inl (G.2.2.1, 10, .inl ik))] H := hP
  have hD : va_D A [(a, .inr (3, [.int 0, .long ns, .long sd, .int (nI n), .int k, .int lb, .int (nI q), .ref w1, .ref w2, .ref w3])), (w1, .inl (G.2.2.1, 100, .inl g)), (w2, .inl (G.2.2.2, 100, .inl h)), (w3, .inl (G.2.2.1, 10, .inl ik))] := hD
  refine lv_iload_n hx hb d_M_draw_5 rfl (lv_at hl 1 rfl) ?_
  refine lv_iconst (v := 0) hx hb d_M_draw_6 (by decide) ?_
  refine lv_iconst (v := 4) hx hb d_M_draw_7 (by decide) ?_
  refine pr_i (ru_S (As := [.int p1, .int 0, .int 4]) (rest := []) ⟨hx, hb, hml, hown, ht⟩ hKN (c_M_in l G _ p1 0 4) kc_M_52 ⟨rfl, rfl⟩ ⟨Nat.le_of_ble_eq_true rfl, Nat.le_of_ble_eq_true rfl⟩ rfl hl.1 rfl (Nat.le_of_ble_eq_true rfl) d_M_draw_8 ⟨Nat.le_of_ble_eq_true rfl, Nat.le_of_ble_eq_true rfl⟩) ?_
  refine lv_if_eq (tgt := 24) hx hb d_M_draw_11 (by decide) (fun c1 => ?_) (fun c1 => ?_)
  · refine lv_bipush (v := (-12)) hx hb d_M_draw_24 (by decide) ?_
    exact W.iret (v := (-12)) hx hb hr (fun t h9 _ => ⟨⟨(-12), (), rfl, rfl, by show va_P _ _ _ t.heap; rw [h9]; exact hP⟩, hS.F h9⟩) hS.2.2 d_M_draw_26
  · refine lv_iload_n hx hb d_M_draw_14 rfl (lv_at hl 2 rfl) ?_
    refine lv_iconst (v := 0) hx hb d_M_draw_15 (by decide) ?_
    refine lv_bipush (v := 15) hx hb d_M_draw_16 (by decide) ?_
    refine pr_i (ru_S (As := [.int p2, .int 0, .int 15]) (rest := []) ⟨hx, hb, hml, hown, ht⟩ hKN (c_M_in l G _ p2 0 15) kc_M_52 ⟨rfl, rfl⟩ ⟨Nat.le_of_ble_eq_true rfl, Nat.le_of_ble_eq_true rfl⟩ rfl hl.1 rfl (Nat.le_of_ble_eq_true rfl) d_M_draw_18 ⟨Nat.le_of_ble_eq_true rfl, Nat.le_of_ble_eq_true rfl⟩) ?_
    refine lv_if_ne (tgt := 27) hx hb d_M_draw_21 (by decide) (fun c2 => ?_) (fun c2 => ?_)
    · exact absurd (hdr.symm.trans (by unfold mdr; rw [if_neg c1, if_neg c2])) (by decide)
    · refine lv_bipush (v := (-12)) hx hb d_M_draw_24 (by decide) ?_
      exact W.iret (v := (-12)) hx hb hr (fun t h9 _ => ⟨⟨(-12), (), rfl, rfl, by show va_P _ _ _ t.heap; rw [h9]; exact hP⟩, hS.F h9⟩) hS.2.2 d_M_draw_26
set_option maxHeartbeats 4000000 in
set_option maxRecDepth 100000 in
theorem c_M_draw (l : Launch) (G : GT) (H : Heap) (a : Nat) (w1 : Nat) (w2 : Nat) (w3 : Nat) (ns : Int64) (sd : Int64) (n : Nat) (k : Int32) (lb : Int32) (q : Nat) (g : Nat → Int32) (h : Nat → Int32) (ik : Nat → Int32) (p1 : Int32) (p2 : Nat) (hP : va_P G.1 classes [(a, .inr (3, [.int 0, .long ns, .long sd, .int (nI n), .int k, .int lb, .int (nI q), .ref w1, .ref w2, .ref w3])), (w1, .inl (G.2.2.1, 100, .inl g)), (w2, .inl (G.2.2.2, 100, .inl h)), (w3, .inl (G.2.2.1, 10, .inl ik))] H) (hD0 : va_D (fun _ => True) [(a, .inr (3, [.int 0, .long ns, .long sd, .int (nI n), .int k, .int lb, .int (nI q), .ref w1, .ref w2, .ref w3])), (w1, .inl (G.2.2.1, 100, .inl g)), (w2, .inl (G.2.2.2, 100, .inl h)), (w3, .inl (G.2.2.1, 10, .inl ik))]) (hn : n ≤ 16) (hq : q ≤ 100) (hdr : ¬ mdr p1 (nI p2) = 0) : Met l y_M_draw (Cond.code y_M_draw b_M_draw 3 (some .int) :: TG) ({ frames := 1, cells := 0, slots := 0, locals := 22 }) (PC G H [.ref a, .int p1, .int (nI p2)]) (QMi G (nI (p2 + 1)) [(a, .inr (3, [.int 0, .long ns, .long ns, .int (nI (p2 + 1)), .int p1, .int (((1 : Int32) <<< (nI (p2 + 1) &&& 31)) - 1), .int (nI 0), .ref w1, .ref w2, .ref w3])), (w1, .inl (G.2.2.1, 100, .inl g)), (w2, .inl (G.2.2.2, 100, .inl h)), (w3, .inl (G.2.2.1, 10, .inl ik))] (va_A [(a, .inr (3, [.int 0, .long ns, .long sd, .int (nI n), .int k, .int lb, .int (nI q), .ref w1, .ref w2, .ref w3])), (w1, .inl (G.2.2.1, 100, .inl g)), (w2, .inl (G.2.2.2, 100, .inl h)), (w3, .inl (G.2.2.1, 10, .inl ik))] H.size)) 0 0 (va_A [(a, .inr (3, [.int 0, .long ns, .long sd, .int (nI n), .int k, .int lb, .int (nI q), .ref w1, .ref w2, .ref w3])), (w1, .inl (G.2.2.1, 100, .inl g)), (w2, .inl (G.2.2.2, 100, .inl h)), (w3, .inl (G.2.2.1, 10, .inl ik))] H.size) := by
  refine Met.ofW (cc := b_M_draw) (maxL := 3) (ret := (some .int)) (by decide) rfl ?_
  intro p e s m args below meth c s₁ B hml hv
  obtain ⟨rfl, hH, hKN⟩ := hv
  subst hH
  have hx := B.exec
  have hb := B.bytes
  have hr := B.returns
  have hts := atoms_spec (ws := (Cond.code y_M_draw b_M_draw 3 (some .int) :: TG)) B.pre
  have ht : ∀ w ∈ TG, w.before _ s = true := fun w h => hts w (List.mem_cons_of_mem _ h)
  have hown : s.vm.findClass R_M = some m.cls := findClass_of_methodNamed B.named
  have hlocks := B.notSynchronized
  have hK := hKN.1
  have hl := lv_entry ([.ref a, .int p1, .int (nI p2)]) (n := 3) (Nat.le_of_ble_eq_true rfl)
  rw [lg_entry_eq]
  generalize (lg_sl ([.ref a, .int p1, .int (nI p2)]) ++ List.replicate (3 - (lg_sl ([.ref a, .int p1, .int (nI p2)])).length) Slot.unset).toArray = ls at hl ⊢
  have hl : lv_has ls 3 [(0, .ref a), (1, .int p1), (2, .int (nI p2))] := hl
  have hD := hD0.self (sz := s.heap.size)
  generalize hAe : va_A [(a, .inr (3, [.int 0, .long ns, .long sd, .int (nI n), .int k, .int lb, .int (nI q), .ref w1, .ref w2, .ref w3])), (w1, .inl (G.2.2.1, 100, .inl g)), (w2, .inl (G.2.2.2, 100, .inl h)), (w3, .inl (G.2.2.1, 10, .inl ik))] s.heap.size = A at hD ⊢
  have hA : ∀ q : Nat, s.heap.size ≤ q → A q := fun q h => by rw [← hAe]; exact Or.inr h
  have hS : va_S A s.heap s.heap [] := va_S.rf
  refine lv_aload_n hx hb d_M_draw_0 rfl (lv_at hl 0 rfl) ?_
  refine lv_iconst (v := 0) hx hb d_M_draw_1 (by decide) ?_
  refine va_put (D := G.1) (ci := 3) (v := .int 0) (ty := .int) (C := R_M) (T := F_M) (N := 10) hx hb ht in_M t_M tk_M n_M hown hK hP hD hS 0 rfl rfl 0 (by decide) (ht _ kf_M_24) (fun _ h9 => h9) rfl (by decide +kernel) rfl rfl (Nat.le_of_ble_eq_true rfl) d_M_draw_2 (fun H locs hP hD hS => ?_)
  have hP : va_P G.1 classes [(a, .inr (3, [.int 0, .long ns, .long sd, .int (nI n), .int k, .int lb, .int (nI q), .ref w1, .ref w2, .ref w3])), (w1, .inl (G.2.2.1, 100, .inl g)), (w2, .inl (G.2.2.2, 100, .inl h)), (w3, .inl (G.2.2.1, 10, .inl ik))] H := hP
  have hD : va_D A [(a, .inr (3, [.int 0, .long ns, .long sd, .int (nI n), .int k, .int lb, .int (nI q), .ref w1, .ref w2, .ref w3])), (w1, .inl (G.2.2.1, 100, .inl g)), (w2, .inl (G.2.2.2, 100, .inl h)), (w3, .inl (G.2.2.1, 10, .inl ik))] := hD
  refine lv_iload_n hx hb d_M_draw_5 rfl (lv_at hl 1 rfl) ?_
  refine lv_iconst (v := 0) hx hb d_M_draw_6 (by decide) ?_
  refine lv_iconst (v := 4) hx hb d_M_draw_7 (by decide) ?_
  refine pr_i (ru_S (As := [.int p1, .int 0, .int 4]) (rest := []) ⟨hx, hb, hml, hown, ht⟩ hKN (c_M_in l G _ p1 0 4) kc_M_52 ⟨rfl, rfl⟩ ⟨Nat.le_of_ble_eq_true rfl, Nat.le_of_ble_eq_true rfl⟩ rfl hl.1 rfl (Nat.le_of_ble_eq_true rfl) d_M_draw_8 ⟨Nat.le_of_ble_eq_true rfl, Nat.le_of_ble_eq_true rfl⟩) ?_
  refine lv_if_eq (tgt := 24) hx hb d_M_draw_11 (by decide) (fun c1 => ?_) (fun c1 => ?_)
  · exact absurd (by unfold mdr; rw [if_pos c1]) hdr
  · refine lv_iload_n hx hb d_M_draw_14 rfl (lv_at hl 2 rfl) ?_
    refine lv_iconst (v := 0) hx hb d_M_draw_15 (by decide) ?_
    refine lv_bipush (v := 15) hx hb d_M_draw_16 (by decide) ?_
    refine pr_i (ru_S (As := [.int (nI p2), .int 0, .int 15]) (rest := []) ⟨hx, hb, hml, hown, ht⟩ hKN (c_M_in l G _ (nI p2) 0 15) kc_M_52 ⟨rfl, rfl⟩ ⟨Nat.le_of_ble_eq_true rfl, Nat.le_of_ble_eq_true rfl⟩ rfl hl.1 rfl (Nat.le_of_ble_eq_true rfl) d_M_draw_18 ⟨Nat.le_of_ble_eq_true rfl, Nat.le_of_ble_eq_true rfl⟩) ?_
    refine lv_if_ne (tgt := 27) hx hb d_M_draw_21 (by decide) (fun c2 => ?_) (fun c2 => ?_)
    · refine lv_aload_n hx hb d_M_draw_27 rfl (lv_at hl 0 rfl) ?_
      refine lv_aload_n hx hb d_M_draw_28 rfl (lv_at hl 0 rfl) ?_
      refine va_get (D := G.1) (ci := 3) (v := .long ns) (C := R_M) (T := F_M) (N := 10) hx hb ht in_M hown hK hP 0 rfl rfl 1 (by decide) (ht _ kf_M_20) (fun _ h9 => h9) rfl d_M_draw_29 ?_
      refine va_put (D := G.1) (ci := 3) (v := .long ns) (ty := .long) (C := R_M) (T := F_M) (N := 10) hx hb ht in_M t_M tk_M n_M hown hK hP hD hS 0 rfl rfl 2 (by decide) (ht _ kf_M_56) (fun _ h9 => h9) rfl (by decide +kernel) rfl rfl (Nat.le_of_ble_eq_true rfl) d_M_draw_32 (fun H locs hP hD hS => ?_)
      have hP : va_P G.1 classes [(a, .inr (3, [.int 0, .long ns, .long ns, .int (nI n), .int k, .int lb, .int (nI q), .ref w1, .ref w2, .ref w3])), (w1, .inl (G.2.2.1, 100, .inl g)), (w2, .inl (G.2.2.2, 100, .inl h)), (w3, .inl (G.2.2.1, 10, .inl ik))] H := hP
      have hD : va_D A [(a, .inr (3, [.int 0, .long ns, .long ns, .int (nI n), .int k, .int lb, .int (nI q), .ref w1, .ref w2, .ref w3])), (w1, .inl (G.2.2.1, 100, .inl g)), (w2, .inl (G.2.2.2, 100, .inl h)), (w3, .inl (G.2.2.1, 10, .inl ik))] := hD
      refine lv_aload_n hx hb d_M_draw_35 rfl (lv_at hl 0 rfl) ?_
      refine lv_iload_n hx hb d_M_draw_36 rfl (lv_at hl 1 rfl) ?_
      refine va_put (D := G.1) (ci := 3) (v := .int p1) (ty := .int) (C := R_M) (T := F_M) (N := 10) hx hb ht in_M t_M tk_M n_M hown hK hP hD hS 0 rfl rfl 4 (by decide) (ht _ kf_M_59) (fun _ h9 => h9) rfl (by decide +kernel) rfl rfl (Nat.le_of_ble_eq_true rfl) d_M_draw_37 (fun H locs hP hD hS => ?_)
      have hP : va_P G.1 classes [(a, .inr (3, [.int 0, .long ns, .long ns, .int (nI n), .int p1, .int lb, .int (nI q), .ref w1, .ref w2, .ref w3])), (w1, .inl (G.2.2.1, 100, .inl g)), (w2, .inl (G.2.2.2, 100, .inl h)), (w3, .inl (G.2.2.1, 10, .inl ik))] H := hP
      have hD : va_D A [(a, .inr (3, [.int 0, .long ns, .long ns, .int (nI n), .int p1, .int lb, .int (nI q), .ref w1, .ref w2, .ref w3])), (w1, .inl (G.2.2.1, 100, .inl g)), (w2, .inl (G.2.2.2, 100, .inl h)), (w3, .inl (G.2.2.1, 10, .inl ik))] := hD
      refine lv_aload_n hx hb d_M_draw_40 rfl (lv_at hl 0 rfl) ?_
      refine lv_iload_n hx hb d_M_draw_41 rfl (lv_at hl 2 rfl) ?_
      refine lv_iconst (v := 1) hx hb d_M_draw_42 (by decide) ?_
      refine lv_iadd hx hb d_M_draw_43 ?_
      rw [show nI p2 + 1 = nI (p2 + 1) from nI_add p2 1]
      refine va_put (D := G.1) (ci := 3) (v := .int (nI (p2 + 1))) (ty := .int) (C := R_M) (T := F_M) (N := 10) hx hb ht in_M t_M tk_M n_M hown hK hP hD hS 0 rfl rfl 3 (by decide) (ht _ kf_M_62) (fun _ h9 => h9) rfl (by decide +kernel) rfl rfl (Nat.le_of_ble_eq_true rfl) d_M_draw_44 (fun H locs hP hD hS => ?_)
      have hP : va_P G.1 classes [(a, .inr (3, [.int 0, .long ns, .long ns, .int (nI (p2 + 1)), .int p1, .int lb, .int (nI q), .ref w1, .ref w2, .ref w3])), (w1, .inl (G.2.2.1, 100, .inl g)), (w2, .inl (G.2.2.2, 100, .inl h)), (w3, .inl (G.2.2.1, 10, .inl ik))] H := hP
      have hD : va_D A [(a, .inr (3, [.int 0, .long ns, .long ns, .int (nI (p2 + 1)), .int p1, .int lb, .int (nI q), .ref w1, .ref w2, .ref w3])), (w1, .inl (G.2.2.1, 100, .inl g)), (w2, .inl (G.2.2.2, 100, .inl h)), (w3, .inl (G.2.2.1, 10, .inl ik))] := hD
      refine lv_aload_n hx hb d_M_draw_47 rfl (lv_at hl 0 rfl) ?_
      refine lv_iconst (v := 1) hx hb d_M_draw_48 (by decide) ?_
      refine lv_aload_n hx hb d_M_draw_49 rfl (lv_at hl 0 rfl) ?_
      refine va_get (D := G.1) (ci := 3) (v := .int (nI (p2 + 1))) (C := R_M) (T := F_M) (N := 10) hx hb ht in_M hown hK hP 0 rfl rfl 3 (by decide) (ht _ kf_M_62) (fun _ h9 => h9) rfl d_M_draw_50 ?_
      refine lv_ishl hx hb d_M_draw_53 ?_
      refine lv_iconst (v := 1) hx hb d_M_draw_54 (by decide) ?_
      refine lv_isub hx hb d_M_draw_55 ?_
      refine va_put (D := G.1) (ci := 3) (v := .int (((1 : Int32) <<< ((nI (p2 + 1)) &&& 31)) - 1)) (ty := .int) (C := R_M) (T := F_M) (N := 10) hx hb ht in_M t_M tk_M n_M hown hK hP hD hS 0 rfl rfl 5 (by decide) (ht _ kf_M_65) (fun _ h9 => h9) rfl (by decide +kernel) rfl rfl (Nat.le_of_ble_eq_true rfl) d_M_draw_56 (fun H locs hP hD hS => ?_)
      have hP : va_P G.1 classes [(a, .inr (3, [.int 0, .long ns, .long ns, .int (nI (p2 + 1)), .int p1, .int (((1 : Int32) <<< ((nI (p2 + 1)) &&& 31)) - 1), .int (nI q), .ref w1, .ref w2, .ref w3])), (w1, .inl (G.2.2.1, 100, .inl g)), (w2, .inl (G.2.2.2, 100, .inl h)), (w3, .inl (G.2.2.1, 10, .inl ik))] H := hP
      have hD : va_D A [(a, .inr (3, [.int 0, .long ns, .long ns, .int (nI (p2 + 1)), .int p1, .int (((1 : Int32) <<< ((nI (p2 + 1)) &&& 31)) - 1), .int (nI q), .ref w1, .ref w2, .ref w3])), (w1, .inl (G.2.2.1, 100, .inl g)), (w2, .inl (G.2.2.2, 100, .inl h)), (w3, .inl (G.2.2.1, 10, .inl ik))] := hD
      refine lv_aload_n hx hb d_M_draw_59 rfl (lv_at hl 0 rfl) ?_
      refine lv_iconst (v := 0) hx hb d_M_draw_60 (by decide) ?_
      refine va_put (D := G.1) (ci := 3) (v := .int 0) (ty := .int) (C := R_M) (T := F_M) (N := 10) hx hb ht in_M t_M tk_M n_M hown hK hP hD hS 0 rfl rfl 6 (by decide) (ht _ kf_M_68) (fun _ h9 => h9) rfl (by decide +kernel) rfl rfl (Nat.le_of_ble_eq_true rfl) d_M_draw_61 (fun H locs hP hD hS => ?_)
      have hP : va_P G.1 classes [(a, .inr (3, [.int 0, .long ns, .long ns, .int (nI (p2 + 1)), .int p1, .int (((1 : Int32) <<< ((nI (p2 + 1)) &&& 31)) - 1), .int 0, .ref w1, .ref w2, .ref w3])), (w1, .inl (G.2.2.1, 100, .inl g)), (w2, .inl (G.2.2.2, 100, .inl h)), (w3, .inl (G.2.2.1, 10, .inl ik))] H := hP
      have hD : va_D A [(a, .inr (3, [.int 0, .long ns, .long ns, .int (nI (p2 + 1)), .int p1, .int (((1 : Int32) <<< ((nI (p2 + 1)) &&& 31)) - 1), .int 0, .ref w1, .ref w2, .ref w3])), (w1, .inl (G.2.2.1, 100, .inl g)), (w2, .inl (G.2.2.2, 100, .inl h)), (w3, .inl (G.2.2.1, 10, .inl ik))] := hD
      refine lv_aload_n hx hb d_M_draw_64 rfl (lv_at hl 0 rfl) ?_
      refine va_get (D := G.1) (ci := 3) (v := .int (nI (p2 + 1))) (C := R_M) (T := F_M) (N := 10) hx hb ht in_M hown hK hP 0 rfl rfl 3 (by decide) (ht _ kf_M_62) (fun _ h9 => h9) rfl d_M_draw_65 ?_
      exact W.iret (v := (nI (p2 + 1))) hx hb hr (fun t h9 _ => ⟨⟨(nI (p2 + 1)), (), rfl, rfl, by show va_P _ _ _ t.heap; rw [h9]; exact hP⟩, hS.F h9⟩) hS.2.2 d_M_draw_68
    · exact absurd (by unfold mdr; rw [if_neg c1, if_pos c2]) hdr
def fn_M_part (sd : Int64) (n : Nat) (k : Int32) (p1 : Int32) (p2 : Int32) : Int32 := (if (fn_M_in p1 0 ((nI n) - 1)) = 0 then (-1) else (if (fn_M_in p2 0 4) = 0 then (-12) else (if p2 = 0 then (if (hf sd k n p1) = 0 then 0 else 1) else (fn_M_fact (zN sd k p1) p2))))
set_option maxHeartbeats 4000000 in
set_option maxRecDepth 100000 in
theorem c_M_part (l : Launch) (G : GT) (H : Heap) (a : Nat) (w1 : Nat) (w2 : Nat) (w3 : Nat) (ns : Int64) (sd : Int64) (n : Nat) (k : Int32) (lb : Int32) (q : Nat) (g : Nat → Int32) (h : Nat → Int32) (ik : Nat → Int32) (p1 : Int32) (p2 : Int32) (hP : va_P G.1 classes [(a, .inr (3, [.int 0, .long ns, .long sd, .int (nI n), .int k, .int lb, .int (nI q), .ref w1, .ref w2, .ref w3])), (w1, .inl (G.2.2.1, 100, .inl g)), (w2, .inl (G.2.2.2, 100, .inl h)), (w3, .inl (G.2.2.1, 10, .inl ik))] H) (hD0 : va_D (fun _ => True) [(a, .inr (3, [.int 0, .long ns, .long sd, .int (nI n), .int k, .int lb, .int (nI q), .ref w1, .ref w2, .ref w3])), (w1, .inl (G.2.2.1, 100, .inl g)), (w2, .inl (G.2.2.2, 100, .inl h)), (w3, .inl (G.2.2.1, 10, .inl ik))]) (hn : n ≤ 16) (hq : q ≤ 100) : Met l y_M_part (Cond.code y_M_part b_M_part 3 (some .int) :: TG) ({ frames := 2, cells := 0, slots := 0, locals := 55 }) (PC G H [.ref a, .int p1, .int p2]) (QMi G (fn_M_part sd n k p1 p2) [(a, .inr (3, [.int 0, .long ns, .long sd, .int (nI n), .int k, .int lb, .int (nI q), .ref w1, .ref w2, .ref w3])), (w1, .inl (G.2.2.1, 100, .inl g)), (w2, .inl (G.2.2.2, 100, .inl h)), (w3, .inl (G.2.2.1, 10, .inl ik))] (va_A [(a, .inr (3, [.int 0, .long ns, .long sd, .int (nI n), .int k, .int lb, .int (nI q), .ref w1, .ref w2, .ref w3])), (w1, .inl (G.2.2.1, 100, .inl g)), (w2, .inl (G.2.2.2, 100, .inl h)), (w3, .inl (G.2.2.1, 10, .inl ik))] H.size)) 0 0 (va_A [(a, .inr (3, [.int 0, .long ns, .long sd, .int (nI n), .int k, .int lb, .int (nI q), .ref w1, .ref w2, .ref w3])), (w1, .inl (G.2.2.1, 100, .inl g)), (w2, .inl (G.2.2.2, 100, .inl h)), (w3, .inl (G.2.2.1, 10, .inl ik))] H.size) := by
  refine Met.ofW (cc := b_M_part) (maxL := 3) (ret := (some .int)) (by decide) rfl ?_
  intro p e s m args below meth c s₁ B hml hv
  obtain ⟨rfl, hH, hKN⟩ := hv
  subst hH
  have hx := B.exec
  have hb := B.bytes
  have hr := B.returns
  have hts := atoms_spec (ws := (Cond.code y_M_part b_M_part 3 (some .int) :: TG)) B.pre
  have ht : ∀ w ∈ TG, w.before _ s = true := fun w h => hts w (List.mem_cons_of_mem _ h)
  have hown : s.vm.findClass R_M = some m.cls := findClass_of_methodNamed B.named
  have hlocks := B.notSynchronized
  have hK := hKN.1
  have hl := lv_entry ([.ref a, .int p1, .int p2]) (n := 3) (Nat.le_of_ble_eq_true rfl)
  rw [lg_entry_eq]
  generalize (lg_sl ([.ref a, .int p1, .int p2]) ++ List.replicate (3 - (lg_sl ([.ref a, .int p1, .int p2])).length) Slot.unset).toArray = ls at hl ⊢
  have hl : lv_has ls 3 [(0, .ref a), (1, .int p1), (2, .int p2)] := hl
  have hD := hD0.self (sz := s.heap.size)
  generalize hAe : va_A [(a, .inr (3, [.int 0, .long ns, .long sd, .int (nI n), .int k, .int lb, .int (nI q), .ref w1, .ref w2, .ref w3])), (w1, .inl (G.2.2.1, 100, .inl g)), (w2, .inl (G.2.2.2, 100, .inl h)), (w3, .inl (G.2.2.1, 10, .inl ik))] s.heap.size = A at hD ⊢
  have hA : ∀ q : Nat, s.heap.size ≤ q → A q := fun q h => by rw [← hAe]; exact Or.inr h
  have hS : va_S A s.heap s.heap [] := va_S.rf
  refine lv_aload_n hx hb d_M_part_0 rfl (lv_at hl 0 rfl) ?_
  refine lv_iconst (v := 0) hx hb d_M_part_1 (by decide) ?_
  refine va_put (D := G.1) (ci := 3) (v := .int 0) (ty := .int) (C := R_M) (T := F_M) (N := 10) hx hb ht in_M t_M tk_M n_M hown hK hP hD hS 0 rfl rfl 0 (by decide) (ht _ kf_M_24) (fun _ h9 => h9) rfl (by decide +kernel) rfl rfl (Nat.le_of_ble_eq_true rfl) d_M_part_2 (fun H locs hP hD hS => ?_)
  have hP : va_P G.1 classes [(a, .inr (3, [.int 0, .long ns, .long sd, .int (nI n), .int k, .int lb, .int (nI q), .ref w1, .ref w2, .ref w3])), (w1, .inl (G.2.2.1, 100, .inl g)), (w2, .inl (G.2.2.2, 100, .inl h)), (w3, .inl (G.2.2.1, 10, .inl ik))] H := hP
  have hD : va_D A [(a, .inr (3, [.int 0, .long ns, .long sd, .int (nI n), .int k, .int lb, .int (nI q), .ref w1, .ref w2, .ref w3])), (w1, .inl (G.2.2.1, 100, .inl g)), (w2, .inl (G.2.2.2, 100, .inl h)), (w3, .inl (G.2.2.1, 10, .inl ik))] := hD
  refine lv_iload_n hx hb d_M_part_5 rfl (lv_at hl 1 rfl) ?_
  refine lv_iconst (v := 0) hx hb d_M_part_6 (by decide) ?_
  refine lv_aload_n hx hb d_M_part_7 rfl (lv_at hl 0 rfl) ?_
  refine va_get (D := G.1) (ci := 3) (v := .int (nI n)) (C := R_M) (T := F_M) (N := 10) hx hb ht in_M hown hK hP 0 rfl rfl 3 (by decide) (ht _ kf_M_62) (fun _ h9 => h9) rfl d_M_part_8 ?_
  refine lv_iconst (v := 1) hx hb d_M_part_11 (by decide) ?_
  refine lv_isub hx hb d_M_part_12 ?_
  refine pr_i (ru_S (As := [.int p1, .int 0, .int ((nI n) - 1)]) (rest := []) ⟨hx, hb, hml, hown, ht⟩ hKN (c_M_in l G _ p1 0 ((nI n) - 1)) kc_M_52 ⟨rfl, rfl⟩ ⟨Nat.le_of_ble_eq_true rfl, Nat.le_of_ble_eq_true rfl⟩ rfl hl.1 rfl (Nat.le_of_ble_eq_true rfl) d_M_part_13 ⟨Nat.le_of_ble_eq_true rfl, Nat.le_of_ble_eq_true rfl⟩) ?_
  refine lv_if_ne (tgt := 21) hx hb d_M_part_16 (by decide) (fun c1 => ?_) (fun c1 => ?_)
  · refine lv_iload_n hx hb d_M_part_21 rfl (lv_at hl 2 rfl) ?_
    refine lv_iconst (v := 0) hx hb d_M_part_22 (by decide) ?_
    refine lv_iconst (v := 4) hx hb d_M_part_23 (by decide) ?_
    refine pr_i (ru_S (As := [.int p2, .int 0, .int 4]) (rest := []) ⟨hx, hb, hml, hown, ht⟩ hKN (c_M_in l G _ p2 0 4) kc_M_52 ⟨rfl, rfl⟩ ⟨Nat.le_of_ble_eq_true rfl, Nat.le_of_ble_eq_true rfl⟩ rfl hl.1 rfl (Nat.le_of_ble_eq_true rfl) d_M_part_24 ⟨Nat.le_of_ble_eq_true rfl, Nat.le_of_ble_eq_true rfl⟩) ?_
    refine lv_if_ne (tgt := 33) hx hb d_M_part_27 (by decide) (fun c2 => ?_) (fun c2 => ?_)
    · refine lv_iload_n hx hb d_M_part_33 rfl (lv_at hl 2 rfl) ?_
      refine lv_if_ne (tgt := 62) hx hb d_M_part_34 (by decide) (fun c3 => ?_) (fun c3 => ?_)
      · refine lv_aload_n hx hb d_M_part_62 rfl (lv_at hl 0 rfl) ?_
        refine va_get (D := G.1) (ci := 3) (v := .long sd) (C := R_M) (T := F_M) (N := 10) hx hb ht in_M hown hK hP 0 rfl rfl 2 (by decide) (ht _ kf_M_56) (fun _ h9 => h9) rfl d_M_part_63 ?_
        refine lv_aload_n hx hb d_M_part_66 rfl (lv_at hl 0 rfl) ?_
        refine va_get (D := G.1) (ci := 3) (v := .int k) (C := R_M) (T := F_M) (N := 10) hx hb ht in_M hown hK hP 0 rfl rfl 4 (by decide) (ht _ kf_M_59) (fun _ h9 => h9) rfl d_M_part_67 ?_
        refine lv_iload_n hx hb d_M_part_70 rfl (lv_at hl 1 rfl) ?_
        refine pr_l (ru_S (As := [.long sd, .int k, .int p1]) (rest := []) ⟨hx, hb, hml, hown, ht⟩ hKN (c_M_number l G _ sd k p1) kc_M_44 ⟨rfl, rfl⟩ ⟨Nat.le_of_ble_eq_true rfl, Nat.le_of_ble_eq_true rfl⟩ rfl hl.1 rfl (Nat.le_of_ble_eq_true rfl) d_M_part_71 ⟨Nat.le_of_ble_eq_true rfl, Nat.le_of_ble_eq_true rfl⟩) ?_
        refine lv_iload_n hx hb d_M_part_74 rfl (lv_at hl 2 rfl) ?_
        refine pr_i (ru_S (As := [.long (zN sd k p1), .int p2]) (rest := []) ⟨hx, hb, hml, hown, ht⟩ hKN (c_M_fact l G _ (zN sd k p1) p2) kc_M_75 ⟨rfl, rfl⟩ ⟨Nat.le_of_ble_eq_true rfl, Nat.le_of_ble_eq_true rfl⟩ rfl hl.1 rfl (Nat.le_of_ble_eq_true rfl) d_M_part_75 ⟨Nat.le_of_ble_eq_true rfl, Nat.le_of_ble_eq_true rfl⟩) ?_
        exact W.iret (v := (fn_M_fact (zN sd k p1) p2)) hx hb hr (fun t h9 _ => ⟨⟨(fn_M_fact (zN sd k p1) p2), (), rfl, (by unfold fn_M_part; rw [if_neg c1, if_neg c2, if_neg c3]), by show va_P _ _ _ t.heap; rw [h9]; exact hP⟩, hS.F h9⟩) hS.2.2 d_M_part_78
      · refine lv_aload_n hx hb d_M_part_37 rfl (lv_at hl 0 rfl) ?_
        refine va_get (D := G.1) (ci := 3) (v := .long sd) (C := R_M) (T := F_M) (N := 10) hx hb ht in_M hown hK hP 0 rfl rfl 2 (by decide) (ht _ kf_M_56) (fun _ h9 => h9) rfl d_M_part_38 ?_
        refine lv_aload_n hx hb d_M_part_41 rfl (lv_at hl 0 rfl) ?_
        refine va_get (D := G.1) (ci := 3) (v := .int k) (C := R_M) (T := F_M) (N := 10) hx hb ht in_M hown hK hP 0 rfl rfl 4 (by decide) (ht _ kf_M_59) (fun _ h9 => h9) rfl d_M_part_42 ?_
        refine lv_aload_n hx hb d_M_part_45 rfl (lv_at hl 0 rfl) ?_
        refine va_get (D := G.1) (ci := 3) (v := .int (nI n)) (C := R_M) (T := F_M) (N := 10) hx hb ht in_M hown hK hP 0 rfl rfl 3 (by decide) (ht _ kf_M_62) (fun _ h9 => h9) rfl d_M_part_46 ?_
        refine lv_iload_n hx hb d_M_part_49 rfl (lv_at hl 1 rfl) ?_
        refine pr_i (ru_S (As := [.long sd, .int k, .int (nI n), .int p1]) (rest := []) ⟨hx, hb, hml, hown, ht⟩ hKN (c_M_hasFaults l G _ sd k n p1 (show n ≤ 16 by omega)) kc_M_71 ⟨rfl, rfl⟩ ⟨Nat.le_of_ble_eq_true rfl, Nat.le_of_ble_eq_true rfl⟩ rfl hl.1 rfl (Nat.le_of_ble_eq_true rfl) d_M_part_50 ⟨Nat.le_of_ble_eq_true rfl, Nat.le_of_ble_eq_true rfl⟩) ?_
        refine lv_if_eq (tgt := 60) hx hb d_M_part_53 (by decide) (fun c4 => ?_) (fun c4 => ?_)
        · refine lv_iconst (v := 0) hx hb d_M_part_60 (by decide) ?_
          exact W.iret (v := 0) hx hb hr (fun t h9 _ => ⟨⟨0, (), rfl, (by unfold fn_M_part; rw [if_neg c1, if_neg c2, if_pos c3, if_pos c4]), by show va_P _ _ _ t.heap; rw [h9]; exact hP⟩, hS.F h9⟩) hS.2.2 d_M_part_61
        · refine lv_iconst (v := 1) hx hb d_M_part_56 (by decide) ?_
          refine lv_goto (tgt := 61) hx hb d_M_part_57 (by decide) ?_
          exact W.iret (v := 1) hx hb hr (fun t h9 _ => ⟨⟨1, (), rfl, (by unfold fn_M_part; rw [if_neg c1, if_neg c2, if_pos c3, if_neg c4]), by show va_P _ _ _ t.heap; rw [h9]; exact hP⟩, hS.F h9⟩) hS.2.2 d_M_part_61
    · refine lv_bipush (v := (-12)) hx hb d_M_part_30 (by decide) ?_
      exact W.iret (v := (-12)) hx hb hr (fun t h9 _ => ⟨⟨(-12), (), rfl, (by unfold fn_M_part; rw [if_neg c1, if_pos c2]), by show va_P _ _ _ t.heap; rw [h9]; exact hP⟩, hS.F h9⟩) hS.2.2 d_M_part_32
  · refine lv_iconst (v := (-1)) hx hb d_M_part_19 (by decide) ?_
    exact W.iret (v := (-1)) hx hb hr (fun t h9 _ => ⟨⟨(-1), (), rfl, (by unfold fn_M_part; rw [if_pos c1]), by show va_P _ _ _ t.heap; rw [h9]; exact hP⟩, hS.F h9⟩) hS.2.2 d_M_part_20
def fn_M_faultless (sd : Int64) (n : Nat) (k : Int32) (p1 : Int32) : Int32 := (if k = 3 then (if (fn_M_in p1 0 ((nI n) - 1)) = 0 then 0 else (if (hf sd k n p1) = 0 then 1 else 0)) else 0)
set_option maxHeartbeats 4000000 in
set_option maxRecDepth 100000 in
theorem c_M_faultless (l : Launch) (G : GT) (H : Heap) (a : Nat) (w1 : Nat) (w2 : Nat) (w3 : Nat) (ns : Int64) (sd : Int64) (n : Nat) (k : Int32) (lb : Int32) (q : Nat) (g : Nat → Int32) (h : Nat → Int32) (ik : Nat → Int32) (p1 : Int32) (hP : va_P G.1 classes [(a, .inr (3, [.int 0, .long ns, .long sd, .int (nI n), .int k, .int lb, .int (nI q), .ref w1, .ref w2, .ref w3])), (w1, .inl (G.2.2.1, 100, .inl g)), (w2, .inl (G.2.2.2, 100, .inl h)), (w3, .inl (G.2.2.1, 10, .inl ik))] H) (hD0 : va_D (fun _ => True) [(a, .inr (3, [.int 0, .long ns, .long sd, .int (nI n), .int k, .int lb, .int (nI q), .ref w1, .ref w2, .ref w3])), (w1, .inl (G.2.2.1, 100, .inl g)), (w2, .inl (G.2.2.2, 100, .inl h)), (w3, .inl (G.2.2.1, 10, .inl ik))]) (hn : n ≤ 16) (hq : q ≤ 100) : Met l y_M_faultless (Cond.code y_M_faultless b_M_faultless 2 (some .boolean) :: TG) ({ frames := 2, cells := 0, slots := 0, locals := 55 }) (PC G H [.ref a, .int p1]) (QMi G (fn_M_faultless sd n k p1) [(a, .inr (3, [.int 0, .long ns, .long sd, .int (nI n), .int k, .int lb, .int (nI q), .ref w1, .ref w2, .ref w3])), (w1, .inl (G.2.2.1, 100, .inl g)), (w2, .inl (G.2.2.2, 100, .inl h)), (w3, .inl (G.2.2.1, 10, .inl ik))] (va_A [(a, .inr (3, [.int 0, .long ns, .long sd, .int (nI n), .int k, .int lb, .int (nI q), .ref w1, .ref w2, .ref w3])), (w1, .inl (G.2.2.1, 100, .inl g)), (w2, .inl (G.2.2.2, 100, .inl h)), (w3, .inl (G.2.2.1, 10, .inl ik))] H.size)) 0 0 (va_A [(a, .inr (3, [.int 0, .long ns, .long sd, .int (nI n), .int k, .int lb, .int (nI q), .ref w1, .ref w2, .ref w3])), (w1, .inl (G.2.2.1, 100, .inl g)), (w2, .inl (G.2.2.2, 100, .inl h)), (w3, .inl (G.2.2.1, 10, .inl ik))] H.size) := by
  refine Met.ofW (cc := b_M_faultless) (maxL := 2) (ret := (some .boolean)) (by decide) rfl ?_
  intro p e s m args below meth c s₁ B hml hv
  obtain ⟨rfl, hH, hKN⟩ := hv
  subst hH
  have hx := B.exec
  have hb := B.bytes
  have hr := B.returns
  have hts := atoms_spec (ws := (Cond.code y_M_faultless b_M_faultless 2 (some .boolean) :: TG)) B.pre
  have ht : ∀ w ∈ TG, w.before _ s = true := fun w h => hts w (List.mem_cons_of_mem _ h)
  have hown : s.vm.findClass R_M = some m.cls := findClass_of_methodNamed B.named
  have hlocks := B.notSynchronized
  have hK := hKN.1
  have hl := lv_entry ([.ref a, .int p1]) (n := 2) (Nat.le_of_ble_eq_true rfl)
  rw [lg_entry_eq]
  generalize (lg_sl ([.ref a, .int p1]) ++ List.replicate (2 - (lg_sl ([.ref a, .int p1])).length) Slot.unset).toArray = ls at hl ⊢
  have hl : lv_has ls 2 [(0, .ref a), (1, .int p1)] := hl
  have hD := hD0.self (sz := s.heap.size)
  generalize hAe : va_A [(a, .inr (3, [.int 0, .long ns, .long sd, .int (nI n), .int k, .int lb, .int (nI q), .ref w1, .ref w2, .ref w3])), (w1, .inl (G.2.2.1, 100, .inl g)), (w2, .inl (G.2.2.2, 100, .inl h)), (w3, .inl (G.2.2.1, 10, .inl ik))] s.heap.size = A at hD ⊢
  have hA : ∀ q : Nat, s.heap.size ≤ q → A q := fun q h => by rw [← hAe]; exact Or.inr h
  have hS : va_S A s.heap s.heap [] := va_S.rf
  refine lv_aload_n hx hb d_M_faultless_0 rfl (lv_at hl 0 rfl) ?_
  refine lv_iconst (v := 0) hx hb d_M_faultless_1 (by decide) ?_
  refine va_put (D := G.1) (ci := 3) (v := .int 0) (ty := .int) (C := R_M) (T := F_M) (N := 10) hx hb ht in_M t_M tk_M n_M hown hK hP hD hS 0 rfl rfl 0 (by decide) (ht _ kf_M_24) (fun _ h9 => h9) rfl (by decide +kernel) rfl rfl (Nat.le_of_ble_eq_true rfl) d_M_faultless_2 (fun H locs hP hD hS => ?_)
  have hP : va_P G.1 classes [(a, .inr (3, [.int 0, .long ns, .long sd, .int (nI n), .int k, .int lb, .int (nI q), .ref w1, .ref w2, .ref w3])), (w1, .inl (G.2.2.1, 100, .inl g)), (w2, .inl (G.2.2.2, 100, .inl h)), (w3, .inl (G.2.2.1, 10, .inl ik))] H := hP
  have hD : va_D A [(a, .inr (3, [.int 0, .long ns, .long sd, .int (nI n), .int k, .int lb, .int (nI q), .ref w1, .ref w2, .ref w3])), (w1, .inl (G.2.2.1, 100, .inl g)), (w2, .inl (G.2.2.2, 100, .inl h)), (w3, .inl (G.2.2.1, 10, .inl ik))] := hD
  refine lv_aload_n hx hb d_M_faultless_5 rfl (lv_at hl 0 rfl) ?_
  refine va_get (D := G.1) (ci := 3) (v := .int k) (C := R_M) (T := F_M) (N := 10) hx hb ht in_M hown hK hP 0 rfl rfl 4 (by decide) (ht _ kf_M_59) (fun _ h9 => h9) rfl d_M_faultless_6 ?_
  refine lv_iconst (v := 3) hx hb d_M_faultless_9 (by decide) ?_
  refine lv_icmp_ne (tgt := 50) hx hb d_M_faultless_10 (by decide) (fun c1 => ?_) (fun c1 => ?_)
  · refine lv_iconst (v := 0) hx hb d_M_faultless_50 (by decide) ?_
    exact W.zret (v := 0) hx hb hr rfl (fun t h9 _ => ⟨⟨0, (), rfl, (by unfold fn_M_faultless; rw [if_neg c1]), by show va_P _ _ _ t.heap; rw [h9]; exact hP⟩, hS.F h9⟩) hS.2.2 d_M_faultless_51
  · refine lv_iload_n hx hb d_M_faultless_13 rfl (lv_at hl 1 rfl) ?_
    refine lv_iconst (v := 0) hx hb d_M_faultless_14 (by decide) ?_
    refine lv_aload_n hx hb d_M_faultless_15 rfl (lv_at hl 0 rfl) ?_
    refine va_get (D := G.1) (ci := 3) (v := .int (nI n)) (C := R_M) (T := F_M) (N := 10) hx hb ht in_M hown hK hP 0 rfl rfl 3 (by decide) (ht _ kf_M_62) (fun _ h9 => h9) rfl d_M_faultless_16 ?_
    refine lv_iconst (v := 1) hx hb d_M_faultless_19 (by decide) ?_
    refine lv_isub hx hb d_M_faultless_20 ?_
    refine pr_i (ru_S (As := [.int p1, .int 0, .int ((nI n) - 1)]) (rest := []) ⟨hx, hb, hml, hown, ht⟩ hKN (c_M_in l G _ p1 0 ((nI n) - 1)) kc_M_52 ⟨rfl, rfl⟩ ⟨Nat.le_of_ble_eq_true rfl, Nat.le_of_ble_eq_true rfl⟩ rfl hl.1 rfl (Nat.le_of_ble_eq_true rfl) d_M_faultless_21 ⟨Nat.le_of_ble_eq_true rfl, Nat.le_of_ble_eq_true rfl⟩) ?_
    refine lv_if_eq (tgt := 50) hx hb d_M_faultless_24 (by decide) (fun c2 => ?_) (fun c2 => ?_)
    · refine lv_iconst (v := 0) hx hb d_M_faultless_50 (by decide) ?_
      exact W.zret (v := 0) hx hb hr rfl (fun t h9 _ => ⟨⟨0, (), rfl, (by unfold fn_M_faultless; rw [if_pos c1, if_pos c2]), by show va_P _ _ _ t.heap; rw [h9]; exact hP⟩, hS.F h9⟩) hS.2.2 d_M_faultless_51
    · refine lv_aload_n hx hb d_M_faultless_27 rfl (lv_at hl 0 rfl) ?_
      refine va_get (D := G.1) (ci := 3) (v := .long sd) (C := R_M) (T := F_M) (N := 10) hx hb ht in_M hown hK hP 0 rfl rfl 2 (by decide) (ht _ kf_M_56) (fun _ h9 => h9) rfl d_M_faultless_28 ?_
      refine lv_aload_n hx hb d_M_faultless_31 rfl (lv_at hl 0 rfl) ?_
      refine va_get (D := G.1) (ci := 3) (v := .int k) (C := R_M) (T := F_M) (N := 10) hx hb ht in_M hown hK hP 0 rfl rfl 4 (by decide) (ht _ kf_M_59) (fun _ h9 => h9) rfl d_M_faultless_32 ?_
      refine lv_aload_n hx hb d_M_faultless_35 rfl (lv_at hl 0 rfl) ?_
      refine va_get (D := G.1) (ci := 3) (v := .int (nI n)) (C := R_M) (T := F_M) (N := 10) hx hb ht in_M hown hK hP 0 rfl rfl 3 (by decide) (ht _ kf_M_62) (fun _ h9 => h9) rfl d_M_faultless_36 ?_
      refine lv_iload_n hx hb d_M_faultless_39 rfl (lv_at hl 1 rfl) ?_
      refine pr_i (ru_S (As := [.long sd, .int k, .int (nI n), .int p1]) (rest := []) ⟨hx, hb, hml, hown, ht⟩ hKN (c_M_hasFaults l G _ sd k n p1 (show n ≤ 16 by omega)) kc_M_71 ⟨rfl, rfl⟩ ⟨Nat.le_of_ble_eq_true rfl, Nat.le_of_ble_eq_true rfl⟩ rfl hl.1 rfl (Nat.le_of_ble_eq_true rfl) d_M_faultless_40 ⟨Nat.le_of_ble_eq_true rfl, Nat.le_of_ble_eq_true rfl⟩) ?_
      refine lv_if_ne (tgt := 50) hx hb d_M_faultless_43 (by decide) (fun c3 => ?_) (fun c3 => ?_)
      · refine lv_iconst (v := 0) hx hb d_M_faultless_50 (by decide) ?_
        exact W.zret (v := 0) hx hb hr rfl (fun t h9 _ => ⟨⟨0, (), rfl, (by unfold fn_M_faultless; rw [if_pos c1, if_neg c2, if_neg c3]), by show va_P _ _ _ t.heap; rw [h9]; exact hP⟩, hS.F h9⟩) hS.2.2 d_M_faultless_51
      · refine lv_iconst (v := 1) hx hb d_M_faultless_46 (by decide) ?_
        refine lv_goto (tgt := 51) hx hb d_M_faultless_47 (by decide) ?_
        exact W.zret (v := 1) hx hb hr rfl (fun t h9 _ => ⟨⟨1, (), rfl, (by unfold fn_M_faultless; rw [if_pos c1, if_neg c2, if_pos c3]), by show va_P _ _ _ t.heap; rw [h9]; exact hP⟩, hS.F h9⟩) hS.2.2 d_M_faultless_51
def fn_M_minimal (n : Nat) (lb : Int32) (q : Nat) (g : Nat → Int32) (h : Nat → Int32) : Int32 := (if nI n ≤ 0 then 0 else (if (fn_M_stays q g h lb) = 0 then 0 else (if (wo g h q lb (n - 0) 0) = (-1) then 1 else 0)))
set_option maxHeartbeats 4000000 in
set_option maxRecDepth 100000 in
theorem c_M_minimal (l : Launch) (G : GT) (H : Heap) (a : Nat) (w1 : Nat) (w2 : Nat) (w3 : Nat) (ns : Int64) (sd : Int64) (n : Nat) (k : Int32) (lb : Int32) (q : Nat) (g : Nat → Int32) (h : Nat → Int32) (ik : Nat → Int32) (hP : va_P G.1 classes [(a, .inr (3, [.int 0, .long ns, .long sd, .int (nI n), .int k, .int lb, .int (nI q), .ref w1, .ref w2, .ref w3])), (w1, .inl (G.2.2.1, 100, .inl g)), (w2, .inl (G.2.2.2, 100, .inl h)), (w3, .inl (G.2.2.1, 10, .inl ik))] H) (hD0 : va_D (fun _ => True) [(a, .inr (3, [.int 0, .long ns, .long sd, .int (nI n), .int k, .int lb, .int (nI q), .ref w1, .ref w2, .ref w3])), (w1, .inl (G.2.2.1, 100, .inl g)), (w2, .inl (G.2.2.2, 100, .inl h)), (w3, .inl (G.2.2.1, 10, .inl ik))]) (hn : n ≤ 16) (hq : q ≤ 100) : Met l y_M_minimal (Cond.code y_M_minimal b_M_minimal 1 (some .boolean) :: TG) ({ frames := 3, cells := 0, slots := 0, locals := 69 }) (PC G H [.ref a]) (QMi G (fn_M_minimal n lb q g h) [(a, .inr (3, [.int 0, .long ns, .long sd, .int (nI n), .int k, .int lb, .int (nI q), .ref w1, .ref w2, .ref w3])), (w1, .inl (G.2.2.1, 100, .inl g)), (w2, .inl (G.2.2.2, 100, .inl h)), (w3, .inl (G.2.2.1, 10, .inl ik))] (va_A [(a, .inr (3, [.int 0, .long ns, .long sd, .int (nI n), .int k, .int lb, .int (nI q), .ref w1, .ref w2, .ref w3])), (w1, .inl (G.2.2.1, 100, .inl g)), (w2, .inl (G.2.2.2, 100, .inl h)), (w3, .inl (G.2.2.1, 10, .inl ik))] H.size)) 0 0 (va_A [(a, .inr (3, [.int 0, .long ns, .long sd, .int (nI n), .int k, .int lb, .int (nI q), .ref w1, .ref w2, .ref w3])), (w1, .inl (G.2.2.1, 100, .inl g)), (w2, .inl (G.2.2.2, 100, .inl h)), (w3, .inl (G.2.2.1, 10, .inl ik))] H.size) := by
  refine Met.ofW (cc := b_M_minimal) (maxL := 1) (ret := (some .boolean)) (by decide) rfl ?_
  intro p e s m args below meth c s₁ B hml hv
  obtain ⟨rfl, hH, hKN⟩ := hv
  subst hH
  have hx := B.exec
  have hb := B.bytes
  have hr := B.returns
  have hts := atoms_spec (ws := (Cond.code y_M_minimal b_M_minimal 1 (some .boolean) :: TG)) B.pre
  have ht : ∀ w ∈ TG, w.before _ s = true := fun w h => hts w (List.mem_cons_of_mem _ h)
  have hown : s.vm.findClass R_M = some m.cls := findClass_of_methodNamed B.named
  have hlocks := B.notSynchronized
  have hK := hKN.1
  have hl := lv_entry ([.ref a]) (n := 1) (Nat.le_of_ble_eq_true rfl)
  rw [lg_entry_eq]
  generalize (lg_sl ([.ref a]) ++ List.replicate (1 - (lg_sl ([.ref a])).length) Slot.unset).toArray = ls at hl ⊢
  have hl : lv_has ls 1 [(0, .ref a)] := hl
  have hD := hD0.self (sz := s.heap.size)
  generalize hAe : va_A [(a, .inr (3, [.int 0, .long ns, .long sd, .int (nI n), .int k, .int lb, .int (nI q), .ref w1, .ref w2, .ref w3])), (w1, .inl (G.2.2.1, 100, .inl g)), (w2, .inl (G.2.2.2, 100, .inl h)), (w3, .inl (G.2.2.1, 10, .inl ik))] s.heap.size = A at hD ⊢
  have hA : ∀ q : Nat, s.heap.size ≤ q → A q := fun q h => by rw [← hAe]; exact Or.inr h
  have hS : va_S A s.heap s.heap [] := va_S.rf
  refine lv_aload_n hx hb d_M_minimal_0 rfl (lv_at hl 0 rfl) ?_
  refine lv_iconst (v := 0) hx hb d_M_minimal_1 (by decide) ?_
  refine va_put (D := G.1) (ci := 3) (v := .int 0) (ty := .int) (C := R_M) (T := F_M) (N := 10) hx hb ht in_M t_M tk_M n_M hown hK hP hD hS 0 rfl rfl 0 (by decide) (ht _ kf_M_24) (fun _ h9 => h9) rfl (by decide +kernel) rfl rfl (Nat.le_of_ble_eq_true rfl) d_M_minimal_2 (fun H locs hP hD hS => ?_)
  have hP : va_P G.1 classes [(a, .inr (3, [.int 0, .long ns, .long sd, .int (nI n), .int k, .int lb, .int (nI q), .ref w1, .ref w2, .ref w3])), (w1, .inl (G.2.2.1, 100, .inl g)), (w2, .inl (G.2.2.2, 100, .inl h)), (w3, .inl (G.2.2.1, 10, .inl ik))] H := hP
  have hD : va_D A [(a, .inr (3, [.int 0, .long ns, .long sd, .int (nI n), .int k, .int lb, .int (nI q), .ref w1, .ref w2, .ref w3])), (w1, .inl (G.2.2.1, 100, .inl g)), (w2, .inl (G.2.2.2, 100, .inl h)), (w3, .inl (G.2.2.1, 10, .inl ik))] := hD
  refine lv_aload_n hx hb d_M_minimal_5 rfl (lv_at hl 0 rfl) ?_
  refine va_get (D := G.1) (ci := 3) (v := .int (nI n)) (C := R_M) (T := F_M) (N := 10) hx hb ht in_M hown hK hP 0 rfl rfl 3 (by decide) (ht _ kf_M_62) (fun _ h9 => h9) rfl d_M_minimal_6 ?_
  refine lv_if_le (tgt := 40) hx hb d_M_minimal_9 (by decide) (fun c1 => ?_) (fun c1 => ?_)
  · refine lv_iconst (v := 0) hx hb d_M_minimal_40 (by decide) ?_
    exact W.zret (v := 0) hx hb hr rfl (fun t h9 _ => ⟨⟨0, (), rfl, (by unfold fn_M_minimal; rw [if_pos c1]), by show va_P _ _ _ t.heap; rw [h9]; exact hP⟩, hS.F h9⟩) hS.2.2 d_M_minimal_41
  · refine lv_aload_n hx hb d_M_minimal_12 rfl (lv_at hl 0 rfl) ?_
    refine lv_aload_n hx hb d_M_minimal_13 rfl (lv_at hl 0 rfl) ?_
    refine va_get (D := G.1) (ci := 3) (v := .int lb) (C := R_M) (T := F_M) (N := 10) hx hb ht in_M hown hK hP 0 rfl rfl 5 (by decide) (ht _ kf_M_65) (fun _ h9 => h9) rfl d_M_minimal_14 ?_
    refine pr_i (ru_V (b := a) (As := [.int lb]) (rest := []) ⟨hx, hb, hml, hown, ht⟩ hKN (c_M_stays l G _ a w1 w2 w3 ns sd n k lb q g h ik lb (hP.sub [0, 1, 2, 3] rfl) hn hq) kc_M_82 ⟨rfl, rfl⟩ ⟨Nat.le_of_ble_eq_true rfl, Nat.le_of_ble_eq_true rfl⟩ (va_recv hK hP (ci := 3) (q0 := 0) rfl rfl) rfl hl.1 rfl (Nat.le_of_ble_eq_true rfl) d_M_minimal_17 ⟨Nat.le_of_ble_eq_true rfl, Nat.le_of_ble_eq_true rfl⟩) ?_
    refine lv_if_eq (tgt := 40) hx hb d_M_minimal_20 (by decide) (fun c2 => ?_) (fun c2 => ?_)
    · refine lv_iconst (v := 0) hx hb d_M_minimal_40 (by decide) ?_
      exact W.zret (v := 0) hx hb hr rfl (fun t h9 _ => ⟨⟨0, (), rfl, (by unfold fn_M_minimal; rw [if_neg c1, if_pos c2]), by show va_P _ _ _ t.heap; rw [h9]; exact hP⟩, hS.F h9⟩) hS.2.2 d_M_minimal_41
    · refine lv_aload_n hx hb d_M_minimal_23 rfl (lv_at hl 0 rfl) ?_
      refine lv_aload_n hx hb d_M_minimal_24 rfl (lv_at hl 0 rfl) ?_
      refine va_get (D := G.1) (ci := 3) (v := .int lb) (C := R_M) (T := F_M) (N := 10) hx hb ht in_M hown hK hP 0 rfl rfl 5 (by decide) (ht _ kf_M_65) (fun _ h9 => h9) rfl d_M_minimal_25 ?_
      refine lv_iconst (v := 0) hx hb d_M_minimal_28 (by decide) ?_
      refine pr_i (ru_V (b := a) (As := [.int lb, .int 0]) (rest := []) ⟨hx, hb, hml, hown, ht⟩ hKN (c_M_without l G _ a w1 w2 w3 ns sd n k lb q g h ik lb 0 (hP.sub [0, 1, 2, 3] rfl) hn hq (show 0 ≤ n by omega)) kc_M_86 ⟨rfl, rfl⟩ ⟨Nat.le_of_ble_eq_true rfl, Nat.le_of_ble_eq_true rfl⟩ (va_recv hK hP (ci := 3) (q0 := 0) rfl rfl) rfl hl.1 rfl (Nat.le_of_ble_eq_true rfl) d_M_minimal_29 ⟨Nat.le_of_ble_eq_true rfl, Nat.le_of_ble_eq_true rfl⟩) ?_
      refine lv_iconst (v := (-1)) hx hb d_M_minimal_32 (by decide) ?_
      refine lv_icmp_ne (tgt := 40) hx hb d_M_minimal_33 (by decide) (fun c3 => ?_) (fun c3 => ?_)
      · refine lv_iconst (v := 0) hx hb d_M_minimal_40 (by decide) ?_
        exact W.zret (v := 0) hx hb hr rfl (fun t h9 _ => ⟨⟨0, (), rfl, (by unfold fn_M_minimal; rw [if_neg c1, if_neg c2, if_neg c3]), by show va_P _ _ _ t.heap; rw [h9]; exact hP⟩, hS.F h9⟩) hS.2.2 d_M_minimal_41
      · refine lv_iconst (v := 1) hx hb d_M_minimal_36 (by decide) ?_
        refine lv_goto (tgt := 41) hx hb d_M_minimal_37 (by decide) ?_
        exact W.zret (v := 1) hx hb hr rfl (fun t h9 _ => ⟨⟨1, (), rfl, (by unfold fn_M_minimal; rw [if_neg c1, if_neg c2, if_pos c3]), by show va_P _ _ _ t.heap; rw [h9]; exact hP⟩, hS.F h9⟩) hS.2.2 d_M_minimal_41
def mvd (n : Nat) (x : Int32) : Int32 := if nI n = 0 then -13 else if fn_M_in x 1 (((1 : Int32) <<< (nI n &&& 31)) - 1) = 0 then -12 else 0
set_option maxHeartbeats 4000000 in
set_option maxRecDepth 100000 in
theorem c_M_verdict_no (l : Launch) (G : GT) (H : Heap) (a : Nat) (w1 : Nat) (w2 : Nat) (w3 : Nat) (ns : Int64) (sd : Int64) (n : Nat) (k : Int32) (lb : Int32) (q : Nat) (g : Nat → Int32) (h : Nat → Int32) (ik : Nat → Int32) (p1 : Int32) (p2 : Int32) (hP : va_P G.1 classes [(a, .inr (3, [.int 0, .long ns, .long sd, .int (nI n), .int k, .int lb, .int (nI q), .ref w1, .ref w2, .ref w3])), (w1, .inl (G.2.2.1, 100, .inl g)), (w2, .inl (G.2.2.2, 100, .inl h)), (w3, .inl (G.2.2.1, 10, .inl ik))] H) (hD0 : va_D (fun _ => True) [(a, .inr (3, [.int 0, .long ns, .long sd, .int (nI n), .int k, .int lb, .int (nI q), .ref w1, .ref w2, .ref w3])), (w1, .inl (G.2.2.1, 100, .inl g)), (w2, .inl (G.2.2.2, 100, .inl h)), (w3, .inl (G.2.2.1, 10, .inl ik))]) (hn : n ≤ 16) (hq : q ≤ 100) (hvd : ¬ mvd n p1 = 0) : Met l y_M_verdict (Cond.code y_M_verdict b_M_verdict 4 (some .int) :: TG) ({ frames := 1, cells := 0, slots := 0, locals := 22 }) (PC G H [.ref a, .int p1, .int p2]) (QMi G (mvd n p1) [(a, .inr (3, [.int 0, .long ns, .long sd, .int (nI n), .int k, .int lb, .int (nI q), .ref w1, .ref w2, .ref w3])), (w1, .inl (G.2.2.1, 100, .inl g)), (w2, .inl (G.2.2.2, 100, .inl h)), (w3, .inl (G.2.2.1, 10, .inl ik))] (va_A [(a, .inr (3, [.int 0, .long ns, .long sd, .int (nI n), .int k, .int lb, .int (nI q), .ref w1, .ref w2, .ref w3])), (w1, .inl (G.2.2.1, 100, .inl g)), (w2, .inl (G.2.2.2, 100, .inl h)), (w3, .inl (G.2.2.1, 10, .inl ik))] H.size)) 0 0 (va_A [(a, .inr (3, [.int 0, .long ns, .long sd, .int (nI n), .int k, .int lb, .int (nI q), .ref w1, .ref w2, .ref w3])), (w1, .inl (G.2.2.1, 100, .inl g)), (w2, .inl (G.2.2.2, 100, .inl h)), (w3, .inl (G.2.2.1, 10, .inl ik))] H.size) := by
  refine Met.ofW (cc := b_M_verdict) (maxL := 4) (ret := (some .int)) (by decide) rfl ?_
  intro p e s m args below meth c s₁ B hml hv
  obtain ⟨rfl, hH, hKN⟩ := hv
  subst hH
  have hx := B.exec
  have hb := B.bytes
  have hr := B.returns
  have hts := atoms_spec (ws := (Cond.code y_M_verdict b_M_verdict 4 (some .int) :: TG)) B.pre
  have ht : ∀ w ∈ TG, w.before _ s = true := fun w h => hts w (List.mem_cons_of_mem _ h)
  have hown : s.vm.findClass R_M = some m.cls := findClass_of_methodNamed B.named
  have hlocks := B.notSynchronized
  have hK := hKN.1
  have hl := lv_entry ([.ref a, .int p1, .int p2]) (n := 4) (Nat.le_of_ble_eq_true rfl)
  rw [lg_entry_eq]
  generalize (lg_sl ([.ref a, .int p1, .int p2]) ++ List.replicate (4 - (lg_sl ([.ref a, .int p1, .int p2])).length) Slot.unset).toArray = ls at hl ⊢
  have hl : lv_has ls 4 [(0, .ref a), (1, .int p1), (2, .int p2)] := hl
  have hD := hD0.self (sz := s.heap.size)
  generalize hAe : va_A [(a, .inr (3, [.int 0, .long ns, .long sd, .int (nI n), .int k, .int lb, .int (nI q), .ref w1, .ref w2, .ref w3])), (w1, .inl (G.2.2.1, 100, .inl g)), (w2, .inl (G.2.2.2, 100, .inl h)), (w3, .inl (G.2.2.1, 10, .inl ik))] s.heap.size = A at hD ⊢
  have hA : ∀ q : Nat, s.heap.size ≤ q → A q := fun q h => by rw [← hAe]; exact Or.inr h
  have hS : va_S A s.heap s.heap [] := va_S.rf
  refine lv_aload_n hx hb d_M_verdict_0 rfl (lv_at hl 0 rfl) ?_
  refine lv_iconst (v := 0) hx hb d_M_verdict_1 (by decide) ?_
  refine va_put (D := G.1) (ci := 3) (v := .int 0) (ty := .int) (C := R_M) (T := F_M) (N := 10) hx hb ht in_M t_M tk_M n_M hown hK hP hD hS 0 rfl rfl 0 (by decide) (ht _ kf_M_24) (fun _ h9 => h9) rfl (by decide +kernel) rfl rfl (Nat.le_of_ble_eq_true rfl) d_M_verdict_2 (fun H locs hP hD hS => ?_)
  have hP : va_P G.1 classes [(a, .inr (3, [.int 0, .long ns, .long sd, .int (nI n), .int k, .int lb, .int (nI q), .ref w1, .ref w2, .ref w3])), (w1, .inl (G.2.2.1, 100, .inl g)), (w2, .inl (G.2.2.2, 100, .inl h)), (w3, .inl (G.2.2.1, 10, .inl ik))] H := hP
  have hD : va_D A [(a, .inr (3, [.int 0, .long ns, .long sd, .int (nI n), .int k, .int lb, .int (nI q), .ref w1, .ref w2, .ref w3])), (w1, .inl (G.2.2.1, 100, .inl g)), (w2, .inl (G.2.2.2, 100, .inl h)), (w3, .inl (G.2.2.1, 10, .inl ik))] := hD
  refine lv_aload_n hx hb d_M_verdict_5 rfl (lv_at hl 0 rfl) ?_
  refine va_get (D := G.1) (ci := 3) (v := .int (nI n)) (C := R_M) (T := F_M) (N := 10) hx hb ht in_M hown hK hP 0 rfl rfl 3 (by decide) (ht _ kf_M_62) (fun _ h9 => h9) rfl d_M_verdict_6 ?_
  refine lv_if_ne (tgt := 15) hx hb d_M_verdict_9 (by decide) (fun c1 => ?_) (fun c1 => ?_)
  · refine lv_iload_n hx hb d_M_verdict_15 rfl (lv_at hl 1 rfl) ?_
    refine lv_iconst (v := 1) hx hb d_M_verdict_16 (by decide) ?_
    refine lv_iconst (v := 1) hx hb d_M_verdict_17 (by decide) ?_
    refine lv_aload_n hx hb d_M_verdict_18 rfl (lv_at hl 0 rfl) ?_
    refine va_get (D := G.1) (ci := 3) (v := .int (nI n)) (C := R_M) (T := F_M) (N := 10) hx hb ht in_M hown hK hP 0 rfl rfl 3 (by decide) (ht _ kf_M_62) (fun _ h9 => h9) rfl d_M_verdict_19 ?_
    refine lv_ishl hx hb d_M_verdict_22 ?_
    refine lv_iconst (v := 1) hx hb d_M_verdict_23 (by decide) ?_
    refine lv_isub hx hb d_M_verdict_24 ?_
    refine pr_i (ru_S (As := [.int p1, .int 1, .int (((1 : Int32) <<< ((nI n) &&& 31)) - 1)]) (rest := []) ⟨hx, hb, hml, hown, ht⟩ hKN (c_M_in l G _ p1 1 (((1 : Int32) <<< ((nI n) &&& 31)) - 1)) kc_M_52 ⟨rfl, rfl⟩ ⟨Nat.le_of_ble_eq_true rfl, Nat.le_of_ble_eq_true rfl⟩ rfl hl.1 rfl (Nat.le_of_ble_eq_true rfl) d_M_verdict_25 ⟨Nat.le_of_ble_eq_true rfl, Nat.le_of_ble_eq_true rfl⟩) ?_
    refine lv_if_ne (tgt := 34) hx hb d_M_verdict_28 (by decide) (fun c2 => ?_) (fun c2 => ?_)
    · exact absurd (by unfold mvd; rw [if_neg c1, if_neg c2]) hvd
    · refine lv_bipush (v := (-12)) hx hb d_M_verdict_31 (by decide) ?_
      exact W.iret (v := (-12)) hx hb hr (fun t h9 _ => ⟨⟨(-12), (), rfl, (by unfold mvd; rw [if_neg c1, if_pos c2]), by show va_P _ _ _ t.heap; rw [h9]; exact hP⟩, hS.F h9⟩) hS.2.2 d_M_verdict_33
  · refine lv_bipush (v := (-13)) hx hb d_M_verdict_12 (by decide) ?_
    exact W.iret (v := (-13)) hx hb hr (fun t h9 _ => ⟨⟨(-13), (), rfl, (by unfold mvd; rw [if_pos c1]), by show va_P _ _ _ t.heap; rw [h9]; exact hP⟩, hS.F h9⟩) hS.2.2 d_M_verdict_14
set_option maxHeartbeats 4000000 in
set_option maxRecDepth 100000 in
theorem c_M_verdict_room (l : Launch) (G : GT) (H : Heap) (a : Nat) (w1 : Nat) (w2 : Nat) (w3 : Nat) (ns : Int64) (sd : Int64) (n : Nat) (k : Int32) (lb : Int32) (q : Nat) (g : Nat → Int32) (h : Nat → Int32) (ik : Nat → Int32) (p1 : Int32) (p2 : Int32) (hP : va_P G.1 classes [(a, .inr (3, [.int 0, .long ns, .long sd, .int (nI n), .int k, .int lb, .int (nI q), .ref w1, .ref w2, .ref w3])), (w1, .inl (G.2.2.1, 100, .inl g)), (w2, .inl (G.2.2.2, 100, .inl h)), (w3, .inl (G.2.2.1, 10, .inl ik))] H) (hD0 : va_D (fun _ => True) [(a, .inr (3, [.int 0, .long ns, .long sd, .int (nI n), .int k, .int lb, .int (nI q), .ref w1, .ref w2, .ref w3])), (w1, .inl (G.2.2.1, 100, .inl g)), (w2, .inl (G.2.2.2, 100, .inl h)), (w3, .inl (G.2.2.1, 10, .inl ik))]) (hn : n ≤ 16) (hq : q ≤ 100) (hvd : mvd n p1 = 0) (hpo : po g p1 q = -1) (hq1 : nI q = 100) : Met l y_M_verdict (Cond.code y_M_verdict b_M_verdict 4 (some .int) :: TG) ({ frames := 1, cells := 0, slots := 0, locals := 23 }) (PC G H [.ref a, .int p1, .int p2]) (QMi G (-14) [(a, .inr (3, [.int 0, .long ns, .long sd, .int (nI n), .int k, .int lb, .int (nI q), .ref w1, .ref w2, .ref w3])), (w1, .inl (G.2.2.1, 100, .inl g)), (w2, .inl (G.2.2.2, 100, .inl h)), (w3, .inl (G.2.2.1, 10, .inl ik))] (va_A [(a, .inr (3, [.int 0, .long ns, .long sd, .int (nI n), .int k, .int lb, .int (nI q), .ref w1, .ref w2, .ref w3])), (w1, .inl (G.2.2.1, 100, .inl g)), (w2, .inl (G.2.2.2, 100, .inl h)), (w3, .inl (G.2.2.1, 10, .inl ik))] H.size)) 0 0 (va_A [(a, .inr (3, [.int 0, .long ns, .long sd, .int (nI n), .int k, .int lb, .int (nI q), .ref w1, .ref w2, .ref w3])), (w1, .inl (G.2.2.1, 100, .inl g)), (w2, .inl (G.2.2.2, 100, .inl h)), (w3, .inl (G.2.2.1, 10, .inl ik))] H.size) := by
  refine Met.ofW (cc := b_M_verdict) (maxL := 4) (ret := (some .int)) (by decide) rfl ?_
  intro p e s m args below meth c s₁ B hml hv
  obtain ⟨rfl, hH, hKN⟩ := hv
  subst hH
  have hx := B.exec
  have hb := B.bytes
  have hr := B.returns
  have hts := atoms_spec (ws := (Cond.code y_M_verdict b_M_verdict 4 (some .int) :: TG)) B.pre
  have ht : ∀ w ∈ TG, w.before _ s = true := fun w h => hts w (List.mem_cons_of_mem _ h)
  have hown : s.vm.findClass R_M = some m.cls := findClass_of_methodNamed B.named
  have hlocks := B.notSynchronized
  have hK := hKN.1
  have hl := lv_entry ([.ref a, .int p1, .int p2]) (n := 4) (Nat.le_of_ble_eq_true rfl)
  rw [lg_entry_eq]
  generalize (lg_sl ([.ref a, .int p1, .int p2]) ++ List.replicate (4 - (lg_sl ([.ref a, .int p1, .int p2])).length) Slot.unset).toArray = ls at hl ⊢
  have hl : lv_has ls 4 [(0, .ref a), (1, .int p1), (2, .int p2)] := hl
  have hD := hD0.self (sz := s.heap.size)
  generalize hAe : va_A [(a, .inr (3, [.int 0, .long ns, .long sd, .int (nI n), .int k, .int lb, .int (nI q), .ref w1, .ref w2, .ref w3])), (w1, .inl (G.2.2.1, 100, .inl g)), (w2, .inl (G.2.2.2, 100, .inl h)), (w3, .inl (G.2.2.1, 10, .inl ik))] s.heap.size = A at hD ⊢
  have hA : ∀ q : Nat, s.heap.size ≤ q → A q := fun q h => by rw [← hAe]; exact Or.inr h
  have hS : va_S A s.heap s.heap [] := va_S.rf
  refine lv_aload_n hx hb d_M_verdict_0 rfl (lv_at hl 0 rfl) ?_
  refine lv_iconst (v := 0) hx hb d_M_verdict_1 (by decide) ?_
  refine va_put (D := G.1) (ci := 3) (v := .int 0) (ty := .int) (C := R_M) (T := F_M) (N := 10) hx hb ht in_M t_M tk_M n_M hown hK hP hD hS 0 rfl rfl 0 (by decide) (ht _ kf_M_24) (fun _ h9 => h9) rfl (by decide +kernel) rfl rfl (Nat.le_of_ble_eq_true rfl) d_M_verdict_2 (fun H locs hP hD hS => ?_)
  have hP : va_P G.1 classes [(a, .inr (3, [.int 0, .long ns, .long sd, .int (nI n), .int k, .int lb, .int (nI q), .ref w1, .ref w2, .ref w3])), (w1, .inl (G.2.2.1, 100, .inl g)), (w2, .inl (G.2.2.2, 100, .inl h)), (w3, .inl (G.2.2.1, 10, .inl ik))] H := hP
  have hD : va_D A [(a, .inr (3, [.int 0, .long ns, .long sd, .int (nI n), .int k, .int lb, .int (nI q), .ref w1, .ref w2, .ref w3])), (w1, .inl (G.2.2.1, 100, .inl g)), (w2, .inl (G.2.2.2, 100, .inl h)), (w3, .inl (G.2.2.1, 10, .inl ik))] := hD
  refine lv_aload_n hx hb d_M_verdict_5 rfl (lv_at hl 0 rfl) ?_
  refine va_get (D := G.1) (ci := 3) (v := .int (nI n)) (C := R_M) (T := F_M) (N := 10) hx hb ht in_M hown hK hP 0 rfl rfl 3 (by decide) (ht _ kf_M_62) (fun _ h9 => h9) rfl d_M_verdict_6 ?_
  refine lv_if_ne (tgt := 15) hx hb d_M_verdict_9 (by decide) (fun c1 => ?_) (fun c1 => ?_)
  · refine lv_iload_n hx hb d_M_verdict_15 rfl (lv_at hl 1 rfl) ?_
    refine lv_iconst (v := 1) hx hb d_M_verdict_16 (by decide) ?_
    refine lv_iconst (v := 1) hx hb d_M_verdict_17 (by decide) ?_
    refine lv_aload_n hx hb d_M_verdict_18 rfl (lv_at hl 0 rfl) ?_
    refine va_get (D := G.1) (ci := 3) (v := .int (nI n)) (C := R_M) (T := F_M) (N := 10) hx hb ht in_M hown hK hP 0 rfl rfl 3 (by decide) (ht _ kf_M_62) (fun _ h9 => h9) rfl d_M_verdict_19 ?_
    refine lv_ishl hx hb d_M_verdict_22 ?_
    refine lv_iconst (v := 1) hx hb d_M_verdict_23 (by decide) ?_
    refine lv_isub hx hb d_M_verdict_24 ?_
    refine pr_i (ru_S (As := [.int p1, .int 1, .int (((1 : Int32) <<< ((nI n) &&& 31)) - 1)]) (rest := []) ⟨hx, hb, hml, hown, ht⟩ hKN (c_M_in l G _ p1 1 (((1 : Int32) <<< ((nI n) &&& 31)) - 1)) kc_M_52 ⟨rfl, rfl⟩ ⟨Nat.le_of_ble_eq_true rfl, Nat.le_of_ble_eq_true rfl⟩ rfl hl.1 rfl (Nat.le_of_ble_eq_true rfl) d_M_verdict_25 ⟨Nat.le_of_ble_eq_true rfl, Nat.le_of_ble_eq_true rfl⟩) ?_
    refine lv_if_ne (tgt := 34) hx hb d_M_verdict_28 (by decide) (fun c2 => ?_) (fun c2 => ?_)
    · refine lv_aload_n hx hb d_M_verdict_34 rfl (lv_at hl 0 rfl) ?_
      refine lv_iload_n hx hb d_M_verdict_35 rfl (lv_at hl 1 rfl) ?_
      refine pr_i (ru_V (b := a) (As := [.int p1]) (rest := []) ⟨hx, hb, hml, hown, ht⟩ hKN (c_M_placeOf l G _ a w1 w2 w3 ns sd n k lb q g h ik p1 (hP.sub [0, 1, 2, 3] rfl) hn hq) kc_M_78 ⟨rfl, rfl⟩ ⟨Nat.le_of_ble_eq_true rfl, Nat.le_of_ble_eq_true rfl⟩ (va_recv hK hP (ci := 3) (q0 := 0) rfl rfl) rfl hl.1 rfl (Nat.le_of_ble_eq_true rfl) d_M_verdict_36 ⟨Nat.le_of_ble_eq_true rfl, Nat.le_of_ble_eq_true rfl⟩) ?_
      refine lv_istore_n (lv' := [(3, .int (po g p1 q)), (0, .ref a), (1, .int p1), (2, .int p2)]) hx hb d_M_verdict_39 rfl hl (by decide) rfl (fun ls hl => ?_)
      refine lv_iload_n hx hb d_M_verdict_40 rfl (lv_at hl 0 rfl) ?_
      refine lv_iconst (v := (-1)) hx hb d_M_verdict_41 (by decide) ?_
      refine lv_icmp_ne (tgt := 57) hx hb d_M_verdict_42 (by decide) (fun c3 => ?_) (fun c3 => ?_)
      · exact absurd hpo c3
      · refine lv_aload_n hx hb d_M_verdict_45 rfl (lv_at hl 1 rfl) ?_
        refine va_get (D := G.1) (ci := 3) (v := .int (nI q)) (C := R_M) (T := F_M) (N := 10) hx hb ht in_M hown hK hP 0 rfl rfl 6 (by decide) (ht _ kf_M_68) (fun _ h9 => h9) rfl d_M_verdict_46 ?_
        refine lv_bipush (v := 100) hx hb d_M_verdict_49 (by decide) ?_
        refine lv_icmp_ne (tgt := 57) hx hb d_M_verdict_51 (by decide) (fun c4 => ?_) (fun c4 => ?_)
        · exact absurd hq1 c4
        · refine lv_bipush (v := (-14)) hx hb d_M_verdict_54 (by decide) ?_
          exact W.iret (v := (-14)) hx hb hr (fun t h9 _ => ⟨⟨(-14), (), rfl, rfl, by show va_P _ _ _ t.heap; rw [h9]; exact hP⟩, hS.F h9⟩) hS.2.2 d_M_verdict_56
    · exact absurd (hvd.symm.trans (by unfold mvd; rw [if_neg c1, if_pos c2])) (by decide)
  · exact absurd (hvd.symm.trans (by unfold mvd; rw [if_pos c1])) (by decide)
set_option maxHeartbeats 4000000 in
set_option maxRecDepth 100000 in
theorem c_M_verdict_new (l : Launch) (G : GT) (H : Heap) (a : Nat) (w1 : Nat) (w2 : Nat) (w3 : Nat) (ns : Int64) (sd : Int64) (n : Nat) (k : Int32) (lb : Int32) (q : Nat) (g : Nat → Int32) (h : Nat → Int32) (ik : Nat → Int32) (p1 : Int32) (p2 : Int32) (hP : va_P G.1 classes [(a, .inr (3, [.int 0, .long ns, .long sd, .int (nI n), .int k, .int lb, .int (nI q), .ref w1, .ref w2, .ref w3])), (w1, .inl (G.2.2.1, 100, .inl g)), (w2, .inl (G.2.2.2, 100, .inl h)), (w3, .inl (G.2.2.1, 10, .inl ik))] H) (hD0 : va_D (fun _ => True) [(a, .inr (3, [.int 0, .long ns, .long sd, .int (nI n), .int k, .int lb, .int (nI q), .ref w1, .ref w2, .ref w3])), (w1, .inl (G.2.2.1, 100, .inl g)), (w2, .inl (G.2.2.2, 100, .inl h)), (w3, .inl (G.2.2.1, 10, .inl ik))]) (hn : n ≤ 16) (hq : q ≤ 100) (hvd : mvd n p1 = 0) (hpo : po g p1 q = -1) (hq1 : ¬ nI q = 100) (hq2 : q < 100) : Met l y_M_verdict (Cond.code y_M_verdict b_M_verdict 4 (some .int) :: TG) ({ frames := 1, cells := 0, slots := 0, locals := 23 }) (PC G H [.ref a, .int p1, .int p2]) (QMi G (nI (q + 1)) [(a, .inr (3, [.int 0, .long ns, .long sd, .int (nI n), .int k, .int lb, .int (nI (q + 1)), .ref w1, .ref w2, .ref w3])), (w1, .inl (G.2.2.1, 100, .inl (upd g q p1))), (w2, .inl (G.2.2.2, 100, .inl (upd h q (vp_nar .boolean p2)))), (w3, .inl (G.2.2.1, 10, .inl ik))] (va_A [(a, .inr (3, [.int 0, .long ns, .long sd, .int (nI n), .int k, .int lb, .int (nI q), .ref w1, .ref w2, .ref w3])), (w1, .inl (G.2.2.1, 100, .inl g)), (w2, .inl (G.2.2.2, 100, .inl h)), (w3, .inl (G.2.2.1, 10, .inl ik))] H.size)) 0 0 (va_A [(a, .inr (3, [.int 0, .long ns, .long sd, .int (nI n), .int k, .int lb, .int (nI q), .ref w1, .ref w2, .ref w3])), (w1, .inl (G.2.2.1, 100, .inl g)), (w2, .inl (G.2.2.2, 100, .inl h)), (w3, .inl (G.2.2.1, 10, .inl ik))] H.size) := by
  refine Met.ofW (cc := b_M_verdict) (maxL := 4) (ret := (some .int)) (by decide) rfl ?_
  intro p e s m args below meth c s₁ B hml hv
  obtain ⟨rfl, hH, hKN⟩ := hv
  subst hH
  have hx := B.exec
  have hb := B.bytes
  have hr := B.returns
  have hts := atoms_spec (ws := (Cond.code y_M_verdict b_M_verdict 4 (some .int) :: TG)) B.pre
  have ht : ∀ w ∈ TG, w.before _ s = true := fun w h => hts w (List.mem_cons_of_mem _ h)
  have hown : s.vm.findClass R_M = some m.cls := findClass_of_methodNamed B.named
  have hlocks := B.notSynchronized
  have hK := hKN.1
  have hl := lv_entry ([.ref a, .int p1, .int p2]) (n := 4) (Nat.le_of_ble_eq_true rfl)
  rw [lg_entry_eq]
  generalize (lg_sl ([.ref a, .int p1, .int p2]) ++ List.replicate (4 - (lg_sl ([.ref a, .int p1, .int p2])).length) Slot.unset).toArray = ls at hl ⊢
  have hl : lv_has ls 4 [(0, .ref a), (1, .int p1), (2, .int p2)] := hl
  have hD := hD0.self (sz := s.heap.size)
  generalize hAe : va_A [(a, .inr (3, [.int 0, .long ns, .long sd, .int (nI n), .int k, .int lb, .int (nI q), .ref w1, .ref w2, .ref w3])), (w1, .inl (G.2.2.1, 100, .inl g)), (w2, .inl (G.2.2.2, 100, .inl h)), (w3, .inl (G.2.2.1, 10, .inl ik))] s.heap.size = A at hD ⊢
  have hA : ∀ q : Nat, s.heap.size ≤ q → A q := fun q h => by rw [← hAe]; exact Or.inr h
  have hS : va_S A s.heap s.heap [] := va_S.rf
  refine lv_aload_n hx hb d_M_verdict_0 rfl (lv_at hl 0 rfl) ?_
  refine lv_iconst (v := 0) hx hb d_M_verdict_1 (by decide) ?_
  refine va_put (D := G.1) (ci := 3) (v := .int 0) (ty := .int) (C := R_M) (T := F_M) (N := 10) hx hb ht in_M t_M tk_M n_M hown hK hP hD hS 0 rfl rfl 0 (by decide) (ht _ kf_M_24) (fun _ h9 => h9) rfl (by decide +kernel) rfl rfl (Nat.le_of_ble_eq_true rfl) d_M_verdict_2 (fun H locs hP hD hS => ?_)
  have hP : va_P G.1 classes [(a, .inr (3, [.int 0, .long ns, .long sd, .int (nI n), .int k, .int lb, .int (nI q), .ref w1, .ref w2, .ref w3])), (w1, .inl (G.2.2.1, 100, .inl g)), (w2, .inl (G.2.2.2, 100, .inl h)), (w3, .inl (G.2.2.1, 10, .inl ik))] H := hP
  have hD : va_D A [(a, .inr (3, [.int 0, .long ns, .long sd, .int (nI n), .int k, .int lb, .int (nI q), .ref w1, .ref w2, .ref w3])), (w1, .inl (G.2.2.1, 100, .inl g)), (w2, .inl (G.2.2.2, 100, .inl h)), (w3, .inl (G.2.2.1, 10, .inl ik))] := hD
  refine lv_aload_n hx hb d_M_verdict_5 rfl (lv_at hl 0 rfl) ?_
  refine va_get (D := G.1) (ci := 3) (v := .int (nI n)) (C := R_M) (T := F_M) (N := 10) hx hb ht in_M hown hK hP 0 rfl rfl 3 (by decide) (ht _ kf_M_62) (fun _ h9 => h9) rfl d_M_verdict_6 ?_
  refine lv_if_ne (tgt := 15) hx hb d_M_verdict_9 (by decide) (fun c1 => ?_) (fun c1 => ?_)
  · refine lv_iload_n hx hb d_M_verdict_15 rfl (lv_at hl 1 rfl) ?_
    refine lv_iconst (v := 1) hx hb d_M_verdict_16 (by decide) ?_
    refine lv_iconst (v := 1) hx hb d_M_verdict_17 (by decide) ?_
    refine lv_aload_n hx hb d_M_verdict_18 rfl (lv_at hl 0 rfl) ?_
    refine va_get (D := G.1) (ci := 3) (v := .int (nI n)) (C := R_M) (T := F_M) (N := 10) hx hb ht in_M hown hK hP 0 rfl rfl 3 (by decide) (ht _ kf_M_62) (fun _ h9 => h9) rfl d_M_verdict_19 ?_
    refine lv_ishl hx hb d_M_verdict_22 ?_
    refine lv_iconst (v := 1) hx hb d_M_verdict_23 (by decide) ?_
    refine lv_isub hx hb d_M_verdict_24 ?_
    refine pr_i (ru_S (As := [.int p1, .int 1, .int (((1 : Int32) <<< ((nI n) &&& 31)) - 1)]) (rest := []) ⟨hx, hb, hml, hown, ht⟩ hKN (c_M_in l G _ p1 1 (((1 : Int32) <<< ((nI n) &&& 31)) - 1)) kc_M_52 ⟨rfl, rfl⟩ ⟨Nat.le_of_ble_eq_true rfl, Nat.le_of_ble_eq_true rfl⟩ rfl hl.1 rfl (Nat.le_of_ble_eq_true rfl) d_M_verdict_25 ⟨Nat.le_of_ble_eq_true rfl, Nat.le_of_ble_eq_true rfl⟩) ?_
    refine lv_if_ne (tgt := 34) hx hb d_M_verdict_28 (by decide) (fun c2 => ?_) (fun c2 => ?_)
    · refine lv_aload_n hx hb d_M_verdict_34 rfl (lv_at hl 0 rfl) ?_
      refine lv_iload_n hx hb d_M_verdict_35 rfl (lv_at hl 1 rfl) ?_
      refine pr_i (ru_V (b := a) (As := [.int p1]) (rest := []) ⟨hx, hb, hml, hown, ht⟩ hKN (c_M_placeOf l G _ a w1 w2 w3 ns sd n k lb q g h ik p1 (hP.sub [0, 1, 2, 3] rfl) hn hq) kc_M_78 ⟨rfl, rfl⟩ ⟨Nat.le_of_ble_eq_true rfl, Nat.le_of_ble_eq_true rfl⟩ (va_recv hK hP (ci := 3) (q0 := 0) rfl rfl) rfl hl.1 rfl (Nat.le_of_ble_eq_true rfl) d_M_verdict_36 ⟨Nat.le_of_ble_eq_true rfl, Nat.le_of_ble_eq_true rfl⟩) ?_
      refine lv_istore_n (lv' := [(3, .int (po g p1 q)), (0, .ref a), (1, .int p1), (2, .int p2)]) hx hb d_M_verdict_39 rfl hl (by decide) rfl (fun ls hl => ?_)
      refine lv_iload_n hx hb d_M_verdict_40 rfl (lv_at hl 0 rfl) ?_
      refine lv_iconst (v := (-1)) hx hb d_M_verdict_41 (by decide) ?_
      refine lv_icmp_ne (tgt := 57) hx hb d_M_verdict_42 (by decide) (fun c3 => ?_) (fun c3 => ?_)
      · exact absurd hpo c3
      · refine lv_aload_n hx hb d_M_verdict_45 rfl (lv_at hl 1 rfl) ?_
        refine va_get (D := G.1) (ci := 3) (v := .int (nI q)) (C := R_M) (T := F_M) (N := 10) hx hb ht in_M hown hK hP 0 rfl rfl 6 (by decide) (ht _ kf_M_68) (fun _ h9 => h9) rfl d_M_verdict_46 ?_
        refine lv_bipush (v := 100) hx hb d_M_verdict_49 (by decide) ?_
        refine lv_icmp_ne (tgt := 57) hx hb d_M_verdict_51 (by decide) (fun c4 => ?_) (fun c4 => ?_)
        · refine lv_iload_n hx hb d_M_verdict_57 rfl (lv_at hl 0 rfl) ?_
          refine lv_iconst (v := (-1)) hx hb d_M_verdict_58 (by decide) ?_
          refine lv_icmp_ne (tgt := 77) hx hb d_M_verdict_59 (by decide) (fun c5 => ?_) (fun c5 => ?_)
          · exact absurd hpo c5
          · refine lv_aload_n hx hb d_M_verdict_62 rfl (lv_at hl 1 rfl) ?_
            refine va_get (D := G.1) (ci := 3) (v := .int (nI q)) (C := R_M) (T := F_M) (N := 10) hx hb ht in_M hown hK hP 0 rfl rfl 6 (by decide) (ht _ kf_M_68) (fun _ h9 => h9) rfl d_M_verdict_63 ?_
            refine lv_istore_n (lv' := [(3, .int (nI q)), (0, .ref a), (1, .int p1), (2, .int p2)]) hx hb d_M_verdict_66 rfl hl (by decide) rfl (fun ls hl => ?_)
            refine lv_aload_n hx hb d_M_verdict_67 rfl (lv_at hl 1 rfl) ?_
            refine lv_dup hx hb d_M_verdict_68 rfl ?_
            refine va_get (D := G.1) (ci := 3) (v := .int (nI q)) (C := R_M) (T := F_M) (N := 10) hx hb ht in_M hown hK hP 0 rfl rfl 6 (by decide) (ht _ kf_M_68) (fun _ h9 => h9) rfl d_M_verdict_69 ?_
            refine lv_iconst (v := 1) hx hb d_M_verdict_72 (by decide) ?_
            refine lv_iadd hx hb d_M_verdict_73 ?_
            rw [show nI q + 1 = nI (q + 1) from nI_add q 1]
            refine va_put (D := G.1) (ci := 3) (v := .int (nI (q + 1))) (ty := .int) (C := R_M) (T := F_M) (N := 10) hx hb ht in_M t_M tk_M n_M hown hK hP hD hS 0 rfl rfl 6 (by decide) (ht _ kf_M_68) (fun _ h9 => h9) rfl (by decide +kernel) rfl rfl (Nat.le_of_ble_eq_true rfl) d_M_verdict_74 (fun H locs hP hD hS => ?_)
            have hP : va_P G.1 classes [(a, .inr (3, [.int 0, .long ns, .long sd, .int (nI n), .int k, .int lb, .int (nI (q + 1)), .ref w1, .ref w2, .ref w3])), (w1, .inl (G.2.2.1, 100, .inl g)), (w2, .inl (G.2.2.2, 100, .inl h)), (w3, .inl (G.2.2.1, 10, .inl ik))] H := hP
            have hD : va_D A [(a, .inr (3, [.int 0, .long ns, .long sd, .int (nI n), .int k, .int lb, .int (nI (q + 1)), .ref w1, .ref w2, .ref w3])), (w1, .inl (G.2.2.1, 100, .inl g)), (w2, .inl (G.2.2.2, 100, .inl h)), (w3, .inl (G.2.2.1, 10, .inl ik))] := hD
            refine lv_aload_n hx hb d_M_verdict_77 rfl (lv_at hl 1 rfl) ?_
            refine va_get (D := G.1) (ci := 3) (v := .ref w1) (C := R_M) (T := F_M) (N := 10) hx hb ht in_M hown hK hP 0 rfl rfl 7 (by decide) (ht _ kf_M_7) (fun _ h9 => h9) rfl d_M_verdict_78 ?_
            refine lv_iload_n hx hb d_M_verdict_81 rfl (lv_at hl 0 rfl) ?_
            refine lv_iload_n hx hb d_M_verdict_82 rfl (lv_at hl 2 rfl) ?_
            refine va_iast hx hb hK hP hD hS 1 1 rfl rfl (i := (nI q)) (vp_in_nI (show q < 100 by omega) (by omega)) d_M_verdict_83 (fun H locs hP hD hS => ?_)
            rw [nI_clamp (show q < 2 ^ 31 by omega)] at hP hD
            have hP : va_P G.1 classes [(a, .inr (3, [.int 0, .long ns, .long sd, .int (nI n), .int k, .int lb, .int (nI (q + 1)), .ref w1, .ref w2, .ref w3])), (w1, .inl (G.2.2.1, 100, .inl (upd g q p1))), (w2, .inl (G.2.2.2, 100, .inl h)), (w3, .inl (G.2.2.1, 10, .inl ik))] H := hP
            have hD : va_D A [(a, .inr (3, [.int 0, .long ns, .long sd, .int (nI n), .int k, .int lb, .int (nI (q + 1)), .ref w1, .ref w2, .ref w3])), (w1, .inl (G.2.2.1, 100, .inl (upd g q p1))), (w2, .inl (G.2.2.2, 100, .inl h)), (w3, .inl (G.2.2.1, 10, .inl ik))] := hD
            refine lv_aload_n hx hb d_M_verdict_84 rfl (lv_at hl 1 rfl) ?_
            refine va_get (D := G.1) (ci := 3) (v := .ref w2) (C := R_M) (T := F_M) (N := 10) hx hb ht in_M hown hK hP 0 rfl rfl 8 (by decide) (ht _ kf_M_13) (fun _ h9 => h9) rfl d_M_verdict_85 ?_
            refine lv_iload_n hx hb d_M_verdict_88 rfl (lv_at hl 0 rfl) ?_
            refine lv_iload_n hx hb d_M_verdict_89 rfl (lv_at hl 3 rfl) ?_
            refine va_zast hx hb hK hP hD hS 2 2 rfl rfl (i := (nI q)) (vp_in_nI (show q < 100 by omega) (by omega)) d_M_verdict_90 (fun H locs hP hD hS => ?_)
            rw [nI_clamp (show q < 2 ^ 31 by omega)] at hP hD
            have hP : va_P G.1 classes [(a, .inr (3, [.int 0, .long ns, .long sd, .int (nI n), .int k, .int lb, .int (nI (q + 1)), .ref w1, .ref w2, .ref w3])), (w1, .inl (G.2.2.1, 100, .inl (upd g q p1))), (w2, .inl (G.2.2.2, 100, .inl (upd h q (vp_nar .boolean p2)))), (w3, .inl (G.2.2.1, 10, .inl ik))] H := hP
            have hD : va_D A [(a, .inr (3, [.int 0, .long ns, .long sd, .int (nI n), .int k, .int lb, .int (nI (q + 1)), .ref w1, .ref w2, .ref w3])), (w1, .inl (G.2.2.1, 100, .inl (upd g q p1))), (w2, .inl (G.2.2.2, 100, .inl (upd h q (vp_nar .boolean p2)))), (w3, .inl (G.2.2.1, 10, .inl ik))] := hD
            refine lv_aload_n hx hb d_M_verdict_91 rfl (lv_at hl 1 rfl) ?_
            refine va_get (D := G.1) (ci := 3) (v := .int (nI (q + 1))) (C := R_M) (T := F_M) (N := 10) hx hb ht in_M hown hK hP 0 rfl rfl 6 (by decide) (ht _ kf_M_68) (fun _ h9 => h9) rfl d_M_verdict_92 ?_
            exact W.iret (v := (nI (q + 1))) hx hb hr (fun t h9 _ => ⟨⟨(nI (q + 1)), (), rfl, rfl, by show va_P _ _ _ t.heap; rw [h9]; exact hP⟩, hS.F h9⟩) hS.2.2 d_M_verdict_95
        · exact absurd c4 hq1
    · exact absurd (hvd.symm.trans (by unfold mvd; rw [if_neg c1, if_pos c2])) (by decide)
  · exact absurd (hvd.symm.trans (by unfold mvd; rw [if_pos c1])) (by decide)
theorem nI_nm1 {j : Nat} (h : j < 2 ^ 31) : ¬ nI j = -1 := fun e => nI_pos h (by rw [e]; decide)
set_option maxHeartbeats 4000000 in
set_option maxRecDepth 100000 in
theorem c_M_verdict_old (l : Launch) (G : GT) (H : Heap) (a : Nat) (w1 : Nat) (w2 : Nat) (w3 : Nat) (ns : Int64) (sd : Int64) (n : Nat) (k : Int32) (lb : Int32) (q : Nat) (g : Nat → Int32) (h : Nat → Int32) (ik : Nat → Int32) (p1 : Int32) (p2 : Int32) (i1 : Nat) (hP : va_P G.1 classes [(a, .inr (3, [.int 0, .long ns, .long sd, .int (nI n), .int k, .int lb, .int (nI q), .ref w1, .ref w2, .ref w3])), (w1, .inl (G.2.2.1, 100, .inl g)), (w2, .inl (G.2.2.2, 100, .inl h)), (w3, .inl (G.2.2.1, 10, .inl ik))] H) (hD0 : va_D (fun _ => True) [(a, .inr (3, [.int 0, .long ns, .long sd, .int (nI n), .int k, .int lb, .int (nI q), .ref w1, .ref w2, .ref w3])), (w1, .inl (G.2.2.1, 100, .inl g)), (w2, .inl (G.2.2.2, 100, .inl h)), (w3, .inl (G.2.2.1, 10, .inl ik))]) (hn : n ≤ 16) (hq : q ≤ 100) (hvd : mvd n p1 = 0) (hi1 : i1 < q) (hpo : po g p1 q = nI i1) : Met l y_M_verdict (Cond.code y_M_verdict b_M_verdict 4 (some .int) :: TG) ({ frames := 1, cells := 0, slots := 0, locals := 23 }) (PC G H [.ref a, .int p1, .int p2]) (QMi G (nI q) [(a, .inr (3, [.int 0, .long ns, .long sd, .int (nI n), .int k, .int lb, .int (nI q), .ref w1, .ref w2, .ref w3])), (w1, .inl (G.2.2.1, 100, .inl (upd g i1 p1))), (w2, .inl (G.2.2.2, 100, .inl (upd h i1 (vp_nar .boolean p2)))), (w3, .inl (G.2.2.1, 10, .inl ik))] (va_A [(a, .inr (3, [.int 0, .long ns, .long sd, .int (nI n), .int k, .int lb, .int (nI q), .ref w1, .ref w2, .ref w3])), (w1, .inl (G.2.2.1, 100, .inl g)), (w2, .inl (G.2.2.2, 100, .inl h)), (w3, .inl (G.2.2.1, 10, .inl ik))] H.size)) 0 0 (va_A [(a, .inr (3, [.int 0, .long ns, .long sd, .int (nI n), .int k, .int lb, .int (nI q), .ref w1, .ref w2, .ref w3])), (w1, .inl (G.2.2.1, 100, .inl g)), (w2, .inl (G.2.2.2, 100, .inl h)), (w3, .inl (G.2.2.1, 10, .inl ik))] H.size) := by
  refine Met.ofW (cc := b_M_verdict) (maxL := 4) (ret := (some .int)) (by decide) rfl ?_
  intro p e s m args below meth c s₁ B hml hv
  obtain ⟨rfl, hH, hKN⟩ := hv
  subst hH
  have hx := B.exec
  have hb := B.bytes
  have hr := B.returns
  have hts := atoms_spec (ws := (Cond.code y_M_verdict b_M_verdict 4 (some .int) :: TG)) B.pre
  have ht : ∀ w ∈ TG, w.before _ s = true := fun w h => hts w (List.mem_cons_of_mem _ h)
  have hown : s.vm.findClass R_M = some m.cls := findClass_of_methodNamed B.named
  have hlocks := B.notSynchronized
  have hK := hKN.1
  have hl := lv_entry ([.ref a, .int p1, .int p2]) (n := 4) (Nat.le_of_ble_eq_true rfl)
  rw [lg_entry_eq]
  generalize (lg_sl ([.ref a, .int p1, .int p2]) ++ List.replicate (4 - (lg_sl ([.ref a, .int p1, .int p2])).length) Slot.unset).toArray = ls at hl ⊢
  have hl : lv_has ls 4 [(0, .ref a), (1, .int p1), (2, .int p2)] := hl
  have hD := hD0.self (sz := s.heap.size)
  generalize hAe : va_A [(a, .inr (3, [.int 0, .long ns, .long sd, .int (nI n), .int k, .int lb, .int (nI q), .ref w1, .ref w2, .ref w3])), (w1, .inl (G.2.2.1, 100, .inl g)), (w2, .inl (G.2.2.2, 100, .inl h)), (w3, .inl (G.2.2.1, 10, .inl ik))] s.heap.size = A at hD ⊢
  have hA : ∀ q : Nat, s.heap.size ≤ q → A q := fun q h => by rw [← hAe]; exact Or.inr h
  have hS : va_S A s.heap s.heap [] := va_S.rf
  refine lv_aload_n hx hb d_M_verdict_0 rfl (lv_at hl 0 rfl) ?_
  refine lv_iconst (v := 0) hx hb d_M_verdict_1 (by decide) ?_
  refine va_put (D := G.1) (ci := 3) (v := .int 0) (ty := .int) (C := R_M) (T := F_M) (N := 10) hx hb ht in_M t_M tk_M n_M hown hK hP hD hS 0 rfl rfl 0 (by decide) (ht _ kf_M_24) (fun _ h9 => h9) rfl (by decide +kernel) rfl rfl (Nat.le_of_ble_eq_true rfl) d_M_verdict_2 (fun H locs hP hD hS => ?_)
  have hP : va_P G.1 classes [(a, .inr (3, [.int 0, .long ns, .long sd, .int (nI n), .int k, .int lb, .int (nI q), .ref w1, .ref w2, .ref w3])), (w1, .inl (G.2.2.1, 100, .inl g)), (w2, .inl (G.2.2.2, 100, .inl h)), (w3, .inl (G.2.2.1, 10, .inl ik))] H := hP
  have hD : va_D A [(a, .inr (3, [.int 0, .long ns, .long sd, .int (nI n), .int k, .int lb, .int (nI q), .ref w1, .ref w2, .ref w3])), (w1, .inl (G.2.2.1, 100, .inl g)), (w2, .inl (G.2.2.2, 100, .inl h)), (w3, .inl (G.2.2.1, 10, .inl ik))] := hD
  refine lv_aload_n hx hb d_M_verdict_5 rfl (lv_at hl 0 rfl) ?_
  refine va_get (D := G.1) (ci := 3) (v := .int (nI n)) (C := R_M) (T := F_M) (N := 10) hx hb ht in_M hown hK hP 0 rfl rfl 3 (by decide) (ht _ kf_M_62) (fun _ h9 => h9) rfl d_M_verdict_6 ?_
  refine lv_if_ne (tgt := 15) hx hb d_M_verdict_9 (by decide) (fun c1 => ?_) (fun c1 => ?_)
  · refine lv_iload_n hx hb d_M_verdict_15 rfl (lv_at hl 1 rfl) ?_
    refine lv_iconst (v := 1) hx hb d_M_verdict_16 (by decide) ?_
    refine lv_iconst (v := 1) hx hb d_M_verdict_17 (by decide) ?_
    refine lv_aload_n hx hb d_M_verdict_18 rfl (lv_at hl 0 rfl) ?_
    refine va_get (D := G.1) (ci := 3) (v := .int (nI n)) (C := R_M) (T := F_M) (N := 10) hx hb ht in_M hown hK hP 0 rfl rfl 3 (by decide) (ht _ kf_M_62) (fun _ h9 => h9) rfl d_M_verdict_19 ?_
    refine lv_ishl hx hb d_M_verdict_22 ?_
    refine lv_iconst (v := 1) hx hb d_M_verdict_23 (by decide) ?_
    refine lv_isub hx hb d_M_verdict_24 ?_
    refine pr_i (ru_S (As := [.int p1, .int 1, .int (((1 : Int32) <<< ((nI n) &&& 31)) - 1)]) (rest := []) ⟨hx, hb, hml, hown, ht⟩ hKN (c_M_in l G _ p1 1 (((1 : Int32) <<< ((nI n) &&& 31)) - 1)) kc_M_52 ⟨rfl, rfl⟩ ⟨Nat.le_of_ble_eq_true rfl, Nat.le_of_ble_eq_true rfl⟩ rfl hl.1 rfl (Nat.le_of_ble_eq_true rfl) d_M_verdict_25 ⟨Nat.le_of_ble_eq_true rfl, Nat.le_of_ble_eq_true rfl⟩) ?_
    refine lv_if_ne (tgt := 34) hx hb d_M_verdict_28 (by decide) (fun c2 => ?_) (fun c2 => ?_)
    · refine lv_aload_n hx hb d_M_verdict_34 rfl (lv_at hl 0 rfl) ?_
      refine lv_iload_n hx hb d_M_verdict_35 rfl (lv_at hl 1 rfl) ?_
      refine pr_i (ru_V (b := a) (As := [.int p1]) (rest := []) ⟨hx, hb, hml, hown, ht⟩ hKN (c_M_placeOf l G _ a w1 w2 w3 ns sd n k lb q g h ik p1 (hP.sub [0, 1, 2, 3] rfl) hn hq) kc_M_78 ⟨rfl, rfl⟩ ⟨Nat.le_of_ble_eq_true rfl, Nat.le_of_ble_eq_true rfl⟩ (va_recv hK hP (ci := 3) (q0 := 0) rfl rfl) rfl hl.1 rfl (Nat.le_of_ble_eq_true rfl) d_M_verdict_36 ⟨Nat.le_of_ble_eq_true rfl, Nat.le_of_ble_eq_true rfl⟩) ?_
      rw [hpo]
      refine lv_istore_n (lv' := [(3, .int (nI i1)), (0, .ref a), (1, .int p1), (2, .int p2)]) hx hb d_M_verdict_39 rfl hl (by decide) rfl (fun ls hl => ?_)
      refine lv_iload_n hx hb d_M_verdict_40 rfl (lv_at hl 0 rfl) ?_
      refine lv_iconst (v := (-1)) hx hb d_M_verdict_41 (by decide) ?_
      refine lv_icmp_ne (tgt := 57) hx hb d_M_verdict_42 (by decide) (fun c3 => ?_) (fun c3 => ?_)
      · refine lv_iload_n hx hb d_M_verdict_57 rfl (lv_at hl 0 rfl) ?_
        refine lv_iconst (v := (-1)) hx hb d_M_verdict_58 (by decide) ?_
        refine lv_icmp_ne (tgt := 77) hx hb d_M_verdict_59 (by decide) (fun c4 => ?_) (fun c4 => ?_)
        · refine lv_aload_n hx hb d_M_verdict_77 rfl (lv_at hl 1 rfl) ?_
          refine va_get (D := G.1) (ci := 3) (v := .ref w1) (C := R_M) (T := F_M) (N := 10) hx hb ht in_M hown hK hP 0 rfl rfl 7 (by decide) (ht _ kf_M_7) (fun _ h9 => h9) rfl d_M_verdict_78 ?_
          refine lv_iload_n hx hb d_M_verdict_81 rfl (lv_at hl 0 rfl) ?_
          refine lv_iload_n hx hb d_M_verdict_82 rfl (lv_at hl 2 rfl) ?_
          refine va_iast hx hb hK hP hD hS 1 1 rfl rfl (i := (nI i1)) (vp_in_nI (show i1 < 100 by omega) (by omega)) d_M_verdict_83 (fun H locs hP hD hS => ?_)
          rw [nI_clamp (show i1 < 2 ^ 31 by omega)] at hP hD
          have hP : va_P G.1 classes [(a, .inr (3, [.int 0, .long ns, .long sd, .int (nI n), .int k, .int lb, .int (nI q), .ref w1, .ref w2, .ref w3])), (w1, .inl (G.2.2.1, 100, .inl (upd g i1 p1))), (w2, .inl (G.2.2.2, 100, .inl h)), (w3, .inl (G.2.2.1, 10, .inl ik))] H := hP
          have hD : va_D A [(a, .inr (3, [.int 0, .long ns, .long sd, .int (nI n), .int k, .int lb, .int (nI q), .ref w1, .ref w2, .ref w3])), (w1, .inl (G.2.2.1, 100, .inl (upd g i1 p1))), (w2, .inl (G.2.2.2, 100, .inl h)), (w3, .inl (G.2.2.1, 10, .inl ik))] := hD
          refine lv_aload_n hx hb d_M_verdict_84 rfl (lv_at hl 1 rfl) ?_
          refine va_get (D := G.1) (ci := 3) (v := .ref w2) (C := R_M) (T := F_M) (N := 10) hx hb ht in_M hown hK hP 0 rfl rfl 8 (by decide) (ht _ kf_M_13) (fun _ h9 => h9) rfl d_M_verdict_85 ?_
          refine lv_iload_n hx hb d_M_verdict_88 rfl (lv_at hl 0 rfl) ?_
          refine lv_iload_n hx hb d_M_verdict_89 rfl (lv_at hl 3 rfl) ?_
          refine va_zast hx hb hK hP hD hS 2 2 rfl rfl (i := (nI i1)) (vp_in_nI (show i1 < 100 by omega) (by omega)) d_M_verdict_90 (fun H locs hP hD hS => ?_)
          rw [nI_clamp (show i1 < 2 ^ 31 by omega)] at hP hD
          have hP : va_P G.1 classes [(a, .inr (3, [.int 0, .long ns, .long sd, .int (nI n), .int k, .int lb, .int (nI q), .ref w1, .ref w2, .ref w3])), (w1, .inl (G.2.2.1, 100, .inl (upd g i1 p1))), (w2, .inl (G.2.2.2, 100, .inl (upd h i1 (vp_nar .boolean p2)))), (w3, .inl (G.2.2.1, 10, .inl ik))] H := hP
          have hD : va_D A [(a, .inr (3, [.int 0, .long ns, .long sd, .int (nI n), .int k, .int lb, .int (nI q), .ref w1, .ref w2, .ref w3])), (w1, .inl (G.2.2.1, 100, .inl (upd g i1 p1))), (w2, .inl (G.2.2.2, 100, .inl (upd h i1 (vp_nar .boolean p2)))), (w3, .inl (G.2.2.1, 10, .inl ik))] := hD
          refine lv_aload_n hx hb d_M_verdict_91 rfl (lv_at hl 1 rfl) ?_
          refine va_get (D := G.1) (ci := 3) (v := .int (nI q)) (C := R_M) (T := F_M) (N := 10) hx hb ht in_M hown hK hP 0 rfl rfl 6 (by decide) (ht _ kf_M_68) (fun _ h9 => h9) rfl d_M_verdict_92 ?_
          exact W.iret (v := nI q) hx hb hr (fun t h9 _ => ⟨⟨nI q, (), rfl, rfl, by show va_P _ _ _ t.heap; rw [h9]; exact hP⟩, hS.F h9⟩) hS.2.2 d_M_verdict_95
        · exact absurd c4 (show ¬ nI i1 = -1 from nI_nm1 (by omega))
      · exact absurd c3 (show ¬ nI i1 = -1 from nI_nm1 (by omega))
    · exact absurd (hvd.symm.trans (by unfold mvd; rw [if_neg c1, if_pos c2])) (by decide)
  · exact absurd (hvd.symm.trans (by unfold mvd; rw [if_pos c1])) (by decide)
def lm (lb i : Int32) : Nat → Nat → Int32 → Int32
  | 0, _, _ => -1
  | kk + 1, j, x => if ((lb >>> (nI j &&& 31)) &&& 1) = 1 then (if x = i then nI j else lm lb i kk (j + 1) (x + 1)) else lm lb i kk (j + 1) x
set_option maxHeartbeats 4000000 in
set_option maxRecDepth 100000 in
theorem c_M_left (l : Launch) (G : GT) (H : Heap) (a : Nat) (w1 : Nat) (w2 : Nat) (w3 : Nat) (ns : Int64) (sd : Int64) (n : Nat) (k : Int32) (lb : Int32) (q : Nat) (g : Nat → Int32) (h : Nat → Int32) (ik : Nat → Int32) (p1 : Int32) (hP : va_P G.1 classes [(a, .inr (3, [.int 0, .long ns, .long sd, .int (nI n), .int k, .int lb, .int (nI q), .ref w1, .ref w2, .ref w3])), (w1, .inl (G.2.2.1, 100, .inl g)), (w2, .inl (G.2.2.2, 100, .inl h)), (w3, .inl (G.2.2.1, 10, .inl ik))] H) (hD0 : va_D (fun _ => True) [(a, .inr (3, [.int 0, .long ns, .long sd, .int (nI n), .int k, .int lb, .int (nI q), .ref w1, .ref w2, .ref w3])), (w1, .inl (G.2.2.1, 100, .inl g)), (w2, .inl (G.2.2.2, 100, .inl h)), (w3, .inl (G.2.2.1, 10, .inl ik))]) (hn : n ≤ 16) (hq : q ≤ 100) : Met l y_M_left (Cond.code y_M_left b_M_left 4 (some .int) :: TG) ({ frames := 0, cells := 0, slots := 0, locals := 0 }) (PC G H [.ref a, .int p1]) (QMi G (lm lb p1 n 0 0) [(a, .inr (3, [.int 0, .long ns, .long sd, .int (nI n), .int k, .int lb, .int (nI q), .ref w1, .ref w2, .ref w3])), (w1, .inl (G.2.2.1, 100, .inl g)), (w2, .inl (G.2.2.2, 100, .inl h)), (w3, .inl (G.2.2.1, 10, .inl ik))] (va_A [(a, .inr (3, [.int 0, .long ns, .long sd, .int (nI n), .int k, .int lb, .int (nI q), .ref w1, .ref w2, .ref w3])), (w1, .inl (G.2.2.1, 100, .inl g)), (w2, .inl (G.2.2.2, 100, .inl h)), (w3, .inl (G.2.2.1, 10, .inl ik))] H.size)) 0 0 (va_A [(a, .inr (3, [.int 0, .long ns, .long sd, .int (nI n), .int k, .int lb, .int (nI q), .ref w1, .ref w2, .ref w3])), (w1, .inl (G.2.2.1, 100, .inl g)), (w2, .inl (G.2.2.2, 100, .inl h)), (w3, .inl (G.2.2.1, 10, .inl ik))] H.size) := by
  refine Met.ofW (cc := b_M_left) (maxL := 4) (ret := (some .int)) (by decide) rfl ?_
  intro p e s m args below meth c s₁ B hml hv
  obtain ⟨rfl, hH, hKN⟩ := hv
  subst hH
  have hx := B.exec
  have hb := B.bytes
  have hr := B.returns
  have hts := atoms_spec (ws := (Cond.code y_M_left b_M_left 4 (some .int) :: TG)) B.pre
  have ht : ∀ w ∈ TG, w.before _ s = true := fun w h => hts w (List.mem_cons_of_mem _ h)
  have hown : s.vm.findClass R_M = some m.cls := findClass_of_methodNamed B.named
  have hlocks := B.notSynchronized
  have hK := hKN.1
  have hl := lv_entry ([.ref a, .int p1]) (n := 4) (Nat.le_of_ble_eq_true rfl)
  rw [lg_entry_eq]
  generalize (lg_sl ([.ref a, .int p1]) ++ List.replicate (4 - (lg_sl ([.ref a, .int p1])).length) Slot.unset).toArray = ls at hl ⊢
  have hl : lv_has ls 4 [(0, .ref a), (1, .int p1)] := hl
  have hD := hD0.self (sz := s.heap.size)
  generalize hAe : va_A [(a, .inr (3, [.int 0, .long ns, .long sd, .int (nI n), .int k, .int lb, .int (nI q), .ref w1, .ref w2, .ref w3])), (w1, .inl (G.2.2.1, 100, .inl g)), (w2, .inl (G.2.2.2, 100, .inl h)), (w3, .inl (G.2.2.1, 10, .inl ik))] s.heap.size = A at hD ⊢
  have hA : ∀ q : Nat, s.heap.size ≤ q → A q := fun q h => by rw [← hAe]; exact Or.inr h
  have hS : va_S A s.heap s.heap [] := va_S.rf
  refine lv_aload_n hx hb d_M_left_0 rfl (lv_at hl 0 rfl) ?_
  refine lv_iconst (v := 0) hx hb d_M_left_1 (by decide) ?_
  refine va_put (D := G.1) (ci := 3) (v := .int 0) (ty := .int) (C := R_M) (T := F_M) (N := 10) hx hb ht in_M t_M tk_M n_M hown hK hP hD hS 0 rfl rfl 0 (by decide) (ht _ kf_M_24) (fun _ h9 => h9) rfl (by decide +kernel) rfl rfl (Nat.le_of_ble_eq_true rfl) d_M_left_2 (fun H locs hP hD hS => ?_)
  have hP : va_P G.1 classes [(a, .inr (3, [.int 0, .long ns, .long sd, .int (nI n), .int k, .int lb, .int (nI q), .ref w1, .ref w2, .ref w3])), (w1, .inl (G.2.2.1, 100, .inl g)), (w2, .inl (G.2.2.2, 100, .inl h)), (w3, .inl (G.2.2.1, 10, .inl ik))] H := hP
  have hD : va_D A [(a, .inr (3, [.int 0, .long ns, .long sd, .int (nI n), .int k, .int lb, .int (nI q), .ref w1, .ref w2, .ref w3])), (w1, .inl (G.2.2.1, 100, .inl g)), (w2, .inl (G.2.2.2, 100, .inl h)), (w3, .inl (G.2.2.1, 10, .inl ik))] := hD
  refine lv_iconst (v := 0) hx hb d_M_left_5 (by decide) ?_
  refine lv_istore_n (lv' := [(2, .int 0), (0, .ref a), (1, .int p1)]) hx hb d_M_left_6 rfl hl (by decide) rfl (fun ls hl => ?_)
  refine lv_iconst (v := 0) hx hb d_M_left_7 (by decide) ?_
  refine lv_istore_n (lv' := [(3, .int 0), (2, .int 0), (0, .ref a), (1, .int p1)]) hx hb d_M_left_8 rfl hl (by decide) rfl (fun ls hl => ?_)
  have loop : ∀ (kk j : Nat) (x : Int32) (H : Heap) (locs : List Loc) (ls : Array Slot), j + kk = n → lm lb p1 kk j x = lm lb p1 n 0 0 → va_P G.1 classes [(a, .inr (3, [.int 0, .long ns, .long sd, .int (nI n), .int k, .int lb, .int (nI q), .ref w1, .ref w2, .ref w3])), (w1, .inl (G.2.2.1, 100, .inl g)), (w2, .inl (G.2.2.2, 100, .inl h)), (w3, .inl (G.2.2.1, 10, .inl ik))] H → va_D A [(a, .inr (3, [.int 0, .long ns, .long sd, .int (nI n), .int k, .int lb, .int (nI q), .ref w1, .ref w2, .ref w3])), (w1, .inl (G.2.2.1, 100, .inl g)), (w2, .inl (G.2.2.2, 100, .inl h)), (w3, .inl (G.2.2.1, 10, .inl ik))] → va_S A s.heap H locs → lv_has ls 4 [(0, .ref a), (1, .int p1), (2, .int x), (3, .int (nI j))] → W p l e (headSpec (Cond.code y_M_left b_M_left 4 (some .int) :: TG) ({ frames := 0, cells := 0, slots := 0, locals := 0 })).room s m ([.ref a, .int p1] : List Value).toArray below meth c H locs 0 0 (MQ below (QMi G (lm lb p1 n 0 0) [(a, .inr (3, [.int 0, .long ns, .long sd, .int (nI n), .int k, .int lb, .int (nI q), .ref w1, .ref w2, .ref w3])), (w1, .inl (G.2.2.1, 100, .inl g)), (w2, .inl (G.2.2.2, 100, .inl h)), (w3, .inl (G.2.2.1, 10, .inl ik))] A) ([.ref a, .int p1] : List Value).toArray s 0 0 A) (F0 m 9 ls []) := by
    intro kk
    induction kk with
    | zero =>
      intro j x H locs ls hj hv hP hD hS hl
      refine lv_iload_n hx hb d_M_left_9 rfl (lv_at hl 3 rfl) ?_
      refine lv_aload_n hx hb d_M_left_10 rfl (lv_at hl 0 rfl) ?_
      refine va_get (D := G.1) (ci := 3) (v := .int (nI n)) (C := R_M) (T := F_M) (N := 10) hx hb ht in_M hown hK hP 0 rfl rfl 3 (by decide) (ht _ kf_M_62) (fun _ h9 => h9) rfl d_M_left_11 ?_
      refine lv_icmp_ge (tgt := 45) hx hb d_M_left_14 (by decide) (fun c1 => ?_) (fun c1 => ?_)
      · refine lv_iconst (v := (-1)) hx hb d_M_left_45 (by decide) ?_
        exact W.iret (v := (-1)) hx hb hr (fun t h9 _ => ⟨⟨(-1), (), rfl, (by rw [← hv]; simp only [lm]), by show va_P _ _ _ t.heap; rw [h9]; exact hP⟩, hS.F h9⟩) hS.2.2 d_M_left_46
      · exact absurd (show nI n ≤ nI j from nI_le (by omega) (by omega)) c1
    | succ kk ih =>
      intro j x H locs ls hj hv hP hD hS hl
      refine lv_iload_n hx hb d_M_left_9 rfl (lv_at hl 3 rfl) ?_
      refine lv_aload_n hx hb d_M_left_10 rfl (lv_at hl 0 rfl) ?_
      refine va_get (D := G.1) (ci := 3) (v := .int (nI n)) (C := R_M) (T := F_M) (N := 10) hx hb ht in_M hown hK hP 0 rfl rfl 3 (by decide) (ht _ kf_M_62) (fun _ h9 => h9) rfl d_M_left_11 ?_
      refine lv_icmp_ge (tgt := 45) hx hb d_M_left_14 (by decide) (fun c2 => ?_) (fun c2 => ?_)
      · exact absurd c2 (nI_ge (show j < n by omega) (by omega))
      · refine lv_aload_n hx hb d_M_left_17 rfl (lv_at hl 0 rfl) ?_
        refine va_get (D := G.1) (ci := 3) (v := .int lb) (C := R_M) (T := F_M) (N := 10) hx hb ht in_M hown hK hP 0 rfl rfl 5 (by decide) (ht _ kf_M_65) (fun _ h9 => h9) rfl d_M_left_18 ?_
        refine lv_iload_n hx hb d_M_left_21 rfl (lv_at hl 3 rfl) ?_
        refine lv_ishr hx hb d_M_left_22 ?_
        refine lv_iconst (v := 1) hx hb d_M_left_23 (by decide) ?_
        refine lv_iand hx hb d_M_left_24 ?_
        refine lv_iconst (v := 1) hx hb d_M_left_25 (by decide) ?_
        refine lv_icmp_ne (tgt := 39) hx hb d_M_left_26 (by decide) (fun c3 => ?_) (fun c3 => ?_)
        · refine lv_iinc (v := nI (j + 1)) (lv' := [(3, .int (nI (j + 1))), (0, .ref a), (1, .int p1), (2, .int x)]) hx hb d_M_left_39 hl (k := 3) rfl (nI_1 j) (by decide) rfl (fun ls hl => ?_)
          refine lv_goto (tgt := 9) hx hb d_M_left_42 (by decide) ?_
          exact ih (j + 1) x H locs ls (by omega) (by rw [← hv]; simp only [lm]; rw [if_neg c3]) hP hD hS (lv_sub hl [1, 2, 3, 0] rfl)
        · refine lv_iload_n hx hb d_M_left_29 rfl (lv_at hl 2 rfl) ?_
          refine lv_iload_n hx hb d_M_left_30 rfl (lv_at hl 1 rfl) ?_
          refine lv_icmp_ne (tgt := 36) hx hb d_M_left_31 (by decide) (fun c4 => ?_) (fun c4 => ?_)
          · refine lv_iinc (v := x + 1) (lv' := [(2, .int (x + 1)), (0, .ref a), (1, .int p1), (3, .int (nI j))]) hx hb d_M_left_36 hl (k := 2) rfl rfl (by decide) rfl (fun ls hl => ?_)
            refine lv_iinc (v := nI (j + 1)) (lv' := [(3, .int (nI (j + 1))), (2, .int (x + 1)), (0, .ref a), (1, .int p1)]) hx hb d_M_left_39 hl (k := 3) rfl (nI_1 j) (by decide) rfl (fun ls hl => ?_)
            refine lv_goto (tgt := 9) hx hb d_M_left_42 (by decide) ?_
            exact ih (j + 1) (x + 1) H locs ls (by omega) (by rw [← hv]; simp only [lm]; rw [if_pos c3, if_neg c4]) hP hD hS (lv_sub hl [2, 3, 1, 0] rfl)
          · refine lv_iload_n hx hb d_M_left_34 rfl (lv_at hl 3 rfl) ?_
            exact W.iret (v := nI j) hx hb hr (fun t h9 _ => ⟨⟨nI j, (), rfl, (by rw [← hv]; simp only [lm]; rw [if_pos c3, if_pos c4]), by show va_P _ _ _ t.heap; rw [h9]; exact hP⟩, hS.F h9⟩) hS.2.2 d_M_left_35
  exact loop n 0 0 _ _ ls (by omega) rfl hP hD hS (by exact lv_sub hl [2, 3, 1, 0] rfl)
end
section
theorem mod_dbl (u d : Nat) (h0 : 0 < d) : (2 * (u / 2 % d) + u % 2) % d = u % d := by
  have e : u = 2 * (u / 2) + u % 2 := by omega
  conv => rhs; rw [e]
  rw [Nat.add_mod, Nat.mul_mod, Nat.mod_mod, ← Nat.mul_mod, ← Nat.add_mod]
theorem restN (z : Int64) {d : Nat} (h0 : 0 < d) (hd : d < 2 ^ 31) : fn_M_rest z (nI d) = nI (uN z % d) := by
  have h := uN_lt z
  have e1 : ((lN (uN z / 2) - lN (uN z / 2) / lN d * lN d) * 2 + (z &&& 1)) = lN (2 * (uN z / 2 % d) + uN z % 2) := by
    rw [rem_lN (by omega) h0 (by omega), and1_lN, show (2 : Int64) = lN 2 from rfl, lN_mul, lN_add, Nat.mul_comm]
  have hm : uN z / 2 % d < d := Nat.mod_lt _ h0
  unfold fn_M_rest
  rw [sh1, nI_l hd, e1, rem_lN (by omega) h0 (by omega), lN_i, mod_dbl _ _ h0]
theorem fk_in (z : Int64) : vp_in (fn_M_fact z 1 - fn_M_fact z 1 / 10 * 10) 10 := by
  have e : fn_M_fact z 1 = nI (uN z % 100) := by
    unfold fn_M_fact
    rw [if_pos rfl]
    exact restN z (d := 100) (by omega) (by omega)
  have hm : uN z % 100 < 100 := Nat.mod_lt _ (by omega)
  rw [e, show (10 : Int32) = nI 10 from rfl, pk_rem (by omega) (by omega) (by omega)]
  exact vp_in_nI (Nat.mod_lt _ (by omega)) (by omega)
def fn_M_point (sd : Int64) (n : Nat) (k : Int32) (ik : Nat → Int32) (p1 : Int32) (p2 : Int32) (p3 : Int32) : Int32 := (if k = 1 then (if (fn_M_in p1 0 ((nI n) - 1)) = 0 then (-1) else (if (fn_M_in p2 0 11) = 0 then (-1) else (if (fn_M_in p3 0 19) = 0 then (-1) else (if (((ik ((fn_M_fact (zN sd 1 p1) 1) - (fn_M_fact (zN sd 1 p1) 1) / 10 * 10).toNatClampNeg) >>> (((14 - (3 * (p3 / 4))) - (p2 / 4)) &&& 31)) &&& 1) = 1 then ((40 + (fn_M_rest (zN sd (5 + p1) ((12 * p3) + p2)) 33)) - 16) else ((200 + (fn_M_rest (zN sd (5 + p1) ((12 * p3) + p2)) 33)) - 16))))) else (-1))
set_option maxHeartbeats 4000000 in
set_option maxRecDepth 100000 in
theorem c_M_point (l : Launch) (G : GT) (H : Heap) (a : Nat) (w1 : Nat) (w2 : Nat) (w3 : Nat) (ns : Int64) (sd : Int64) (n : Nat) (k : Int32) (lb : Int32) (q : Nat) (g : Nat → Int32) (h : Nat → Int32) (ik : Nat → Int32) (p1 : Int32) (p2 : Int32) (p3 : Int32) (hP : va_P G.1 classes [(a, .inr (3, [.int 0, .long ns, .long sd, .int (nI n), .int k, .int lb, .int (nI q), .ref w1, .ref w2, .ref w3])), (w1, .inl (G.2.2.1, 100, .inl g)), (w2, .inl (G.2.2.2, 100, .inl h)), (w3, .inl (G.2.2.1, 10, .inl ik))] H) (hD0 : va_D (fun _ => True) [(a, .inr (3, [.int 0, .long ns, .long sd, .int (nI n), .int k, .int lb, .int (nI q), .ref w1, .ref w2, .ref w3])), (w1, .inl (G.2.2.1, 100, .inl g)), (w2, .inl (G.2.2.2, 100, .inl h)), (w3, .inl (G.2.2.1, 10, .inl ik))]) (hn : n ≤ 16) (hq : q ≤ 100) : Met l y_M_point (Cond.code y_M_point b_M_point 6 (some .int) :: TG) ({ frames := 2, cells := 0, slots := 0, locals := 46 }) (PC G H [.ref a, .int p1, .int p2, .int p3]) (QMi G (fn_M_point sd n k ik p1 p2 p3) [(a, .inr (3, [.int 0, .long ns, .long sd, .int (nI n), .int k, .int lb, .int (nI q), .ref w1, .ref w2, .ref w3])), (w1, .inl (G.2.2.1, 100, .inl g)), (w2, .inl (G.2.2.2, 100, .inl h)), (w3, .inl (G.2.2.1, 10, .inl ik))] (va_A [(a, .inr (3, [.int 0, .long ns, .long sd, .int (nI n), .int k, .int lb, .int (nI q), .ref w1, .ref w2, .ref w3])), (w1, .inl (G.2.2.1, 100, .inl g)), (w2, .inl (G.2.2.2, 100, .inl h)), (w3, .inl (G.2.2.1, 10, .inl ik))] H.size)) 0 0 (va_A [(a, .inr (3, [.int 0, .long ns, .long sd, .int (nI n), .int k, .int lb, .int (nI q), .ref w1, .ref w2, .ref w3])), (w1, .inl (G.2.2.1, 100, .inl g)), (w2, .inl (G.2.2.2, 100, .inl h)), (w3, .inl (G.2.2.1, 10, .inl ik))] H.size) := by
  refine Met.ofW (cc := b_M_point) (maxL := 6) (ret := (some .int)) (by decide) rfl ?_
  intro p e s m args below meth c s₁ B hml hv
  obtain ⟨rfl, hH, hKN⟩ := hv
  subst hH
  have hx := B.exec
  have hb := B.bytes
  have hr := B.returns
  have hts := atoms_spec (ws := (Cond.code y_M_point b_M_point 6 (some .int) :: TG)) B.pre
  have ht : ∀ w ∈ TG, w.before _ s = true := fun w h => hts w (List.mem_cons_of_mem _ h)
  have hown : s.vm.findClass R_M = some m.cls := findClass_of_methodNamed B.named
  have hlocks := B.notSynchronized
  have hK := hKN.1
  have hl := lv_entry ([.ref a, .int p1, .int p2, .int p3]) (n := 6) (Nat.le_of_ble_eq_true rfl)
  rw [lg_entry_eq]
  generalize (lg_sl ([.ref a, .int p1, .int p2, .int p3]) ++ List.replicate (6 - (lg_sl ([.ref a, .int p1, .int p2, .int p3])).length) Slot.unset).toArray = ls at hl ⊢
  have hl : lv_has ls 6 [(0, .ref a), (1, .int p1), (2, .int p2), (3, .int p3)] := hl
  have hD := hD0.self (sz := s.heap.size)
  generalize hAe : va_A [(a, .inr (3, [.int 0, .long ns, .long sd, .int (nI n), .int k, .int lb, .int (nI q), .ref w1, .ref w2, .ref w3])), (w1, .inl (G.2.2.1, 100, .inl g)), (w2, .inl (G.2.2.2, 100, .inl h)), (w3, .inl (G.2.2.1, 10, .inl ik))] s.heap.size = A at hD ⊢
  have hA : ∀ q : Nat, s.heap.size ≤ q → A q := fun q h => by rw [← hAe]; exact Or.inr h
  have hS : va_S A s.heap s.heap [] := va_S.rf
  refine lv_aload_n hx hb d_M_point_0 rfl (lv_at hl 0 rfl) ?_
  refine lv_iconst (v := 0) hx hb d_M_point_1 (by decide) ?_
  refine va_put (D := G.1) (ci := 3) (v := .int 0) (ty := .int) (C := R_M) (T := F_M) (N := 10) hx hb ht in_M t_M tk_M n_M hown hK hP hD hS 0 rfl rfl 0 (by decide) (ht _ kf_M_24) (fun _ h9 => h9) rfl (by decide +kernel) rfl rfl (Nat.le_of_ble_eq_true rfl) d_M_point_2 (fun H locs hP hD hS => ?_)
  have hP : va_P G.1 classes [(a, .inr (3, [.int 0, .long ns, .long sd, .int (nI n), .int k, .int lb, .int (nI q), .ref w1, .ref w2, .ref w3])), (w1, .inl (G.2.2.1, 100, .inl g)), (w2, .inl (G.2.2.2, 100, .inl h)), (w3, .inl (G.2.2.1, 10, .inl ik))] H := hP
  have hD : va_D A [(a, .inr (3, [.int 0, .long ns, .long sd, .int (nI n), .int k, .int lb, .int (nI q), .ref w1, .ref w2, .ref w3])), (w1, .inl (G.2.2.1, 100, .inl g)), (w2, .inl (G.2.2.2, 100, .inl h)), (w3, .inl (G.2.2.1, 10, .inl ik))] := hD
  refine lv_aload_n hx hb d_M_point_5 rfl (lv_at hl 0 rfl) ?_
  refine va_get (D := G.1) (ci := 3) (v := .int k) (C := R_M) (T := F_M) (N := 10) hx hb ht in_M hown hK hP 0 rfl rfl 4 (by decide) (ht _ kf_M_59) (fun _ h9 => h9) rfl d_M_point_6 ?_
  refine lv_iconst (v := 1) hx hb d_M_point_9 (by decide) ?_
  refine lv_icmp_ne (tgt := 47) hx hb d_M_point_10 (by decide) (fun c1 => ?_) (fun c1 => ?_)
  · refine lv_iconst (v := (-1)) hx hb d_M_point_47 (by decide) ?_
    exact W.iret (v := (-1)) hx hb hr (fun t h9 _ => ⟨⟨(-1), (), rfl, (by unfold fn_M_point; rw [if_neg c1]), by show va_P _ _ _ t.heap; rw [h9]; exact hP⟩, hS.F h9⟩) hS.2.2 d_M_point_48
  · refine lv_iload_n hx hb d_M_point_13 rfl (lv_at hl 1 rfl) ?_
    refine lv_iconst (v := 0) hx hb d_M_point_14 (by decide) ?_
    refine lv_aload_n hx hb d_M_point_15 rfl (lv_at hl 0 rfl) ?_
    refine va_get (D := G.1) (ci := 3) (v := .int (nI n)) (C := R_M) (T := F_M) (N := 10) hx hb ht in_M hown hK hP 0 rfl rfl 3 (by decide) (ht _ kf_M_62) (fun _ h9 => h9) rfl d_M_point_16 ?_
    refine lv_iconst (v := 1) hx hb d_M_point_19 (by decide) ?_
    refine lv_isub hx hb d_M_point_20 ?_
    refine pr_i (ru_S (As := [.int p1, .int 0, .int ((nI n) - 1)]) (rest := []) ⟨hx, hb, hml, hown, ht⟩ hKN (c_M_in l G _ p1 0 ((nI n) - 1)) kc_M_52 ⟨rfl, rfl⟩ ⟨Nat.le_of_ble_eq_true rfl, Nat.le_of_ble_eq_true rfl⟩ rfl hl.1 rfl (Nat.le_of_ble_eq_true rfl) d_M_point_21 ⟨Nat.le_of_ble_eq_true rfl, Nat.le_of_ble_eq_true rfl⟩) ?_
    refine lv_if_eq (tgt := 47) hx hb d_M_point_24 (by decide) (fun c2 => ?_) (fun c2 => ?_)
    · refine lv_iconst (v := (-1)) hx hb d_M_point_47 (by decide) ?_
      exact W.iret (v := (-1)) hx hb hr (fun t h9 _ => ⟨⟨(-1), (), rfl, (by unfold fn_M_point; rw [if_pos c1, if_pos c2]), by show va_P _ _ _ t.heap; rw [h9]; exact hP⟩, hS.F h9⟩) hS.2.2 d_M_point_48
    · refine lv_iload_n hx hb d_M_point_27 rfl (lv_at hl 2 rfl) ?_
      refine lv_iconst (v := 0) hx hb d_M_point_28 (by decide) ?_
      refine lv_bipush (v := 11) hx hb d_M_point_29 (by decide) ?_
      refine pr_i (ru_S (As := [.int p2, .int 0, .int 11]) (rest := []) ⟨hx, hb, hml, hown, ht⟩ hKN (c_M_in l G _ p2 0 11) kc_M_52 ⟨rfl, rfl⟩ ⟨Nat.le_of_ble_eq_true rfl, Nat.le_of_ble_eq_true rfl⟩ rfl hl.1 rfl (Nat.le_of_ble_eq_true rfl) d_M_point_31 ⟨Nat.le_of_ble_eq_true rfl, Nat.le_of_ble_eq_true rfl⟩) ?_
      refine lv_if_eq (tgt := 47) hx hb d_M_point_34 (by decide) (fun c3 => ?_) (fun c3 => ?_)
      · refine lv_iconst (v := (-1)) hx hb d_M_point_47 (by decide) ?_
        exact W.iret (v := (-1)) hx hb hr (fun t h9 _ => ⟨⟨(-1), (), rfl, (by unfold fn_M_point; rw [if_pos c1, if_neg c2, if_pos c3]), by show va_P _ _ _ t.heap; rw [h9]; exact hP⟩, hS.F h9⟩) hS.2.2 d_M_point_48
      · refine lv_iload_n hx hb d_M_point_37 rfl (lv_at hl 3 rfl) ?_
        refine lv_iconst (v := 0) hx hb d_M_point_38 (by decide) ?_
        refine lv_bipush (v := 19) hx hb d_M_point_39 (by decide) ?_
        refine pr_i (ru_S (As := [.int p3, .int 0, .int 19]) (rest := []) ⟨hx, hb, hml, hown, ht⟩ hKN (c_M_in l G _ p3 0 19) kc_M_52 ⟨rfl, rfl⟩ ⟨Nat.le_of_ble_eq_true rfl, Nat.le_of_ble_eq_true rfl⟩ rfl hl.1 rfl (Nat.le_of_ble_eq_true rfl) d_M_point_41 ⟨Nat.le_of_ble_eq_true rfl, Nat.le_of_ble_eq_true rfl⟩) ?_
        refine lv_if_ne (tgt := 49) hx hb d_M_point_44 (by decide) (fun c4 => ?_) (fun c4 => ?_)
        · refine lv_aload_n hx hb d_M_point_49 rfl (lv_at hl 0 rfl) ?_
          refine va_get (D := G.1) (ci := 3) (v := .ref w3) (C := R_M) (T := F_M) (N := 10) hx hb ht in_M hown hK hP 0 rfl rfl 9 (by decide) (ht _ kf_M_17) (fun _ h9 => h9) rfl d_M_point_50 ?_
          refine lv_aload_n hx hb d_M_point_53 rfl (lv_at hl 0 rfl) ?_
          refine va_get (D := G.1) (ci := 3) (v := .long sd) (C := R_M) (T := F_M) (N := 10) hx hb ht in_M hown hK hP 0 rfl rfl 2 (by decide) (ht _ kf_M_56) (fun _ h9 => h9) rfl d_M_point_54 ?_
          refine lv_iconst (v := 1) hx hb d_M_point_57 (by decide) ?_
          refine lv_iload_n hx hb d_M_point_58 rfl (lv_at hl 1 rfl) ?_
          refine pr_l (ru_S (As := [.long sd, .int 1, .int p1]) (rest := [.ref w3]) ⟨hx, hb, hml, hown, ht⟩ hKN (c_M_number l G _ sd 1 p1) kc_M_44 ⟨rfl, rfl⟩ ⟨Nat.le_of_ble_eq_true rfl, Nat.le_of_ble_eq_true rfl⟩ rfl hl.1 rfl (Nat.le_of_ble_eq_true rfl) d_M_point_59 ⟨Nat.le_of_ble_eq_true rfl, Nat.le_of_ble_eq_true rfl⟩) ?_
          refine lv_iconst (v := 1) hx hb d_M_point_62 (by decide) ?_
          refine pr_i (ru_S (As := [.long (zN sd 1 p1), .int 1]) (rest := [.ref w3]) ⟨hx, hb, hml, hown, ht⟩ hKN (c_M_fact l G _ (zN sd 1 p1) 1) kc_M_75 ⟨rfl, rfl⟩ ⟨Nat.le_of_ble_eq_true rfl, Nat.le_of_ble_eq_true rfl⟩ rfl hl.1 rfl (Nat.le_of_ble_eq_true rfl) d_M_point_63 ⟨Nat.le_of_ble_eq_true rfl, Nat.le_of_ble_eq_true rfl⟩) ?_
          refine lv_bipush (v := 10) hx hb d_M_point_66 (by decide) ?_
          refine lv_irem hx hb d_M_point_68 (by decide) ?_
          refine va_iald hx hb hK hP 3 1 rfl rfl (i := ((fn_M_fact (zN sd 1 p1) 1) - (fn_M_fact (zN sd 1 p1) 1) / 10 * 10)) (fk_in _) d_M_point_69 ?_
          refine lv_istore (lv' := [(4, .int (ik ((fn_M_fact (zN sd 1 p1) 1) - (fn_M_fact (zN sd 1 p1) 1) / 10 * 10).toNatClampNeg)), (0, .ref a), (1, .int p1), (2, .int p2), (3, .int p3)]) hx hb d_M_point_70 hl (by decide) rfl (fun ls hl => ?_)
          refine lv_iload hx hb d_M_point_72 (lv_at hl 0 rfl) ?_
          refine lv_bipush (v := 14) hx hb d_M_point_74 (by decide) ?_
          refine lv_iconst (v := 3) hx hb d_M_point_76 (by decide) ?_
          refine lv_iload_n hx hb d_M_point_77 rfl (lv_at hl 4 rfl) ?_
          refine lv_iconst (v := 4) hx hb d_M_point_78 (by decide) ?_
          refine lv_idiv hx hb d_M_point_79 (by decide) ?_
          refine lv_imul hx hb d_M_point_80 ?_
          refine lv_isub hx hb d_M_point_81 ?_
          refine lv_iload_n hx hb d_M_point_82 rfl (lv_at hl 3 rfl) ?_
          refine lv_iconst (v := 4) hx hb d_M_point_83 (by decide) ?_
          refine lv_idiv hx hb d_M_point_84 (by decide) ?_
          refine lv_isub hx hb d_M_point_85 ?_
          refine lv_ishr hx hb d_M_point_86 ?_
          refine lv_iconst (v := 1) hx hb d_M_point_87 (by decide) ?_
          refine lv_iand hx hb d_M_point_88 ?_
          refine lv_iconst (v := 1) hx hb d_M_point_89 (by decide) ?_
          refine lv_icmp_ne (tgt := 97) hx hb d_M_point_90 (by decide) (fun c5 => ?_) (fun c5 => ?_)
          · refine lv_iconst (v := 0) hx hb d_M_point_97 (by decide) ?_
            refine lv_istore (lv' := [(5, .int 0), (4, .int (ik ((fn_M_fact (zN sd 1 p1) 1) - (fn_M_fact (zN sd 1 p1) 1) / 10 * 10).toNatClampNeg)), (0, .ref a), (1, .int p1), (2, .int p2), (3, .int p3)]) hx hb d_M_point_98 hl (by decide) rfl (fun ls hl => ?_)
            refine lv_iload hx hb d_M_point_100 (lv_at hl 0 rfl) ?_
            refine lv_if_eq (tgt := 110) hx hb d_M_point_102 (by decide) (fun _ => ?_) (fun c6 => absurd (by decide) c6)
            refine lv_sipush (v := 200) hx hb d_M_point_110 (by decide) ?_
            refine lv_aload_n hx hb d_M_point_113 rfl (lv_at hl 2 rfl) ?_
            refine va_get (D := G.1) (ci := 3) (v := .long sd) (C := R_M) (T := F_M) (N := 10) hx hb ht in_M hown hK hP 0 rfl rfl 2 (by decide) (ht _ kf_M_56) (fun _ h9 => h9) rfl d_M_point_114 ?_
            refine lv_iconst (v := 5) hx hb d_M_point_117 (by decide) ?_
            refine lv_iload_n hx hb d_M_point_118 rfl (lv_at hl 3 rfl) ?_
            refine lv_iadd hx hb d_M_point_119 ?_
            refine lv_bipush (v := 12) hx hb d_M_point_120 (by decide) ?_
            refine lv_iload_n hx hb d_M_point_122 rfl (lv_at hl 5 rfl) ?_
            refine lv_imul hx hb d_M_point_123 ?_
            refine lv_iload_n hx hb d_M_point_124 rfl (lv_at hl 4 rfl) ?_
            refine lv_iadd hx hb d_M_point_125 ?_
            refine pr_l (ru_S (As := [.long sd, .int (5 + p1), .int ((12 * p3) + p2)]) (rest := [.int 200]) ⟨hx, hb, hml, hown, ht⟩ hKN (c_M_number l G _ sd (5 + p1) ((12 * p3) + p2)) kc_M_44 ⟨rfl, rfl⟩ ⟨Nat.le_of_ble_eq_true rfl, Nat.le_of_ble_eq_true rfl⟩ rfl hl.1 rfl (Nat.le_of_ble_eq_true rfl) d_M_point_126 ⟨Nat.le_of_ble_eq_true rfl, Nat.le_of_ble_eq_true rfl⟩) ?_
            refine lv_bipush (v := 33) hx hb d_M_point_129 (by decide) ?_
            refine pr_i (ru_S (As := [.long (zN sd (5 + p1) ((12 * p3) + p2)), .int 33]) (rest := [.int 200]) ⟨hx, hb, hml, hown, ht⟩ hKN (c_M_rest l G _ (zN sd (5 + p1) ((12 * p3) + p2)) 33 (by decide)) kc_M_40 ⟨rfl, rfl⟩ ⟨Nat.le_of_ble_eq_true rfl, Nat.le_of_ble_eq_true rfl⟩ rfl hl.1 rfl (Nat.le_of_ble_eq_true rfl) d_M_point_131 ⟨Nat.le_of_ble_eq_true rfl, Nat.le_of_ble_eq_true rfl⟩) ?_
            refine lv_iadd hx hb d_M_point_134 ?_
            refine lv_bipush (v := 16) hx hb d_M_point_135 (by decide) ?_
            refine lv_isub hx hb d_M_point_137 ?_
            exact W.iret (v := ((200 + (fn_M_rest (zN sd (5 + p1) ((12 * p3) + p2)) 33)) - 16)) hx hb hr (fun t h9 _ => ⟨⟨((200 + (fn_M_rest (zN sd (5 + p1) ((12 * p3) + p2)) 33)) - 16), (), rfl, (by unfold fn_M_point; rw [if_pos c1, if_neg c2, if_neg c3, if_neg c4, if_neg c5]), by show va_P _ _ _ t.heap; rw [h9]; exact hP⟩, hS.F h9⟩) hS.2.2 d_M_point_138
          · refine lv_iconst (v := 1) hx hb d_M_point_93 (by decide) ?_
            refine lv_goto (tgt := 98) hx hb d_M_point_94 (by decide) ?_
            refine lv_istore (lv' := [(5, .int 1), (4, .int (ik ((fn_M_fact (zN sd 1 p1) 1) - (fn_M_fact (zN sd 1 p1) 1) / 10 * 10).toNatClampNeg)), (0, .ref a), (1, .int p1), (2, .int p2), (3, .int p3)]) hx hb d_M_point_98 hl (by decide) rfl (fun ls hl => ?_)
            refine lv_iload hx hb d_M_point_100 (lv_at hl 0 rfl) ?_
            refine lv_if_eq (tgt := 110) hx hb d_M_point_102 (by decide) (fun c7 => absurd c7 (by decide)) (fun _ => ?_)
            refine lv_bipush (v := 40) hx hb d_M_point_105 (by decide) ?_
            refine lv_goto (tgt := 113) hx hb d_M_point_107 (by decide) ?_
            refine lv_aload_n hx hb d_M_point_113 rfl (lv_at hl 2 rfl) ?_
            refine va_get (D := G.1) (ci := 3) (v := .long sd) (C := R_M) (T := F_M) (N := 10) hx hb ht in_M hown hK hP 0 rfl rfl 2 (by decide) (ht _ kf_M_56) (fun _ h9 => h9) rfl d_M_point_114 ?_
            refine lv_iconst (v := 5) hx hb d_M_point_117 (by decide) ?_
            refine lv_iload_n hx hb d_M_point_118 rfl (lv_at hl 3 rfl) ?_
            refine lv_iadd hx hb d_M_point_119 ?_
            refine lv_bipush (v := 12) hx hb d_M_point_120 (by decide) ?_
            refine lv_iload_n hx hb d_M_point_122 rfl (lv_at hl 5 rfl) ?_
            refine lv_imul hx hb d_M_point_123 ?_
            refine lv_iload_n hx hb d_M_point_124 rfl (lv_at hl 4 rfl) ?_
            refine lv_iadd hx hb d_M_point_125 ?_
            refine pr_l (ru_S (As := [.long sd, .int (5 + p1), .int ((12 * p3) + p2)]) (rest := [.int 40]) ⟨hx, hb, hml, hown, ht⟩ hKN (c_M_number l G _ sd (5 + p1) ((12 * p3) + p2)) kc_M_44 ⟨rfl, rfl⟩ ⟨Nat.le_of_ble_eq_true rfl, Nat.le_of_ble_eq_true rfl⟩ rfl hl.1 rfl (Nat.le_of_ble_eq_true rfl) d_M_point_126 ⟨Nat.le_of_ble_eq_true rfl, Nat.le_of_ble_eq_true rfl⟩) ?_
            refine lv_bipush (v := 33) hx hb d_M_point_129 (by decide) ?_
            refine pr_i (ru_S (As := [.long (zN sd (5 + p1) ((12 * p3) + p2)), .int 33]) (rest := [.int 40]) ⟨hx, hb, hml, hown, ht⟩ hKN (c_M_rest l G _ (zN sd (5 + p1) ((12 * p3) + p2)) 33 (by decide)) kc_M_40 ⟨rfl, rfl⟩ ⟨Nat.le_of_ble_eq_true rfl, Nat.le_of_ble_eq_true rfl⟩ rfl hl.1 rfl (Nat.le_of_ble_eq_true rfl) d_M_point_131 ⟨Nat.le_of_ble_eq_true rfl, Nat.le_of_ble_eq_true rfl⟩) ?_
            refine lv_iadd hx hb d_M_point_134 ?_
            refine lv_bipush (v := 16) hx hb d_M_point_135 (by decide) ?_
            refine lv_isub hx hb d_M_point_137 ?_
            exact W.iret (v := ((40 + (fn_M_rest (zN sd (5 + p1) ((12 * p3) + p2)) 33)) - 16)) hx hb hr (fun t h9 _ => ⟨⟨((40 + (fn_M_rest (zN sd (5 + p1) ((12 * p3) + p2)) 33)) - 16), (), rfl, (by unfold fn_M_point; rw [if_pos c1, if_neg c2, if_neg c3, if_neg c4, if_pos c5]), by show va_P _ _ _ t.heap; rw [h9]; exact hP⟩, hS.F h9⟩) hS.2.2 d_M_point_138
        · refine lv_iconst (v := (-1)) hx hb d_M_point_47 (by decide) ?_
          exact W.iret (v := (-1)) hx hb hr (fun t h9 _ => ⟨⟨(-1), (), rfl, (by unfold fn_M_point; rw [if_pos c1, if_neg c2, if_neg c3, if_pos c4]), by show va_P _ _ _ t.heap; rw [h9]; exact hP⟩, hS.F h9⟩) hS.2.2 d_M_point_48
end
section
theorem wo_or (g h : Nat → Int32) (q : Nat) (b : Int32) : ∀ kk j, wo g h q b kk j = -1 ∨ ∃ k, j ≤ k ∧ k < j + kk ∧ wo g h q b kk j = nI k
  | 0, j => Or.inl rfl
  | kk + 1, j => by
    have ih := wo_or g h q b kk (j + 1)
    have key : wo g h q b kk (j + 1) = -1 ∨ ∃ k, j ≤ k ∧ k < j + (kk + 1) ∧ wo g h q b kk (j + 1) = nI k := by
      rcases ih with e | ⟨k, h1, h2, h3⟩
      · exact Or.inl e
      · exact Or.inr ⟨k, by omega, by omega, h3⟩
    unfold wo
    split
    · split
      · exact key
      · split
        · exact key
        · exact Or.inr ⟨j, by omega, by omega, rfl⟩
    · exact key
/-- the reference's while loop, by fuel: none where it doesn't end within it -/
def msO (g h : Nat → Int32) (q n : Nat) : Nat → Int32 → Nat → Option Int32
  | 0, _, _ => none
  | t + 1, b, j => if wo g h q b (n - j) j = -1 then (if j = 0 then some b else msO g h q n t b 0) else msO g h q n t (b - ((1 : Int32) <<< (wo g h q b (n - j) j &&& 31))) ((wo g h q b (n - j) j).toNatClampNeg + 1)
theorem msO_s (g h : Nat → Int32) (q n t : Nat) (b : Int32) (j : Nat) : msO g h q n (t + 1) b j = if wo g h q b (n - j) j = -1 then (if j = 0 then some b else msO g h q n t b 0) else msO g h q n t (b - ((1 : Int32) <<< (wo g h q b (n - j) j &&& 31))) ((wo g h q b (n - j) j).toNatClampNeg + 1) := rfl
def mshR (g h : Nat → Int32) (q n t : Nat) : Option Int32 := if fn_M_stays q g h (((1 : Int32) <<< (nI n &&& 31)) - 1) = 0 then some (((1 : Int32) <<< (nI n &&& 31)) - 1) else msO g h q n t (((1 : Int32) <<< (nI n &&& 31)) - 1) 0
set_option maxHeartbeats 4000000 in
set_option maxRecDepth 100000 in
theorem c_M_shorter_no (l : Launch) (G : GT) (H : Heap) (a : Nat) (w1 : Nat) (w2 : Nat) (w3 : Nat) (ns : Int64) (sd : Int64) (n : Nat) (k : Int32) (lb : Int32) (q : Nat) (g : Nat → Int32) (h : Nat → Int32) (ik : Nat → Int32) (hP : va_P G.1 classes [(a, .inr (3, [.int 0, .long ns, .long sd, .int (nI n), .int k, .int lb, .int (nI q), .ref w1, .ref w2, .ref w3])), (w1, .inl (G.2.2.1, 100, .inl g)), (w2, .inl (G.2.2.2, 100, .inl h)), (w3, .inl (G.2.2.1, 10, .inl ik))] H) (hD0 : va_D (fun _ => True) [(a, .inr (3, [.int 0, .long ns, .long sd, .int (nI n), .int k, .int lb, .int (nI q), .ref w1, .ref w2, .ref w3])), (w1, .inl (G.2.2.1, 100, .inl g)), (w2, .inl (G.2.2.2, 100, .inl h)), (w3, .inl (G.2.2.1, 10, .inl ik))]) (hn : n ≤ 16) (hq : q ≤ 100) (hE : nI n = 0) : Met l y_M_shorter (Cond.code y_M_shorter b_M_shorter 4 (some .int) :: TG) ({ frames := 0, cells := 0, slots := 0, locals := 0 }) (PC G H [.ref a]) (QMi G (-13) [(a, .inr (3, [.int 0, .long ns, .long sd, .int (nI n), .int k, .int lb, .int (nI q), .ref w1, .ref w2, .ref w3])), (w1, .inl (G.2.2.1, 100, .inl g)), (w2, .inl (G.2.2.2, 100, .inl h)), (w3, .inl (G.2.2.1, 10, .inl ik))] (va_A [(a, .inr (3, [.int 0, .long ns, .long sd, .int (nI n), .int k, .int lb, .int (nI q), .ref w1, .ref w2, .ref w3])), (w1, .inl (G.2.2.1, 100, .inl g)), (w2, .inl (G.2.2.2, 100, .inl h)), (w3, .inl (G.2.2.1, 10, .inl ik))] H.size)) 0 0 (va_A [(a, .inr (3, [.int 0, .long ns, .long sd, .int (nI n), .int k, .int lb, .int (nI q), .ref w1, .ref w2, .ref w3])), (w1, .inl (G.2.2.1, 100, .inl g)), (w2, .inl (G.2.2.2, 100, .inl h)), (w3, .inl (G.2.2.1, 10, .inl ik))] H.size) := by
  refine Met.ofW (cc := b_M_shorter) (maxL := 4) (ret := (some .int)) (by decide) rfl ?_
  intro p e s m args below meth c s₁ B hml hv
  obtain ⟨rfl, hH, hKN⟩ := hv
  subst hH
  have hx := B.exec
  have hb := B.bytes
  have hr := B.returns
  have hts := atoms_spec (ws := (Cond.code y_M_shorter b_M_shorter 4 (some .int) :: TG)) B.pre
  have ht : ∀ w ∈ TG, w.before _ s = true := fun w h => hts w (List.mem_cons_of_mem _ h)
  have hown : s.vm.findClass R_M = some m.cls := findClass_of_methodNamed B.named
  have hlocks := B.notSynchronized
  have hK := hKN.1
  have hl := lv_entry ([.ref a]) (n := 4) (Nat.le_of_ble_eq_true rfl)
  rw [lg_entry_eq]
  generalize (lg_sl ([.ref a]) ++ List.replicate (4 - (lg_sl ([.ref a])).length) Slot.unset).toArray = ls at hl ⊢
  have hl : lv_has ls 4 [(0, .ref a)] := hl
  have hD := hD0.self (sz := s.heap.size)
  generalize hAe : va_A [(a, .inr (3, [.int 0, .long ns, .long sd, .int (nI n), .int k, .int lb, .int (nI q), .ref w1, .ref w2, .ref w3])), (w1, .inl (G.2.2.1, 100, .inl g)), (w2, .inl (G.2.2.2, 100, .inl h)), (w3, .inl (G.2.2.1, 10, .inl ik))] s.heap.size = A at hD ⊢
  have hA : ∀ q : Nat, s.heap.size ≤ q → A q := fun q h => by rw [← hAe]; exact Or.inr h
  have hS : va_S A s.heap s.heap [] := va_S.rf
  refine lv_aload_n hx hb d_M_shorter_0 rfl (lv_at hl 0 rfl) ?_
  refine lv_iconst (v := 0) hx hb d_M_shorter_1 (by decide) ?_
  refine va_put (D := G.1) (ci := 3) (v := .int 0) (ty := .int) (C := R_M) (T := F_M) (N := 10) hx hb ht in_M t_M tk_M n_M hown hK hP hD hS 0 rfl rfl 0 (by decide) (ht _ kf_M_24) (fun _ h9 => h9) rfl (by decide +kernel) rfl rfl (Nat.le_of_ble_eq_true rfl) d_M_shorter_2 (fun H locs hP hD hS => ?_)
  have hP : va_P G.1 classes [(a, .inr (3, [.int 0, .long ns, .long sd, .int (nI n), .int k, .int lb, .int (nI q), .ref w1, .ref w2, .ref w3])), (w1, .inl (G.2.2.1, 100, .inl g)), (w2, .inl (G.2.2.2, 100, .inl h)), (w3, .inl (G.2.2.1, 10, .inl ik))] H := hP
  have hD : va_D A [(a, .inr (3, [.int 0, .long ns, .long sd, .int (nI n), .int k, .int lb, .int (nI q), .ref w1, .ref w2, .ref w3])), (w1, .inl (G.2.2.1, 100, .inl g)), (w2, .inl (G.2.2.2, 100, .inl h)), (w3, .inl (G.2.2.1, 10, .inl ik))] := hD
  refine lv_aload_n hx hb d_M_shorter_5 rfl (lv_at hl 0 rfl) ?_
  refine va_get (D := G.1) (ci := 3) (v := .int (nI n)) (C := R_M) (T := F_M) (N := 10) hx hb ht in_M hown hK hP 0 rfl rfl 3 (by decide) (ht _ kf_M_62) (fun _ h9 => h9) rfl d_M_shorter_6 ?_
  refine lv_if_ne (tgt := 15) hx hb d_M_shorter_9 (by decide) (fun c1 => ?_) (fun c1 => ?_)
  · exact absurd hE c1
  · refine lv_bipush (v := (-13)) hx hb d_M_shorter_12 (by decide) ?_
    exact W.iret (v := (-13)) hx hb hr (fun t h9 _ => ⟨⟨(-13), (), rfl, rfl, by show va_P _ _ _ t.heap; rw [h9]; exact hP⟩, hS.F h9⟩) hS.2.2 d_M_shorter_14
set_option maxHeartbeats 4000000 in
set_option maxRecDepth 100000 in
theorem c_M_shorter (l : Launch) (G : GT) (H : Heap) (a : Nat) (w1 : Nat) (w2 : Nat) (w3 : Nat) (ns : Int64) (sd : Int64) (n : Nat) (k : Int32) (lb : Int32) (q : Nat) (g : Nat → Int32) (h : Nat → Int32) (ik : Nat → Int32) (t0 : Nat) (r : Int32) (hP : va_P G.1 classes [(a, .inr (3, [.int 0, .long ns, .long sd, .int (nI n), .int k, .int lb, .int (nI q), .ref w1, .ref w2, .ref w3])), (w1, .inl (G.2.2.1, 100, .inl g)), (w2, .inl (G.2.2.2, 100, .inl h)), (w3, .inl (G.2.2.1, 10, .inl ik))] H) (hD0 : va_D (fun _ => True) [(a, .inr (3, [.int 0, .long ns, .long sd, .int (nI n), .int k, .int lb, .int (nI q), .ref w1, .ref w2, .ref w3])), (w1, .inl (G.2.2.1, 100, .inl g)), (w2, .inl (G.2.2.2, 100, .inl h)), (w3, .inl (G.2.2.1, 10, .inl ik))]) (hn : n ≤ 16) (hq : q ≤ 100) (hE : ¬ nI n = 0) (hms : mshR g h q n t0 = some r) : Met l y_M_shorter (Cond.code y_M_shorter b_M_shorter 4 (some .int) :: TG) ({ frames := 3, cells := 0, slots := 0, locals := 69 }) (PC G H [.ref a]) (QMi G (co r 16) [(a, .inr (3, [.int 0, .long ns, .long sd, .int (nI n), .int k, .int r, .int (nI q), .ref w1, .ref w2, .ref w3])), (w1, .inl (G.2.2.1, 100, .inl g)), (w2, .inl (G.2.2.2, 100, .inl h)), (w3, .inl (G.2.2.1, 10, .inl ik))] (va_A [(a, .inr (3, [.int 0, .long ns, .long sd, .int (nI n), .int k, .int lb, .int (nI q), .ref w1, .ref w2, .ref w3])), (w1, .inl (G.2.2.1, 100, .inl g)), (w2, .inl (G.2.2.2, 100, .inl h)), (w3, .inl (G.2.2.1, 10, .inl ik))] H.size)) 0 0 (va_A [(a, .inr (3, [.int 0, .long ns, .long sd, .int (nI n), .int k, .int lb, .int (nI q), .ref w1, .ref w2, .ref w3])), (w1, .inl (G.2.2.1, 100, .inl g)), (w2, .inl (G.2.2.2, 100, .inl h)), (w3, .inl (G.2.2.1, 10, .inl ik))] H.size) := by
  refine Met.ofW (cc := b_M_shorter) (maxL := 4) (ret := (some .int)) (by decide) rfl ?_
  intro p e s m args below meth c s₁ B hml hv
  obtain ⟨rfl, hH, hKN⟩ := hv
  subst hH
  have hx := B.exec
  have hb := B.bytes
  have hr := B.returns
  have hts := atoms_spec (ws := (Cond.code y_M_shorter b_M_shorter 4 (some .int) :: TG)) B.pre
  have ht : ∀ w ∈ TG, w.before _ s = true := fun w h => hts w (List.mem_cons_of_mem _ h)
  have hown : s.vm.findClass R_M = some m.cls := findClass_of_methodNamed B.named
  have hlocks := B.notSynchronized
  have hK := hKN.1
  have hl := lv_entry ([.ref a]) (n := 4) (Nat.le_of_ble_eq_true rfl)
  rw [lg_entry_eq]
  generalize (lg_sl ([.ref a]) ++ List.replicate (4 - (lg_sl ([.ref a])).length) Slot.unset).toArray = ls at hl ⊢
  have hl : lv_has ls 4 [(0, .ref a)] := hl
  have hD := hD0.self (sz := s.heap.size)
  generalize hAe : va_A [(a, .inr (3, [.int 0, .long ns, .long sd, .int (nI n), .int k, .int lb, .int (nI q), .ref w1, .ref w2, .ref w3])), (w1, .inl (G.2.2.1, 100, .inl g)), (w2, .inl (G.2.2.2, 100, .inl h)), (w3, .inl (G.2.2.1, 10, .inl ik))] s.heap.size = A at hD ⊢
  have hA : ∀ q : Nat, s.heap.size ≤ q → A q := fun q h => by rw [← hAe]; exact Or.inr h
  have hS : va_S A s.heap s.heap [] := va_S.rf
  refine lv_aload_n hx hb d_M_shorter_0 rfl (lv_at hl 0 rfl) ?_
  refine lv_iconst (v := 0) hx hb d_M_shorter_1 (by decide) ?_
  refine va_put (D := G.1) (ci := 3) (v := .int 0) (ty := .int) (C := R_M) (T := F_M) (N := 10) hx hb ht in_M t_M tk_M n_M hown hK hP hD hS 0 rfl rfl 0 (by decide) (ht _ kf_M_24) (fun _ h9 => h9) rfl (by decide +kernel) rfl rfl (Nat.le_of_ble_eq_true rfl) d_M_shorter_2 (fun H locs hP hD hS => ?_)
  have hP : va_P G.1 classes [(a, .inr (3, [.int 0, .long ns, .long sd, .int (nI n), .int k, .int lb, .int (nI q), .ref w1, .ref w2, .ref w3])), (w1, .inl (G.2.2.1, 100, .inl g)), (w2, .inl (G.2.2.2, 100, .inl h)), (w3, .inl (G.2.2.1, 10, .inl ik))] H := hP
  have hD : va_D A [(a, .inr (3, [.int 0, .long ns, .long sd, .int (nI n), .int k, .int lb, .int (nI q), .ref w1, .ref w2, .ref w3])), (w1, .inl (G.2.2.1, 100, .inl g)), (w2, .inl (G.2.2.2, 100, .inl h)), (w3, .inl (G.2.2.1, 10, .inl ik))] := hD
  refine lv_aload_n hx hb d_M_shorter_5 rfl (lv_at hl 0 rfl) ?_
  refine va_get (D := G.1) (ci := 3) (v := .int (nI n)) (C := R_M) (T := F_M) (N := 10) hx hb ht in_M hown hK hP 0 rfl rfl 3 (by decide) (ht _ kf_M_62) (fun _ h9 => h9) rfl d_M_shorter_6 ?_
  refine lv_if_ne (tgt := 15) hx hb d_M_shorter_9 (by decide) (fun c1 => ?_) (fun c1 => ?_)
  · refine lv_iconst (v := 1) hx hb d_M_shorter_15 (by decide) ?_
    refine lv_aload_n hx hb d_M_shorter_16 rfl (lv_at hl 0 rfl) ?_
    refine va_get (D := G.1) (ci := 3) (v := .int (nI n)) (C := R_M) (T := F_M) (N := 10) hx hb ht in_M hown hK hP 0 rfl rfl 3 (by decide) (ht _ kf_M_62) (fun _ h9 => h9) rfl d_M_shorter_17 ?_
    refine lv_ishl hx hb d_M_shorter_20 ?_
    refine lv_iconst (v := 1) hx hb d_M_shorter_21 (by decide) ?_
    refine lv_isub hx hb d_M_shorter_22 ?_
    refine lv_istore_n (lv' := [(1, .int (((1 : Int32) <<< ((nI n) &&& 31)) - 1)), (0, .ref a)]) hx hb d_M_shorter_23 rfl hl (by decide) rfl (fun ls hl => ?_)
    refine lv_aload_n hx hb d_M_shorter_24 rfl (lv_at hl 1 rfl) ?_
    refine lv_iload_n hx hb d_M_shorter_25 rfl (lv_at hl 0 rfl) ?_
    refine pr_i (ru_V (b := a) (As := [.int (((1 : Int32) <<< ((nI n) &&& 31)) - 1)]) (rest := []) ⟨hx, hb, hml, hown, ht⟩ hKN (c_M_stays l G _ a w1 w2 w3 ns sd n k lb q g h ik (((1 : Int32) <<< ((nI n) &&& 31)) - 1) (hP.sub [0, 1, 2, 3] rfl) hn hq) kc_M_82 ⟨rfl, rfl⟩ ⟨Nat.le_of_ble_eq_true rfl, Nat.le_of_ble_eq_true rfl⟩ (va_recv hK hP (ci := 3) (q0 := 0) rfl rfl) rfl hl.1 rfl (Nat.le_of_ble_eq_true rfl) d_M_shorter_26 ⟨Nat.le_of_ble_eq_true rfl, Nat.le_of_ble_eq_true rfl⟩) ?_
    refine lv_if_eq (tgt := 76) hx hb d_M_shorter_29 (by decide) (fun c2 => ?_) (fun c2 => ?_)
    · have e9 : ((1 : Int32) <<< (nI n &&& 31)) - 1 = r := Option.some.inj (by rw [← hms]; unfold mshR; rw [if_pos c2])
      refine lv_aload_n hx hb d_M_shorter_76 rfl (lv_at hl 1 rfl) ?_
      refine lv_iload_n hx hb d_M_shorter_77 rfl (lv_at hl 0 rfl) ?_
      refine va_put (D := G.1) (ci := 3) (v := .int (((1 : Int32) <<< ((nI n) &&& 31)) - 1)) (ty := .int) (C := R_M) (T := F_M) (N := 10) hx hb ht in_M t_M tk_M n_M hown hK hP hD hS 0 rfl rfl 5 (by decide) (ht _ kf_M_65) (fun _ h9 => h9) rfl (by decide +kernel) rfl rfl (Nat.le_of_ble_eq_true rfl) d_M_shorter_78 (fun H locs hP hD hS => ?_)
      have hP : va_P G.1 classes [(a, .inr (3, [.int 0, .long ns, .long sd, .int (nI n), .int k, .int (((1 : Int32) <<< ((nI n) &&& 31)) - 1), .int (nI q), .ref w1, .ref w2, .ref w3])), (w1, .inl (G.2.2.1, 100, .inl g)), (w2, .inl (G.2.2.2, 100, .inl h)), (w3, .inl (G.2.2.1, 10, .inl ik))] H := hP
      have hD : va_D A [(a, .inr (3, [.int 0, .long ns, .long sd, .int (nI n), .int k, .int (((1 : Int32) <<< ((nI n) &&& 31)) - 1), .int (nI q), .ref w1, .ref w2, .ref w3])), (w1, .inl (G.2.2.1, 100, .inl g)), (w2, .inl (G.2.2.2, 100, .inl h)), (w3, .inl (G.2.2.1, 10, .inl ik))] := hD
      refine lv_iload_n hx hb d_M_shorter_81 rfl (lv_at hl 0 rfl) ?_
      refine pr_i (ru_S (As := [.int (((1 : Int32) <<< ((nI n) &&& 31)) - 1)]) (rest := []) ⟨hx, hb, hml, hown, ht⟩ hKN (c_M_countOf l G _ (((1 : Int32) <<< ((nI n) &&& 31)) - 1)) kc_M_90 ⟨rfl, rfl⟩ ⟨Nat.le_of_ble_eq_true rfl, Nat.le_of_ble_eq_true rfl⟩ rfl hl.1 rfl (Nat.le_of_ble_eq_true rfl) d_M_shorter_82 ⟨Nat.le_of_ble_eq_true rfl, Nat.le_of_ble_eq_true rfl⟩) ?_
      exact W.iret (v := (co (((1 : Int32) <<< ((nI n) &&& 31)) - 1) 16)) hx hb hr (fun t h9 _ => ⟨⟨(co (((1 : Int32) <<< ((nI n) &&& 31)) - 1) 16), (), rfl, (by rw [e9]), by show va_P _ _ _ t.heap; rw [h9]; exact (by rw [← e9]; exact hP)⟩, hS.F h9⟩) hS.2.2 d_M_shorter_85
    · refine lv_iconst (v := 0) hx hb d_M_shorter_32 (by decide) ?_
      refine lv_istore_n (lv' := [(2, .int 0), (1, .int (((1 : Int32) <<< ((nI n) &&& 31)) - 1)), (0, .ref a)]) hx hb d_M_shorter_33 rfl hl (by decide) rfl (fun ls hl => ?_)
      have hv0 : msO g h q n t0 (((1 : Int32) <<< (nI n &&& 31)) - 1) 0 = some r := by rw [← hms]; unfold mshR; rw [if_neg c2]
      have loop : ∀ (t : Nat) (x : Int32) (j : Nat) (H : Heap) (locs : List Loc) (ls : Array Slot), j ≤ n → msO g h q n t x j = some r → va_P G.1 classes [(a, .inr (3, [.int 0, .long ns, .long sd, .int (nI n), .int k, .int lb, .int (nI q), .ref w1, .ref w2, .ref w3])), (w1, .inl (G.2.2.1, 100, .inl g)), (w2, .inl (G.2.2.2, 100, .inl h)), (w3, .inl (G.2.2.1, 10, .inl ik))] H → va_D A [(a, .inr (3, [.int 0, .long ns, .long sd, .int (nI n), .int k, .int lb, .int (nI q), .ref w1, .ref w2, .ref w3])), (w1, .inl (G.2.2.1, 100, .inl g)), (w2, .inl (G.2.2.2, 100, .inl h)), (w3, .inl (G.2.2.1, 10, .inl ik))] → va_S A s.heap H locs → lv_has ls 4 [(0, .ref a), (1, .int x), (2, .int (nI j))] → W p l e (headSpec (Cond.code y_M_shorter b_M_shorter 4 (some .int) :: TG) ({ frames := 3, cells := 0, slots := 0, locals := 69 })).room s m ([.ref a] : List Value).toArray below meth c H locs 0 0 (MQ below (QMi G (co r 16) [(a, .inr (3, [.int 0, .long ns, .long sd, .int (nI n), .int k, .int r, .int (nI q), .ref w1, .ref w2, .ref w3])), (w1, .inl (G.2.2.1, 100, .inl g)), (w2, .inl (G.2.2.2, 100, .inl h)), (w3, .inl (G.2.2.1, 10, .inl ik))] A) ([.ref a] : List Value).toArray s 0 0 A) (F0 m 34 ls []) := by
        intro t
        induction t with
        | zero =>
          intro x j H locs ls hjn hv
          exact absurd hv (by unfold msO; exact fun e => nomatch e)
        | succ t ih =>
          intro x j H locs ls hjn hv hP hD hS hl
          refine lv_iload_n hx hb d_M_shorter_34 rfl (lv_at hl 2 rfl) ?_
          refine lv_if_lt (tgt := 76) hx hb d_M_shorter_35 (by decide) (fun c3 => ?_) (fun c3 => ?_)
          · exact absurd c3 (nI_pos (show j < 2 ^ 31 by omega))
          · refine lv_aload_n hx hb d_M_shorter_38 rfl (lv_at hl 0 rfl) ?_
            refine lv_iload_n hx hb d_M_shorter_39 rfl (lv_at hl 1 rfl) ?_
            refine lv_iload_n hx hb d_M_shorter_40 rfl (lv_at hl 2 rfl) ?_
            refine pr_i (ru_V (b := a) (As := [.int x, .int (nI j)]) (rest := []) ⟨hx, hb, hml, hown, ht⟩ hKN (c_M_without l G _ a w1 w2 w3 ns sd n k lb q g h ik x j (hP.sub [0, 1, 2, 3] rfl) hn hq (show j ≤ n by omega)) kc_M_86 ⟨rfl, rfl⟩ ⟨Nat.le_of_ble_eq_true rfl, Nat.le_of_ble_eq_true rfl⟩ (va_recv hK hP (ci := 3) (q0 := 0) rfl rfl) rfl hl.1 rfl (Nat.le_of_ble_eq_true rfl) d_M_shorter_41 ⟨Nat.le_of_ble_eq_true rfl, Nat.le_of_ble_eq_true rfl⟩) ?_
            rcases wo_or g h q x (n - j) j with hw | ⟨k1, hk1, hk2, hw⟩
            · rw [hw]
              refine lv_istore_n (lv' := [(3, .int (-1)), (0, .ref a), (1, .int x), (2, .int (nI j))]) hx hb d_M_shorter_44 rfl hl (by decide) rfl (fun ls hl => ?_)
              refine lv_iload_n hx hb d_M_shorter_45 rfl (lv_at hl 0 rfl) ?_
              refine lv_iconst (v := (-1)) hx hb d_M_shorter_46 (by decide) ?_
              refine lv_icmp_eq (tgt := 63) hx hb d_M_shorter_47 (by decide) (fun _ => ?_) (fun c4 => absurd (by decide) c4)
              refine lv_iload_n hx hb d_M_shorter_63 rfl (lv_at hl 3 rfl) ?_
              refine lv_if_le (tgt := 71) hx hb d_M_shorter_64 (by decide) (fun c5 => ?_) (fun c5 => ?_)
              · have hj0 : j = 0 := by
                  rcases Nat.eq_zero_or_pos j with z | z
                  · exact z
                  · exact absurd c5 (nI_nle z (by omega))
                refine lv_iconst (v := (-1)) hx hb d_M_shorter_71 (by decide) ?_
                refine lv_istore_n (lv' := [(2, .int (-1)), (3, .int (-1)), (0, .ref a), (1, .int x)]) hx hb d_M_shorter_72 rfl hl (by decide) rfl (fun ls hl => ?_)
                refine lv_goto (tgt := 34) hx hb d_M_shorter_73 (by decide) ?_
                have e9 : x = r := Option.some.inj (by rw [← hv]; unfold msO; rw [if_pos hw, if_pos hj0])
                refine lv_iload_n hx hb d_M_shorter_34 rfl (lv_at hl 0 rfl) ?_
                refine lv_if_lt (tgt := 76) hx hb d_M_shorter_35 (by decide) (fun _ => ?_) (fun c6 => absurd (by decide) c6)
                refine lv_aload_n hx hb d_M_shorter_76 rfl (lv_at hl 2 rfl) ?_
                refine lv_iload_n hx hb d_M_shorter_77 rfl (lv_at hl 3 rfl) ?_
                refine va_put (D := G.1) (ci := 3) (v := .int x) (ty := .int) (C := R_M) (T := F_M) (N := 10) hx hb ht in_M t_M tk_M n_M hown hK hP hD hS 0 rfl rfl 5 (by decide) (ht _ kf_M_65) (fun _ h9 => h9) rfl (by decide +kernel) rfl rfl (Nat.le_of_ble_eq_true rfl) d_M_shorter_78 (fun H locs hP hD hS => ?_)
                have hP : va_P G.1 classes [(a, .inr (3, [.int 0, .long ns, .long sd, .int (nI n), .int k, .int x, .int (nI q), .ref w1, .ref w2, .ref w3])), (w1, .inl (G.2.2.1, 100, .inl g)), (w2, .inl (G.2.2.2, 100, .inl h)), (w3, .inl (G.2.2.1, 10, .inl ik))] H := hP
                have hD : va_D A [(a, .inr (3, [.int 0, .long ns, .long sd, .int (nI n), .int k, .int x, .int (nI q), .ref w1, .ref w2, .ref w3])), (w1, .inl (G.2.2.1, 100, .inl g)), (w2, .inl (G.2.2.2, 100, .inl h)), (w3, .inl (G.2.2.1, 10, .inl ik))] := hD
                refine lv_iload_n hx hb d_M_shorter_81 rfl (lv_at hl 3 rfl) ?_
                refine pr_i (ru_S (As := [.int x]) (rest := []) ⟨hx, hb, hml, hown, ht⟩ hKN (c_M_countOf l G _ x) kc_M_90 ⟨rfl, rfl⟩ ⟨Nat.le_of_ble_eq_true rfl, Nat.le_of_ble_eq_true rfl⟩ rfl hl.1 rfl (Nat.le_of_ble_eq_true rfl) d_M_shorter_82 ⟨Nat.le_of_ble_eq_true rfl, Nat.le_of_ble_eq_true rfl⟩) ?_
                exact W.iret (v := (co x 16)) hx hb hr (fun t h9 _ => ⟨⟨(co x 16), (), rfl, (by rw [e9]), by show va_P _ _ _ t.heap; rw [h9]; exact (by rw [← e9]; exact hP)⟩, hS.F h9⟩) hS.2.2 d_M_shorter_85
              · have hj0 : ¬ j = 0 := fun z => c5 (by rw [z]; decide)
                refine lv_iconst (v := 0) hx hb d_M_shorter_67 (by decide) ?_
                refine lv_goto (tgt := 72) hx hb d_M_shorter_68 (by decide) ?_
                refine lv_istore_n (lv' := [(2, .int 0), (3, .int (-1)), (0, .ref a), (1, .int x)]) hx hb d_M_shorter_72 rfl hl (by decide) rfl (fun ls hl => ?_)
                refine lv_goto (tgt := 34) hx hb d_M_shorter_73 (by decide) ?_
                exact ih x 0 H locs ls (by omega) (by rw [← hv, msO_s, if_pos hw, if_neg hj0]) hP hD hS (by exact lv_sub hl [2, 3, 0] rfl)
            · rw [hw]
              refine lv_istore_n (lv' := [(3, .int (nI k1)), (0, .ref a), (1, .int x), (2, .int (nI j))]) hx hb d_M_shorter_44 rfl hl (by decide) rfl (fun ls hl => ?_)
              refine lv_iload_n hx hb d_M_shorter_45 rfl (lv_at hl 0 rfl) ?_
              refine lv_iconst (v := (-1)) hx hb d_M_shorter_46 (by decide) ?_
              refine lv_icmp_eq (tgt := 63) hx hb d_M_shorter_47 (by decide) (fun c7 => ?_) (fun c7 => ?_)
              · exact absurd c7 (nI_nm1 (show k1 < 2 ^ 31 by omega))
              · refine lv_iload_n hx hb d_M_shorter_50 rfl (lv_at hl 2 rfl) ?_
                refine lv_iconst (v := 1) hx hb d_M_shorter_51 (by decide) ?_
                refine lv_iload_n hx hb d_M_shorter_52 rfl (lv_at hl 0 rfl) ?_
                refine lv_ishl hx hb d_M_shorter_53 ?_
                refine lv_isub hx hb d_M_shorter_54 ?_
                refine lv_istore_n (lv' := [(1, .int (x - ((1 : Int32) <<< ((nI k1) &&& 31)))), (3, .int (nI k1)), (0, .ref a), (2, .int (nI j))]) hx hb d_M_shorter_55 rfl hl (by decide) rfl (fun ls hl => ?_)
                refine lv_iload_n hx hb d_M_shorter_56 rfl (lv_at hl 1 rfl) ?_
                refine lv_iconst (v := 1) hx hb d_M_shorter_57 (by decide) ?_
                refine lv_iadd hx hb d_M_shorter_58 ?_
                rw [show nI k1 + 1 = nI (k1 + 1) from nI_add k1 1]
                refine lv_istore_n (lv' := [(2, .int (nI (k1 + 1))), (1, .int (x - ((1 : Int32) <<< ((nI k1) &&& 31)))), (3, .int (nI k1)), (0, .ref a)]) hx hb d_M_shorter_59 rfl hl (by decide) rfl (fun ls hl => ?_)
                refine lv_goto (tgt := 73) hx hb d_M_shorter_60 (by decide) ?_
                refine lv_goto (tgt := 34) hx hb d_M_shorter_73 (by decide) ?_
                exact ih (x - ((1 : Int32) <<< ((nI k1) &&& 31))) (k1 + 1) H locs ls (by omega) (by rw [← hv, msO_s, if_neg (show ¬ wo g h q x (n - j) j = -1 by rw [hw]; exact nI_nm1 (by omega)), hw, nI_clamp (by omega)]) hP hD hS (by exact lv_sub hl [3, 1, 0] rfl)
      exact loop t0 _ 0 _ _ ls (by omega) hv0 hP hD hS (by exact lv_sub hl [2, 1, 0] rfl)
  · exact absurd c1 hE
end
section
set_option maxHeartbeats 4000000 in
set_option maxRecDepth 100000 in
theorem c_M_same_no (l : Launch) (G : GT) (H : Heap) (a : Nat) (w1 : Nat) (w2 : Nat) (w3 : Nat) (ns : Int64) (sd : Int64) (n : Nat) (k : Int32) (lb : Int32) (q : Nat) (g : Nat → Int32) (h : Nat → Int32) (ik : Nat → Int32) (s1 : Int64) (p1 : Int32) (p2 : Int32) (hP : va_P G.1 classes [(a, .inr (3, [.int 0, .long ns, .long sd, .int (nI n), .int k, .int lb, .int (nI q), .ref w1, .ref w2, .ref w3])), (w1, .inl (G.2.2.1, 100, .inl g)), (w2, .inl (G.2.2.2, 100, .inl h)), (w3, .inl (G.2.2.1, 10, .inl ik))] H) (hD0 : va_D (fun _ => True) [(a, .inr (3, [.int 0, .long ns, .long sd, .int (nI n), .int k, .int lb, .int (nI q), .ref w1, .ref w2, .ref w3])), (w1, .inl (G.2.2.1, 100, .inl g)), (w2, .inl (G.2.2.2, 100, .inl h)), (w3, .inl (G.2.2.1, 10, .inl ik))]) (hn : n ≤ 16) (hq : q ≤ 100) (hdr : mdr p1 p2 = 0) : Met l y_M_same (Cond.code y_M_same b_M_same 8 (some .boolean) :: TG) ({ frames := 1, cells := 0, slots := 0, locals := 22 }) (PC G H [.ref a, .long s1, .int p1, .int p2]) (QMi G (0) [(a, .inr (3, [.int 0, .long ns, .long sd, .int (nI n), .int k, .int lb, .int (nI q), .ref w1, .ref w2, .ref w3])), (w1, .inl (G.2.2.1, 100, .inl g)), (w2, .inl (G.2.2.2, 100, .inl h)), (w3, .inl (G.2.2.1, 10, .inl ik))] (va_A [(a, .inr (3, [.int 0, .long ns, .long sd, .int (nI n), .int k, .int lb, .int (nI q), .ref w1, .ref w2, .ref w3])), (w1, .inl (G.2.2.1, 100, .inl g)), (w2, .inl (G.2.2.2, 100, .inl h)), (w3, .inl (G.2.2.1, 10, .inl ik))] H.size)) 0 0 (va_A [(a, .inr (3, [.int 0, .long ns, .long sd, .int (nI n), .int k, .int lb, .int (nI q), .ref w1, .ref w2, .ref w3])), (w1, .inl (G.2.2.1, 100, .inl g)), (w2, .inl (G.2.2.2, 100, .inl h)), (w3, .inl (G.2.2.1, 10, .inl ik))] H.size) := by
  refine Met.ofW (cc := b_M_same) (maxL := 8) (ret := (some .boolean)) (by decide) rfl ?_
  intro p e s m args below meth c s₁ B hml hv
  obtain ⟨rfl, hH, hKN⟩ := hv
  subst hH
  have hx := B.exec
  have hb := B.bytes
  have hr := B.returns
  have hts := atoms_spec (ws := (Cond.code y_M_same b_M_same 8 (some .boolean) :: TG)) B.pre
  have ht : ∀ w ∈ TG, w.before _ s = true := fun w h => hts w (List.mem_cons_of_mem _ h)
  have hown : s.vm.findClass R_M = some m.cls := findClass_of_methodNamed B.named
  have hlocks := B.notSynchronized
  have hK := hKN.1
  have hl := lv_entry ([.ref a, .long s1, .int p1, .int p2]) (n := 8) (Nat.le_of_ble_eq_true rfl)
  rw [lg_entry_eq]
  generalize (lg_sl ([.ref a, .long s1, .int p1, .int p2]) ++ List.replicate (8 - (lg_sl ([.ref a, .long s1, .int p1, .int p2])).length) Slot.unset).toArray = ls at hl ⊢
  have hl : lv_has ls 8 [(0, .ref a), (1, .long s1), (3, .int p1), (4, .int p2)] := hl
  have hD := hD0.self (sz := s.heap.size)
  generalize hAe : va_A [(a, .inr (3, [.int 0, .long ns, .long sd, .int (nI n), .int k, .int lb, .int (nI q), .ref w1, .ref w2, .ref w3])), (w1, .inl (G.2.2.1, 100, .inl g)), (w2, .inl (G.2.2.2, 100, .inl h)), (w3, .inl (G.2.2.1, 10, .inl ik))] s.heap.size = A at hD ⊢
  have hA : ∀ q : Nat, s.heap.size ≤ q → A q := fun q h => by rw [← hAe]; exact Or.inr h
  have hS : va_S A s.heap s.heap [] := va_S.rf
  refine lv_aload_n hx hb d_M_same_0 rfl (lv_at hl 0 rfl) ?_
  refine lv_iconst (v := 0) hx hb d_M_same_1 (by decide) ?_
  refine va_put (D := G.1) (ci := 3) (v := .int 0) (ty := .int) (C := R_M) (T := F_M) (N := 10) hx hb ht in_M t_M tk_M n_M hown hK hP hD hS 0 rfl rfl 0 (by decide) (ht _ kf_M_24) (fun _ h9 => h9) rfl (by decide +kernel) rfl rfl (Nat.le_of_ble_eq_true rfl) d_M_same_2 (fun H locs hP hD hS => ?_)
  have hP : va_P G.1 classes [(a, .inr (3, [.int 0, .long ns, .long sd, .int (nI n), .int k, .int lb, .int (nI q), .ref w1, .ref w2, .ref w3])), (w1, .inl (G.2.2.1, 100, .inl g)), (w2, .inl (G.2.2.2, 100, .inl h)), (w3, .inl (G.2.2.1, 10, .inl ik))] H := hP
  have hD : va_D A [(a, .inr (3, [.int 0, .long ns, .long sd, .int (nI n), .int k, .int lb, .int (nI q), .ref w1, .ref w2, .ref w3])), (w1, .inl (G.2.2.1, 100, .inl g)), (w2, .inl (G.2.2.2, 100, .inl h)), (w3, .inl (G.2.2.1, 10, .inl ik))] := hD
  refine lv_iload_n hx hb d_M_same_5 rfl (lv_at hl 2 rfl) ?_
  refine lv_iconst (v := 0) hx hb d_M_same_6 (by decide) ?_
  refine lv_iconst (v := 4) hx hb d_M_same_7 (by decide) ?_
  refine pr_i (ru_S (As := [.int p1, .int 0, .int 4]) (rest := []) ⟨hx, hb, hml, hown, ht⟩ hKN (c_M_in l G _ p1 0 4) kc_M_52 ⟨rfl, rfl⟩ ⟨Nat.le_of_ble_eq_true rfl, Nat.le_of_ble_eq_true rfl⟩ rfl hl.1 rfl (Nat.le_of_ble_eq_true rfl) d_M_same_8 ⟨Nat.le_of_ble_eq_true rfl, Nat.le_of_ble_eq_true rfl⟩) ?_
  refine lv_if_eq (tgt := 29) hx hb d_M_same_11 (by decide) (fun c1 => ?_) (fun c1 => ?_)
  · refine lv_iconst (v := 0) hx hb d_M_same_29 (by decide) ?_
    refine lv_istore (lv' := [(5, .int 0), (0, .ref a), (1, .long s1), (3, .int p1), (4, .int p2)]) hx hb d_M_same_30 hl (by decide) rfl (fun ls hl => ?_)
    refine lv_iconst (v := 0) hx hb d_M_same_32 (by decide) ?_
    refine lv_istore (lv' := [(6, .int 0), (5, .int 0), (0, .ref a), (1, .long s1), (3, .int p1), (4, .int p2)]) hx hb d_M_same_33 hl (by decide) rfl (fun ls hl => ?_)
    refine lv_iload hx hb d_M_same_35 (lv_at hl 1 rfl) ?_
    refine lv_if_eq (tgt := 150) hx hb d_M_same_37 (by decide) (fun _ => ?_) (fun c2 => absurd (by decide) c2)
    refine lv_iload hx hb d_M_same_150 (lv_at hl 1 rfl) ?_
    exact W.zret (v := 0) hx hb hr rfl (fun t h9 _ => ⟨⟨0, (), rfl, rfl, by show va_P _ _ _ t.heap; rw [h9]; exact hP⟩, hS.F h9⟩) hS.2.2 d_M_same_152
  · refine lv_iload hx hb d_M_same_14 (lv_at hl 3 rfl) ?_
    refine lv_iconst (v := 0) hx hb d_M_same_16 (by decide) ?_
    refine lv_bipush (v := 15) hx hb d_M_same_17 (by decide) ?_
    refine pr_i (ru_S (As := [.int p2, .int 0, .int 15]) (rest := []) ⟨hx, hb, hml, hown, ht⟩ hKN (c_M_in l G _ p2 0 15) kc_M_52 ⟨rfl, rfl⟩ ⟨Nat.le_of_ble_eq_true rfl, Nat.le_of_ble_eq_true rfl⟩ rfl hl.1 rfl (Nat.le_of_ble_eq_true rfl) d_M_same_19 ⟨Nat.le_of_ble_eq_true rfl, Nat.le_of_ble_eq_true rfl⟩) ?_
    refine lv_if_eq (tgt := 29) hx hb d_M_same_22 (by decide) (fun c3 => ?_) (fun c3 => ?_)
    · refine lv_iconst (v := 0) hx hb d_M_same_29 (by decide) ?_
      refine lv_istore (lv' := [(5, .int 0), (0, .ref a), (1, .long s1), (3, .int p1), (4, .int p2)]) hx hb d_M_same_30 hl (by decide) rfl (fun ls hl => ?_)
      refine lv_iconst (v := 0) hx hb d_M_same_32 (by decide) ?_
      refine lv_istore (lv' := [(6, .int 0), (5, .int 0), (0, .ref a), (1, .long s1), (3, .int p1), (4, .int p2)]) hx hb d_M_same_33 hl (by decide) rfl (fun ls hl => ?_)
      refine lv_iload hx hb d_M_same_35 (lv_at hl 1 rfl) ?_
      refine lv_if_eq (tgt := 150) hx hb d_M_same_37 (by decide) (fun _ => ?_) (fun c4 => absurd (by decide) c4)
      refine lv_iload hx hb d_M_same_150 (lv_at hl 1 rfl) ?_
      exact W.zret (v := 0) hx hb hr rfl (fun t h9 _ => ⟨⟨0, (), rfl, rfl, by show va_P _ _ _ t.heap; rw [h9]; exact hP⟩, hS.F h9⟩) hS.2.2 d_M_same_152
    · exact absurd (hdr.symm.trans (by unfold mdr; rw [if_neg c1, if_neg c3])) (by decide)
def si (s1 ns : Int64) (k : Int32) (i : Nat) : Nat → Nat → Int32 → Int32
  | 0, _, x => x
  | kk + 1, w, x => si s1 ns k i kk (w + 1) (if x = 0 then 0 else if fn_M_fact (zN s1 k (nI i)) (nI w) = fn_M_fact (zN ns k (nI i)) (nI w) then 1 else 0)
def so (s1 ns : Int64) (k : Int32) (n1 : Nat) : Nat → Nat → Int32 → Int32
  | 0, _, x => x
  | kk + 1, i, x => if x = 0 then x else so s1 ns k n1 kk (i + 1) (if si s1 ns k i 4 1 x = 0 then 0 else if hf s1 k n1 (nI i) = hf ns k n1 (nI i) then 1 else 0)
theorem so01 (s1 ns : Int64) (k : Int32) (n1 : Nat) : ∀ kk i x, (x = 0 ∨ x = 1) → (so s1 ns k n1 kk i x = 0 ∨ so s1 ns k n1 kk i x = 1)
  | 0, _, _, h => h
  | kk + 1, i, x, h => by
    unfold so
    split
    · exact h
    · apply so01
      split
      · exact Or.inl rfl
      · split
        · exact Or.inr rfl
        · exact Or.inl rfl
theorem nar01 {x : Int32} (h : x = 0 ∨ x = 1) : narrow .boolean (.int x) = .int x := by
  rcases h with rfl | rfl <;> rfl
set_option maxHeartbeats 4000000 in
set_option maxRecDepth 100000 in
theorem c_M_same (l : Launch) (G : GT) (H : Heap) (a : Nat) (w1 : Nat) (w2 : Nat) (w3 : Nat) (ns : Int64) (sd : Int64) (n : Nat) (k : Int32) (lb : Int32) (q : Nat) (g : Nat → Int32) (h : Nat → Int32) (ik : Nat → Int32) (s1 : Int64) (p1 : Int32) (p2 : Nat) (hP : va_P G.1 classes [(a, .inr (3, [.int 0, .long ns, .long sd, .int (nI n), .int k, .int lb, .int (nI q), .ref w1, .ref w2, .ref w3])), (w1, .inl (G.2.2.1, 100, .inl g)), (w2, .inl (G.2.2.2, 100, .inl h)), (w3, .inl (G.2.2.1, 10, .inl ik))] H) (hD0 : va_D (fun _ => True) [(a, .inr (3, [.int 0, .long ns, .long sd, .int (nI n), .int k, .int lb, .int (nI q), .ref w1, .ref w2, .ref w3])), (w1, .inl (G.2.2.1, 100, .inl g)), (w2, .inl (G.2.2.2, 100, .inl h)), (w3, .inl (G.2.2.1, 10, .inl ik))]) (hn : n ≤ 16) (hq : q ≤ 100) (hdr : ¬ mdr p1 (nI p2) = 0) (hp2 : p2 < 16) : Met l y_M_same (Cond.code y_M_same b_M_same 8 (some .boolean) :: TG) ({ frames := 2, cells := 0, slots := 0, locals := 55 }) (PC G H [.ref a, .long s1, .int p1, .int (nI p2)]) (QMi G (so s1 ns p1 (p2 + 1) (p2 + 1) 0 1) [(a, .inr (3, [.int 0, .long ns, .long sd, .int (nI n), .int k, .int lb, .int (nI q), .ref w1, .ref w2, .ref w3])), (w1, .inl (G.2.2.1, 100, .inl g)), (w2, .inl (G.2.2.2, 100, .inl h)), (w3, .inl (G.2.2.1, 10, .inl ik))] (va_A [(a, .inr (3, [.int 0, .long ns, .long sd, .int (nI n), .int k, .int lb, .int (nI q), .ref w1, .ref w2, .ref w3])), (w1, .inl (G.2.2.1, 100, .inl g)), (w2, .inl (G.2.2.2, 100, .inl h)), (w3, .inl (G.2.2.1, 10, .inl ik))] H.size)) 0 0 (va_A [(a, .inr (3, [.int 0, .long ns, .long sd, .int (nI n), .int k, .int lb, .int (nI q), .ref w1, .ref w2, .ref w3])), (w1, .inl (G.2.2.1, 100, .inl g)), (w2, .inl (G.2.2.2, 100, .inl h)), (w3, .inl (G.2.2.1, 10, .inl ik))] H.size) := by
  refine Met.ofW (cc := b_M_same) (maxL := 8) (ret := (some .boolean)) (by decide) rfl ?_
  intro p e s m args below meth c s₁ B hml hv
  obtain ⟨rfl, hH, hKN⟩ := hv
  subst hH
  have hx := B.exec
  have hb := B.bytes
  have hr := B.returns
  have hts := atoms_spec (ws := (Cond.code y_M_same b_M_same 8 (some .boolean) :: TG)) B.pre
  have ht : ∀ w ∈ TG, w.before _ s = true := fun w h => hts w (List.mem_cons_of_mem _ h)
  have hown : s.vm.findClass R_M = some m.cls := findClass_of_methodNamed B.named
  have hlocks := B.notSynchronized
  have hK := hKN.1
  have hl := lv_entry ([.ref a, .long s1, .int p1, .int (nI p2)]) (n := 8) (Nat.le_of_ble_eq_true rfl)
  rw [lg_entry_eq]
  generalize (lg_sl ([.ref a, .long s1, .int p1, .int (nI p2)]) ++ List.replicate (8 - (lg_sl ([.ref a, .long s1, .int p1, .int (nI p2)])).length) Slot.unset).toArray = ls at hl ⊢
  have hl : lv_has ls 8 [(0, .ref a), (1, .long s1), (3, .int p1), (4, .int (nI p2))] := hl
  have hD := hD0.self (sz := s.heap.size)
  generalize hAe : va_A [(a, .inr (3, [.int 0, .long ns, .long sd, .int (nI n), .int k, .int lb, .int (nI q), .ref w1, .ref w2, .ref w3])), (w1, .inl (G.2.2.1, 100, .inl g)), (w2, .inl (G.2.2.2, 100, .inl h)), (w3, .inl (G.2.2.1, 10, .inl ik))] s.heap.size = A at hD ⊢
  have hA : ∀ q : Nat, s.heap.size ≤ q → A q := fun q h => by rw [← hAe]; exact Or.inr h
  have hS : va_S A s.heap s.heap [] := va_S.rf
  refine lv_aload_n hx hb d_M_same_0 rfl (lv_at hl 0 rfl) ?_
  refine lv_iconst (v := 0) hx hb d_M_same_1 (by decide) ?_
  refine va_put (D := G.1) (ci := 3) (v := .int 0) (ty := .int) (C := R_M) (T := F_M) (N := 10) hx hb ht in_M t_M tk_M n_M hown hK hP hD hS 0 rfl rfl 0 (by decide) (ht _ kf_M_24) (fun _ h9 => h9) rfl (by decide +kernel) rfl rfl (Nat.le_of_ble_eq_true rfl) d_M_same_2 (fun H locs hP hD hS => ?_)
  have hP : va_P G.1 classes [(a, .inr (3, [.int 0, .long ns, .long sd, .int (nI n), .int k, .int lb, .int (nI q), .ref w1, .ref w2, .ref w3])), (w1, .inl (G.2.2.1, 100, .inl g)), (w2, .inl (G.2.2.2, 100, .inl h)), (w3, .inl (G.2.2.1, 10, .inl ik))] H := hP
  have hD : va_D A [(a, .inr (3, [.int 0, .long ns, .long sd, .int (nI n), .int k, .int lb, .int (nI q), .ref w1, .ref w2, .ref w3])), (w1, .inl (G.2.2.1, 100, .inl g)), (w2, .inl (G.2.2.2, 100, .inl h)), (w3, .inl (G.2.2.1, 10, .inl ik))] := hD
  refine lv_iload_n hx hb d_M_same_5 rfl (lv_at hl 2 rfl) ?_
  refine lv_iconst (v := 0) hx hb d_M_same_6 (by decide) ?_
  refine lv_iconst (v := 4) hx hb d_M_same_7 (by decide) ?_
  refine pr_i (ru_S (As := [.int p1, .int 0, .int 4]) (rest := []) ⟨hx, hb, hml, hown, ht⟩ hKN (c_M_in l G _ p1 0 4) kc_M_52 ⟨rfl, rfl⟩ ⟨Nat.le_of_ble_eq_true rfl, Nat.le_of_ble_eq_true rfl⟩ rfl hl.1 rfl (Nat.le_of_ble_eq_true rfl) d_M_same_8 ⟨Nat.le_of_ble_eq_true rfl, Nat.le_of_ble_eq_true rfl⟩) ?_
  refine lv_if_eq (tgt := 29) hx hb d_M_same_11 (by decide) (fun c1 => ?_) (fun c1 => ?_)
  · exact absurd (by unfold mdr; rw [if_pos c1]) hdr
  · refine lv_iload hx hb d_M_same_14 (lv_at hl 3 rfl) ?_
    refine lv_iconst (v := 0) hx hb d_M_same_16 (by decide) ?_
    refine lv_bipush (v := 15) hx hb d_M_same_17 (by decide) ?_
    refine pr_i (ru_S (As := [.int (nI p2), .int 0, .int 15]) (rest := []) ⟨hx, hb, hml, hown, ht⟩ hKN (c_M_in l G _ (nI p2) 0 15) kc_M_52 ⟨rfl, rfl⟩ ⟨Nat.le_of_ble_eq_true rfl, Nat.le_of_ble_eq_true rfl⟩ rfl hl.1 rfl (Nat.le_of_ble_eq_true rfl) d_M_same_19 ⟨Nat.le_of_ble_eq_true rfl, Nat.le_of_ble_eq_true rfl⟩) ?_
    refine lv_if_eq (tgt := 29) hx hb d_M_same_22 (by decide) (fun c2 => ?_) (fun c2 => ?_)
    · exact absurd (by unfold mdr; rw [if_neg c1, if_pos c2]) hdr
    · refine lv_iconst (v := 1) hx hb d_M_same_25 (by decide) ?_
      refine lv_goto (tgt := 30) hx hb d_M_same_26 (by decide) ?_
      refine lv_istore (lv' := [(5, .int 1), (0, .ref a), (1, .long s1), (3, .int p1), (4, .int (nI p2))]) hx hb d_M_same_30 hl (by decide) rfl (fun ls hl => ?_)
      refine lv_iconst (v := 0) hx hb d_M_same_32 (by decide) ?_
      refine lv_istore (lv' := [(6, .int 0), (5, .int 1), (0, .ref a), (1, .long s1), (3, .int p1), (4, .int (nI p2))]) hx hb d_M_same_33 hl (by decide) rfl (fun ls hl => ?_)
      have loop : ∀ (kk j : Nat) (x : Int32) (ls : Array Slot), j + kk = p2 + 1 → so s1 ns p1 (p2 + 1) kk j x = so s1 ns p1 (p2 + 1) (p2 + 1) 0 1 → lv_has ls 8 [(0, .ref a), (1, .long s1), (3, .int p1), (4, .int (nI p2)), (5, .int x), (6, .int (nI j))] → W p l e (headSpec (Cond.code y_M_same b_M_same 8 (some .boolean) :: TG) ({ frames := 2, cells := 0, slots := 0, locals := 55 })).room s m ([.ref a, .long s1, .int p1, .int (nI p2)] : List Value).toArray below meth c H locs 0 0 (MQ below (QMi G (so s1 ns p1 (p2 + 1) (p2 + 1) 0 1) [(a, .inr (3, [.int 0, .long ns, .long sd, .int (nI n), .int k, .int lb, .int (nI q), .ref w1, .ref w2, .ref w3])), (w1, .inl (G.2.2.1, 100, .inl g)), (w2, .inl (G.2.2.2, 100, .inl h)), (w3, .inl (G.2.2.1, 10, .inl ik))] A) ([.ref a, .long s1, .int p1, .int (nI p2)] : List Value).toArray s 0 0 A) (F0 m 35 ls []) := by
        intro kk
        induction kk with
        | zero =>
          intro j x ls hj hv hl
          refine lv_iload hx hb d_M_same_35 (lv_at hl 4 rfl) ?_
          refine lv_if_eq (tgt := 150) hx hb d_M_same_37 (by decide) (fun c3 => ?_) (fun c3 => ?_)
          · refine lv_iload hx hb d_M_same_150 (lv_at hl 4 rfl) ?_
            exact W.zret (v := x) hx hb hr (nar01 (show x = 0 ∨ x = 1 from (show x = so s1 ns p1 (p2 + 1) (p2 + 1) 0 1 from (by rw [← hv]; simp only [so])).symm ▸ so01 s1 ns p1 (p2 + 1) (p2 + 1) 0 1 (Or.inr rfl))) (fun t h9 _ => ⟨⟨x, (), rfl, (by rw [← hv]; simp only [so]), by show va_P _ _ _ t.heap; rw [h9]; exact hP⟩, hS.F h9⟩) hS.2.2 d_M_same_152
          · refine lv_iload hx hb d_M_same_40 (lv_at hl 5 rfl) ?_
            refine lv_iload hx hb d_M_same_42 (lv_at hl 3 rfl) ?_
            refine lv_icmp_gt (tgt := 150) hx hb d_M_same_44 (by decide) (fun c4 => ?_) (fun c4 => ?_)
            · refine lv_iload hx hb d_M_same_150 (lv_at hl 4 rfl) ?_
              exact W.zret (v := x) hx hb hr (nar01 (show x = 0 ∨ x = 1 from (show x = so s1 ns p1 (p2 + 1) (p2 + 1) 0 1 from (by rw [← hv]; simp only [so])).symm ▸ so01 s1 ns p1 (p2 + 1) (p2 + 1) 0 1 (Or.inr rfl))) (fun t h9 _ => ⟨⟨x, (), rfl, (by rw [← hv]; simp only [so]), by show va_P _ _ _ t.heap; rw [h9]; exact hP⟩, hS.F h9⟩) hS.2.2 d_M_same_152
            · exact absurd (show nI p2 < nI j from nI_lt (by omega) (by omega)) c4
        | succ kk ih =>
          intro j x ls hj hv hl
          refine lv_iload hx hb d_M_same_35 (lv_at hl 4 rfl) ?_
          refine lv_if_eq (tgt := 150) hx hb d_M_same_37 (by decide) (fun c5 => ?_) (fun c5 => ?_)
          · refine lv_iload hx hb d_M_same_150 (lv_at hl 4 rfl) ?_
            exact W.zret (v := x) hx hb hr (nar01 (show x = 0 ∨ x = 1 from (show x = so s1 ns p1 (p2 + 1) (p2 + 1) 0 1 from (by rw [← hv]; simp only [so]; rw [if_pos c5])).symm ▸ so01 s1 ns p1 (p2 + 1) (p2 + 1) 0 1 (Or.inr rfl))) (fun t h9 _ => ⟨⟨x, (), rfl, (by rw [← hv]; simp only [so]; rw [if_pos c5]), by show va_P _ _ _ t.heap; rw [h9]; exact hP⟩, hS.F h9⟩) hS.2.2 d_M_same_152
          · refine lv_iload hx hb d_M_same_40 (lv_at hl 5 rfl) ?_
            refine lv_iload hx hb d_M_same_42 (lv_at hl 3 rfl) ?_
            refine lv_icmp_gt (tgt := 150) hx hb d_M_same_44 (by decide) (fun c6 => ?_) (fun c6 => ?_)
            · exact absurd c6 (nI_nlt (show j ≤ p2 by omega) (by omega))
            · refine lv_iconst (v := 1) hx hb d_M_same_47 (by decide) ?_
              refine lv_istore (lv' := [(7, .int 1), (0, .ref a), (1, .long s1), (3, .int p1), (4, .int (nI p2)), (5, .int x), (6, .int (nI j))]) hx hb d_M_same_48 hl (by decide) rfl (fun ls hl => ?_)
              have loop2 : ∀ (kk2 j2 : Nat) (x2 : Int32) (ls : Array Slot), j2 + kk2 = 5 → si s1 ns p1 j kk2 j2 x2 = si s1 ns p1 j 4 1 x → lv_has ls 8 [(0, .ref a), (1, .long s1), (3, .int p1), (4, .int (nI p2)), (5, .int x2), (6, .int (nI j)), (7, .int (nI j2))] → W p l e (headSpec (Cond.code y_M_same b_M_same 8 (some .boolean) :: TG) ({ frames := 2, cells := 0, slots := 0, locals := 55 })).room s m ([.ref a, .long s1, .int p1, .int (nI p2)] : List Value).toArray below meth c H locs 0 0 (MQ below (QMi G (so s1 ns p1 (p2 + 1) (p2 + 1) 0 1) [(a, .inr (3, [.int 0, .long ns, .long sd, .int (nI n), .int k, .int lb, .int (nI q), .ref w1, .ref w2, .ref w3])), (w1, .inl (G.2.2.1, 100, .inl g)), (w2, .inl (G.2.2.2, 100, .inl h)), (w3, .inl (G.2.2.1, 10, .inl ik))] A) ([.ref a, .long s1, .int p1, .int (nI p2)] : List Value).toArray s 0 0 A) (F0 m 50 ls []) := by
                intro kk2
                induction kk2 with
                | zero =>
                  intro j2 x2 ls hj2 hv2 hl
                  refine lv_iload hx hb d_M_same_50 (lv_at hl 6 rfl) ?_
                  refine lv_iconst (v := 5) hx hb d_M_same_52 (by decide) ?_
                  refine lv_icmp_ge (tgt := 104) hx hb d_M_same_53 (by decide) (fun c7 => ?_) (fun c7 => ?_)
                  · refine lv_iload hx hb d_M_same_104 (lv_at hl 4 rfl) ?_
                    refine lv_if_eq (tgt := 141) hx hb d_M_same_106 (by decide) (fun c8 => ?_) (fun c8 => ?_)
                    · refine lv_iconst (v := 0) hx hb d_M_same_141 (by decide) ?_
                      refine lv_istore (lv' := [(5, .int 0), (0, .ref a), (1, .long s1), (3, .int p1), (4, .int (nI p2)), (6, .int (nI j)), (7, .int (nI j2))]) hx hb d_M_same_142 hl (by decide) rfl (fun ls hl => ?_)
                      refine lv_iinc (v := nI (j + 1)) (lv' := [(6, .int (nI (j + 1))), (5, .int 0), (0, .ref a), (1, .long s1), (3, .int p1), (4, .int (nI p2)), (7, .int (nI j2))]) hx hb d_M_same_144 hl (k := 5) rfl (nI_1 j) (by decide) rfl (fun ls hl => ?_)
                      refine lv_goto (tgt := 35) hx hb d_M_same_147 (by decide) ?_
                      have hy : si s1 ns p1 j 4 1 x = x2 := hv2.symm
                      exact ih (j + 1) 0 ls (by omega) (by rw [← hv]; simp only [so]; rw [if_neg c5, hy, if_pos c8]) (by exact lv_sub hl [2, 3, 4, 5, 1, 0] rfl)
                    · refine lv_lload_n hx hb d_M_same_109 rfl (lv_at hl 1 rfl) ?_
                      refine lv_iload_n hx hb d_M_same_110 rfl (lv_at hl 2 rfl) ?_
                      refine lv_iload hx hb d_M_same_111 (lv_at hl 3 rfl) ?_
                      refine lv_iconst (v := 1) hx hb d_M_same_113 (by decide) ?_
                      refine lv_iadd hx hb d_M_same_114 ?_
                      rw [show nI p2 + 1 = nI (p2 + 1) from nI_add p2 1]
                      refine lv_iload hx hb d_M_same_115 (lv_at hl 5 rfl) ?_
                      refine pr_i (ru_S (As := [.long s1, .int p1, .int (nI (p2 + 1)), .int (nI j)]) (rest := []) ⟨hx, hb, hml, hown, ht⟩ hKN (c_M_hasFaults l G _ s1 p1 (p2 + 1) (nI j) (show (p2 + 1) ≤ 16 by omega)) kc_M_71 ⟨rfl, rfl⟩ ⟨Nat.le_of_ble_eq_true rfl, Nat.le_of_ble_eq_true rfl⟩ rfl hl.1 rfl (Nat.le_of_ble_eq_true rfl) d_M_same_117 ⟨Nat.le_of_ble_eq_true rfl, Nat.le_of_ble_eq_true rfl⟩) ?_
                      refine lv_aload_n hx hb d_M_same_120 rfl (lv_at hl 0 rfl) ?_
                      refine va_get (D := G.1) (ci := 3) (v := .long ns) (C := R_M) (T := F_M) (N := 10) hx hb ht in_M hown hK hP 0 rfl rfl 1 (by decide) (ht _ kf_M_20) (fun _ h9 => h9) rfl d_M_same_121 ?_
                      refine lv_iload_n hx hb d_M_same_124 rfl (lv_at hl 2 rfl) ?_
                      refine lv_iload hx hb d_M_same_125 (lv_at hl 3 rfl) ?_
                      refine lv_iconst (v := 1) hx hb d_M_same_127 (by decide) ?_
                      refine lv_iadd hx hb d_M_same_128 ?_
                      rw [show nI p2 + 1 = nI (p2 + 1) from nI_add p2 1]
                      refine lv_iload hx hb d_M_same_129 (lv_at hl 5 rfl) ?_
                      refine pr_i (ru_S (As := [.long ns, .int p1, .int (nI (p2 + 1)), .int (nI j)]) (rest := [.int (hf s1 p1 (p2 + 1) (nI j))]) ⟨hx, hb, hml, hown, ht⟩ hKN (c_M_hasFaults l G _ ns p1 (p2 + 1) (nI j) (show (p2 + 1) ≤ 16 by omega)) kc_M_71 ⟨rfl, rfl⟩ ⟨Nat.le_of_ble_eq_true rfl, Nat.le_of_ble_eq_true rfl⟩ rfl hl.1 rfl (Nat.le_of_ble_eq_true rfl) d_M_same_131 ⟨Nat.le_of_ble_eq_true rfl, Nat.le_of_ble_eq_true rfl⟩) ?_
                      refine lv_icmp_ne (tgt := 141) hx hb d_M_same_134 (by decide) (fun c9 => ?_) (fun c9 => ?_)
                      · refine lv_iconst (v := 0) hx hb d_M_same_141 (by decide) ?_
                        refine lv_istore (lv' := [(5, .int 0), (0, .ref a), (1, .long s1), (3, .int p1), (4, .int (nI p2)), (6, .int (nI j)), (7, .int (nI j2))]) hx hb d_M_same_142 hl (by decide) rfl (fun ls hl => ?_)
                        refine lv_iinc (v := nI (j + 1)) (lv' := [(6, .int (nI (j + 1))), (5, .int 0), (0, .ref a), (1, .long s1), (3, .int p1), (4, .int (nI p2)), (7, .int (nI j2))]) hx hb d_M_same_144 hl (k := 5) rfl (nI_1 j) (by decide) rfl (fun ls hl => ?_)
                        refine lv_goto (tgt := 35) hx hb d_M_same_147 (by decide) ?_
                        have hy : si s1 ns p1 j 4 1 x = x2 := hv2.symm
                        exact ih (j + 1) 0 ls (by omega) (by rw [← hv]; simp only [so]; rw [if_neg c5, hy, if_neg c8, if_neg c9]) (by exact lv_sub hl [2, 3, 4, 5, 1, 0] rfl)
                      · refine lv_iconst (v := 1) hx hb d_M_same_137 (by decide) ?_
                        refine lv_goto (tgt := 142) hx hb d_M_same_138 (by decide) ?_
                        refine lv_istore (lv' := [(5, .int 1), (0, .ref a), (1, .long s1), (3, .int p1), (4, .int (nI p2)), (6, .int (nI j)), (7, .int (nI j2))]) hx hb d_M_same_142 hl (by decide) rfl (fun ls hl => ?_)
                        refine lv_iinc (v := nI (j + 1)) (lv' := [(6, .int (nI (j + 1))), (5, .int 1), (0, .ref a), (1, .long s1), (3, .int p1), (4, .int (nI p2)), (7, .int (nI j2))]) hx hb d_M_same_144 hl (k := 5) rfl (nI_1 j) (by decide) rfl (fun ls hl => ?_)
                        refine lv_goto (tgt := 35) hx hb d_M_same_147 (by decide) ?_
                        have hy : si s1 ns p1 j 4 1 x = x2 := hv2.symm
                        exact ih (j + 1) 1 ls (by omega) (by rw [← hv]; simp only [so]; rw [if_neg c5, hy, if_neg c8, if_pos c9]) (by exact lv_sub hl [2, 3, 4, 5, 1, 0] rfl)
                  · exact absurd (show (5 : Int32) ≤ nI j2 from by rw [show j2 = 5 by omega]; decide) c7
                | succ kk2 ih2 =>
                  intro j2 x2 ls hj2 hv2 hl
                  refine lv_iload hx hb d_M_same_50 (lv_at hl 6 rfl) ?_
                  refine lv_iconst (v := 5) hx hb d_M_same_52 (by decide) ?_
                  refine lv_icmp_ge (tgt := 104) hx hb d_M_same_53 (by decide) (fun c10 => ?_) (fun c10 => ?_)
                  · exact absurd c10 (nI_ge (a := j2) (b := 5) (by omega) (by decide))
                  · refine lv_iload hx hb d_M_same_56 (lv_at hl 4 rfl) ?_
                    refine lv_if_eq (tgt := 95) hx hb d_M_same_58 (by decide) (fun c11 => ?_) (fun c11 => ?_)
                    · refine lv_iconst (v := 0) hx hb d_M_same_95 (by decide) ?_
                      refine lv_istore (lv' := [(5, .int 0), (0, .ref a), (1, .long s1), (3, .int p1), (4, .int (nI p2)), (6, .int (nI j)), (7, .int (nI j2))]) hx hb d_M_same_96 hl (by decide) rfl (fun ls hl => ?_)
                      refine lv_iinc (v := nI (j2 + 1)) (lv' := [(7, .int (nI (j2 + 1))), (5, .int 0), (0, .ref a), (1, .long s1), (3, .int p1), (4, .int (nI p2)), (6, .int (nI j))]) hx hb d_M_same_98 hl (k := 6) rfl (nI_1 j2) (by decide) rfl (fun ls hl => ?_)
                      refine lv_goto (tgt := 50) hx hb d_M_same_101 (by decide) ?_
                      exact ih2 (j2 + 1) 0 ls (by omega) (by rw [← hv2]; simp only [si]; rw [if_pos c11]) (by exact lv_sub hl [2, 3, 4, 5, 1, 6, 0] rfl)
                    · refine lv_lload_n hx hb d_M_same_61 rfl (lv_at hl 1 rfl) ?_
                      refine lv_iload_n hx hb d_M_same_62 rfl (lv_at hl 2 rfl) ?_
                      refine lv_iload hx hb d_M_same_63 (lv_at hl 5 rfl) ?_
                      refine pr_l (ru_S (As := [.long s1, .int p1, .int (nI j)]) (rest := []) ⟨hx, hb, hml, hown, ht⟩ hKN (c_M_number l G _ s1 p1 (nI j)) kc_M_44 ⟨rfl, rfl⟩ ⟨Nat.le_of_ble_eq_true rfl, Nat.le_of_ble_eq_true rfl⟩ rfl hl.1 rfl (Nat.le_of_ble_eq_true rfl) d_M_same_65 ⟨Nat.le_of_ble_eq_true rfl, Nat.le_of_ble_eq_true rfl⟩) ?_
                      refine lv_iload hx hb d_M_same_68 (lv_at hl 6 rfl) ?_
                      refine pr_i (ru_S (As := [.long (zN s1 p1 (nI j)), .int (nI j2)]) (rest := []) ⟨hx, hb, hml, hown, ht⟩ hKN (c_M_fact l G _ (zN s1 p1 (nI j)) (nI j2)) kc_M_75 ⟨rfl, rfl⟩ ⟨Nat.le_of_ble_eq_true rfl, Nat.le_of_ble_eq_true rfl⟩ rfl hl.1 rfl (Nat.le_of_ble_eq_true rfl) d_M_same_70 ⟨Nat.le_of_ble_eq_true rfl, Nat.le_of_ble_eq_true rfl⟩) ?_
                      refine lv_aload_n hx hb d_M_same_73 rfl (lv_at hl 0 rfl) ?_
                      refine va_get (D := G.1) (ci := 3) (v := .long ns) (C := R_M) (T := F_M) (N := 10) hx hb ht in_M hown hK hP 0 rfl rfl 1 (by decide) (ht _ kf_M_20) (fun _ h9 => h9) rfl d_M_same_74 ?_
                      refine lv_iload_n hx hb d_M_same_77 rfl (lv_at hl 2 rfl) ?_
                      refine lv_iload hx hb d_M_same_78 (lv_at hl 5 rfl) ?_
                      refine pr_l (ru_S (As := [.long ns, .int p1, .int (nI j)]) (rest := [.int (fn_M_fact (zN s1 p1 (nI j)) (nI j2))]) ⟨hx, hb, hml, hown, ht⟩ hKN (c_M_number l G _ ns p1 (nI j)) kc_M_44 ⟨rfl, rfl⟩ ⟨Nat.le_of_ble_eq_true rfl, Nat.le_of_ble_eq_true rfl⟩ rfl hl.1 rfl (Nat.le_of_ble_eq_true rfl) d_M_same_80 ⟨Nat.le_of_ble_eq_true rfl, Nat.le_of_ble_eq_true rfl⟩) ?_
                      refine lv_iload hx hb d_M_same_83 (lv_at hl 6 rfl) ?_
                      refine pr_i (ru_S (As := [.long (zN ns p1 (nI j)), .int (nI j2)]) (rest := [.int (fn_M_fact (zN s1 p1 (nI j)) (nI j2))]) ⟨hx, hb, hml, hown, ht⟩ hKN (c_M_fact l G _ (zN ns p1 (nI j)) (nI j2)) kc_M_75 ⟨rfl, rfl⟩ ⟨Nat.le_of_ble_eq_true rfl, Nat.le_of_ble_eq_true rfl⟩ rfl hl.1 rfl (Nat.le_of_ble_eq_true rfl) d_M_same_85 ⟨Nat.le_of_ble_eq_true rfl, Nat.le_of_ble_eq_true rfl⟩) ?_
                      refine lv_icmp_ne (tgt := 95) hx hb d_M_same_88 (by decide) (fun c12 => ?_) (fun c12 => ?_)
                      · refine lv_iconst (v := 0) hx hb d_M_same_95 (by decide) ?_
                        refine lv_istore (lv' := [(5, .int 0), (0, .ref a), (1, .long s1), (3, .int p1), (4, .int (nI p2)), (6, .int (nI j)), (7, .int (nI j2))]) hx hb d_M_same_96 hl (by decide) rfl (fun ls hl => ?_)
                        refine lv_iinc (v := nI (j2 + 1)) (lv' := [(7, .int (nI (j2 + 1))), (5, .int 0), (0, .ref a), (1, .long s1), (3, .int p1), (4, .int (nI p2)), (6, .int (nI j))]) hx hb d_M_same_98 hl (k := 6) rfl (nI_1 j2) (by decide) rfl (fun ls hl => ?_)
                        refine lv_goto (tgt := 50) hx hb d_M_same_101 (by decide) ?_
                        exact ih2 (j2 + 1) 0 ls (by omega) (by rw [← hv2]; simp only [si]; rw [if_neg c11, if_neg c12]) (by exact lv_sub hl [2, 3, 4, 5, 1, 6, 0] rfl)
                      · refine lv_iconst (v := 1) hx hb d_M_same_91 (by decide) ?_
                        refine lv_goto (tgt := 96) hx hb d_M_same_92 (by decide) ?_
                        refine lv_istore (lv' := [(5, .int 1), (0, .ref a), (1, .long s1), (3, .int p1), (4, .int (nI p2)), (6, .int (nI j)), (7, .int (nI j2))]) hx hb d_M_same_96 hl (by decide) rfl (fun ls hl => ?_)
                        refine lv_iinc (v := nI (j2 + 1)) (lv' := [(7, .int (nI (j2 + 1))), (5, .int 1), (0, .ref a), (1, .long s1), (3, .int p1), (4, .int (nI p2)), (6, .int (nI j))]) hx hb d_M_same_98 hl (k := 6) rfl (nI_1 j2) (by decide) rfl (fun ls hl => ?_)
                        refine lv_goto (tgt := 50) hx hb d_M_same_101 (by decide) ?_
                        exact ih2 (j2 + 1) 1 ls (by omega) (by rw [← hv2]; simp only [si]; rw [if_neg c11, if_pos c12]) (by exact lv_sub hl [2, 3, 4, 5, 1, 6, 0] rfl)
              exact loop2 4 1 x ls (by omega) rfl (by exact lv_sub hl [1, 2, 3, 4, 5, 6, 0] rfl)
      exact loop (p2 + 1) 0 1 ls (by omega) rfl (by exact lv_sub hl [2, 3, 4, 5, 1, 0] rfl)
end
section
def ink0 : Nat → Int32 := (upd (upd (upd (upd (upd (upd (upd (upd (upd (upd (fun _ => 0) 0 31599) 1 11415) 2 29671) 3 29647) 4 23497) 5 31183) 6 31215) 7 29257) 8 31727) 9 31695)
set_option maxHeartbeats 4000000 in
set_option maxRecDepth 100000 in
theorem c_M_init (l : Launch) (G : GT) (H : Heap) (a : Nat) (p1 : Int32) (hP : va_P G.1 classes [(a, .inr (3, [.int 0, .long 0, .long 0, .int 0, .int 0, .int 0, .int 0, .null, .null, .null]))] H) (hD0 : va_D (fun _ => True) [(a, .inr (3, [.int 0, .long 0, .long 0, .int 0, .int 0, .int 0, .int 0, .null, .null, .null]))]) : Met l y_M_init (Cond.code y_M_init b_M_init 2 none :: TG) ({ frames := 1, cells := 3, slots := 210, locals := 12 }) (PC G H [.ref a, .int p1]) (QN G (fun z : Nat × Nat × Nat => [(a, .inr (3, [.int 0, .long p1.toInt64, .long 0, .int (nI 0), .int 0, .int 0, .int (nI 0), .ref z.1, .ref z.2.1, .ref z.2.2])), (z.1, .inl (G.2.2.1, 100, .inl (fun _ => 0))), (z.2.1, .inl (G.2.2.2, 100, .inl (fun _ => 0))), (z.2.2, .inl (G.2.2.1, 10, .inl ink0))]) (va_A [(a, .inr (3, [.int 0, .long 0, .long 0, .int 0, .int 0, .int 0, .int 0, .null, .null, .null]))] H.size)) 3 210 (va_A [(a, .inr (3, [.int 0, .long 0, .long 0, .int 0, .int 0, .int 0, .int 0, .null, .null, .null]))] H.size) := by
  refine Met.ofW (cc := b_M_init) (maxL := 2) (ret := none) (by decide) rfl ?_
  intro p e s m args below meth c s₁ B hml hv
  obtain ⟨rfl, hH, hKN⟩ := hv
  subst hH
  have hx := B.exec
  have hb := B.bytes
  have hr := B.returns
  have hts := atoms_spec (ws := (Cond.code y_M_init b_M_init 2 none :: TG)) B.pre
  have ht : ∀ w ∈ TG, w.before _ s = true := fun w h => hts w (List.mem_cons_of_mem _ h)
  have hown : s.vm.findClass R_M = some m.cls := findClass_of_methodNamed B.named
  have hlocks := B.notSynchronized
  have hK := hKN.1
  have hl := lv_entry ([.ref a, .int p1]) (n := 2) (Nat.le_of_ble_eq_true rfl)
  rw [lg_entry_eq]
  generalize (lg_sl ([.ref a, .int p1]) ++ List.replicate (2 - (lg_sl ([.ref a, .int p1])).length) Slot.unset).toArray = ls at hl ⊢
  have hl : lv_has ls 2 [(0, .ref a), (1, .int p1)] := hl
  have hin : meth.name = "<init>" := (name_of_methodNamed B.named B.method).1
  have hD := hD0.self (sz := s.heap.size)
  generalize hAe : va_A [(a, .inr (3, [.int 0, .long 0, .long 0, .int 0, .int 0, .int 0, .int 0, .null, .null, .null]))] s.heap.size = A at hD ⊢
  have hA : ∀ q : Nat, s.heap.size ≤ q → A q := fun q h => by rw [← hAe]; exact Or.inr h
  have hS : va_S A s.heap s.heap [] := va_S.rf
  refine lv_aload_n hx hb d_M_init_0 rfl (lv_at hl 0 rfl) ?_
  refine W.objInit hx hb hown (ht _ km_M_1) (ht _ k_objI) (ht _ k_objC) rfl (by rw [hml]; exact hl.1) rfl d_M_init_1 (Nat.le_of_ble_eq_true rfl) (Nat.le_of_ble_eq_true rfl) ?_
  refine W.eq (g2 := F0 m 4 ls []) rfl ?_
  refine lv_aload_n hx hb d_M_init_4 rfl (lv_at hl 0 rfl) ?_
  refine lv_bipush (v := 100) hx hb d_M_init_5 (by decide) ?_
  refine va_newa (atype := .int) (ty := .int) (N' := 100) (a0 := (100, .inl (fun _ => 0))) hx hb (ht _ k_arr_int) rfl hK hP hD hS hA (fun _ => rfl) (by decide) (by decide) (by decide) (Nat.le_of_ble_eq_true rfl) (Nat.le_of_ble_eq_true rfl) d_M_init_7 (fun q7 cA H hK1 hP hD hS => ?_)
  obtain rfl : cA = G.2.2.1 := arr_one hK1 3 1 rfl rfl (Or.inr (Or.inl rfl))
  have hP : va_P G.1 classes [(a, .inr (3, [.int 0, .long 0, .long 0, .int 0, .int 0, .int 0, .int 0, .null, .null, .null])), (q7, .inl (G.2.2.1, 100, .inl (fun _ => 0)))] H := hP
  have hD : va_D A [(a, .inr (3, [.int 0, .long 0, .long 0, .int 0, .int 0, .int 0, .int 0, .null, .null, .null])), (q7, .inl (G.2.2.1, 100, .inl (fun _ => 0)))] := hD
  refine va_putF (D := G.1) (ci := 3) (v := .ref q7) (ty := .array .int) (C := R_M) (T := F_M) (N := 10) hx hb ht in_M t_M tk_M n_M hown hK hP hD hS 0 rfl rfl 7 (by decide) (ht _ kf_M_7) (fun _ h9 => h9) rfl hin rfl (by decide +kernel) rfl rfl (Nat.le_of_ble_eq_true rfl) d_M_init_9 (fun H locs hP hD hS => ?_)
  have hP : va_P G.1 classes [(a, .inr (3, [.int 0, .long 0, .long 0, .int 0, .int 0, .int 0, .int 0, .ref q7, .null, .null])), (q7, .inl (G.2.2.1, 100, .inl (fun _ => 0)))] H := hP
  have hD : va_D A [(a, .inr (3, [.int 0, .long 0, .long 0, .int 0, .int 0, .int 0, .int 0, .ref q7, .null, .null])), (q7, .inl (G.2.2.1, 100, .inl (fun _ => 0)))] := hD
  refine lv_aload_n hx hb d_M_init_12 rfl (lv_at hl 0 rfl) ?_
  refine lv_bipush (v := 100) hx hb d_M_init_13 (by decide) ?_
  refine va_newa (atype := .boolean) (ty := .boolean) (N' := 100) (a0 := (100, .inl (fun _ => 0))) hx hb (ht _ k_arr_boolean) rfl hK hP hD hS hA (fun _ => rfl) (by decide) (by decide) (by decide) (Nat.le_of_ble_eq_true rfl) (Nat.le_of_ble_eq_true rfl) d_M_init_15 (fun q15 cA H hK1 hP hD hS => ?_)
  obtain rfl : cA = G.2.2.2 := arr_one hK1 3 2 rfl rfl (Or.inr (Or.inr rfl))
  have hP : va_P G.1 classes [(a, .inr (3, [.int 0, .long 0, .long 0, .int 0, .int 0, .int 0, .int 0, .ref q7, .null, .null])), (q7, .inl (G.2.2.1, 100, .inl (fun _ => 0))), (q15, .inl (G.2.2.2, 100, .inl (fun _ => 0)))] H := hP
  have hD : va_D A [(a, .inr (3, [.int 0, .long 0, .long 0, .int 0, .int 0, .int 0, .int 0, .ref q7, .null, .null])), (q7, .inl (G.2.2.1, 100, .inl (fun _ => 0))), (q15, .inl (G.2.2.2, 100, .inl (fun _ => 0)))] := hD
  refine va_putF (D := G.1) (ci := 3) (v := .ref q15) (ty := .array .boolean) (C := R_M) (T := F_M) (N := 10) hx hb ht in_M t_M tk_M n_M hown hK hP hD hS 0 rfl rfl 8 (by decide) (ht _ kf_M_13) (fun _ h9 => h9) rfl hin rfl (by decide +kernel) rfl rfl (Nat.le_of_ble_eq_true rfl) d_M_init_17 (fun H locs hP hD hS => ?_)
  have hP : va_P G.1 classes [(a, .inr (3, [.int 0, .long 0, .long 0, .int 0, .int 0, .int 0, .int 0, .ref q7, .ref q15, .null])), (q7, .inl (G.2.2.1, 100, .inl (fun _ => 0))), (q15, .inl (G.2.2.2, 100, .inl (fun _ => 0)))] H := hP
  have hD : va_D A [(a, .inr (3, [.int 0, .long 0, .long 0, .int 0, .int 0, .int 0, .int 0, .ref q7, .ref q15, .null])), (q7, .inl (G.2.2.1, 100, .inl (fun _ => 0))), (q15, .inl (G.2.2.2, 100, .inl (fun _ => 0)))] := hD
  refine lv_aload_n hx hb d_M_init_20 rfl (lv_at hl 0 rfl) ?_
  refine lv_bipush (v := 10) hx hb d_M_init_21 (by decide) ?_
  refine va_newa (atype := .int) (ty := .int) (N' := 10) (a0 := (10, .inl (fun _ => 0))) hx hb (ht _ k_arr_int) rfl hK hP hD hS hA (fun _ => rfl) (by decide) (by decide) (by decide) (Nat.le_of_ble_eq_true rfl) (Nat.le_of_ble_eq_true rfl) d_M_init_23 (fun q23 cA H hK1 hP hD hS => ?_)
  obtain rfl : cA = G.2.2.1 := arr_one hK1 3 1 rfl rfl (Or.inr (Or.inl rfl))
  have hP : va_P G.1 classes [(a, .inr (3, [.int 0, .long 0, .long 0, .int 0, .int 0, .int 0, .int 0, .ref q7, .ref q15, .null])), (q7, .inl (G.2.2.1, 100, .inl (fun _ => 0))), (q15, .inl (G.2.2.2, 100, .inl (fun _ => 0))), (q23, .inl (G.2.2.1, 10, .inl (fun _ => 0)))] H := hP
  have hD : va_D A [(a, .inr (3, [.int 0, .long 0, .long 0, .int 0, .int 0, .int 0, .int 0, .ref q7, .ref q15, .null])), (q7, .inl (G.2.2.1, 100, .inl (fun _ => 0))), (q15, .inl (G.2.2.2, 100, .inl (fun _ => 0))), (q23, .inl (G.2.2.1, 10, .inl (fun _ => 0)))] := hD
  refine va_putF (D := G.1) (ci := 3) (v := .ref q23) (ty := .array .int) (C := R_M) (T := F_M) (N := 10) hx hb ht in_M t_M tk_M n_M hown hK hP hD hS 0 rfl rfl 9 (by decide) (ht _ kf_M_17) (fun _ h9 => h9) rfl hin rfl (by decide +kernel) rfl rfl (Nat.le_of_ble_eq_true rfl) d_M_init_25 (fun H locs hP hD hS => ?_)
  have hP : va_P G.1 classes [(a, .inr (3, [.int 0, .long 0, .long 0, .int 0, .int 0, .int 0, .int 0, .ref q7, .ref q15, .ref q23])), (q7, .inl (G.2.2.1, 100, .inl (fun _ => 0))), (q15, .inl (G.2.2.2, 100, .inl (fun _ => 0))), (q23, .inl (G.2.2.1, 10, .inl (fun _ => 0)))] H := hP
  have hD : va_D A [(a, .inr (3, [.int 0, .long 0, .long 0, .int 0, .int 0, .int 0, .int 0, .ref q7, .ref q15, .ref q23])), (q7, .inl (G.2.2.1, 100, .inl (fun _ => 0))), (q15, .inl (G.2.2.2, 100, .inl (fun _ => 0))), (q23, .inl (G.2.2.1, 10, .inl (fun _ => 0)))] := hD
  refine lv_aload_n hx hb d_M_init_28 rfl (lv_at hl 0 rfl) ?_
  refine lv_iload_n hx hb d_M_init_29 rfl (lv_at hl 1 rfl) ?_
  refine lv_i2l hx hb d_M_init_30 rfl ?_
  refine va_put (D := G.1) (ci := 3) (v := .long (p1.toInt64)) (ty := .long) (C := R_M) (T := F_M) (N := 10) hx hb ht in_M t_M tk_M n_M hown hK hP hD hS 0 rfl rfl 1 (by decide) (ht _ kf_M_20) (fun _ h9 => h9) rfl (by decide +kernel) rfl rfl (Nat.le_of_ble_eq_true rfl) d_M_init_31 (fun H locs hP hD hS => ?_)
  have hP : va_P G.1 classes [(a, .inr (3, [.int 0, .long (p1.toInt64), .long 0, .int 0, .int 0, .int 0, .int 0, .ref q7, .ref q15, .ref q23])), (q7, .inl (G.2.2.1, 100, .inl (fun _ => 0))), (q15, .inl (G.2.2.2, 100, .inl (fun _ => 0))), (q23, .inl (G.2.2.1, 10, .inl (fun _ => 0)))] H := hP
  have hD : va_D A [(a, .inr (3, [.int 0, .long (p1.toInt64), .long 0, .int 0, .int 0, .int 0, .int 0, .ref q7, .ref q15, .ref q23])), (q7, .inl (G.2.2.1, 100, .inl (fun _ => 0))), (q15, .inl (G.2.2.2, 100, .inl (fun _ => 0))), (q23, .inl (G.2.2.1, 10, .inl (fun _ => 0)))] := hD
  refine lv_aload_n hx hb d_M_init_34 rfl (lv_at hl 0 rfl) ?_
  refine va_get (D := G.1) (ci := 3) (v := .ref q23) (C := R_M) (T := F_M) (N := 10) hx hb ht in_M hown hK hP 0 rfl rfl 9 (by decide) (ht _ kf_M_17) (fun _ h9 => h9) rfl d_M_init_35 ?_
  refine lv_iconst (v := 0) hx hb d_M_init_38 (by decide) ?_
  refine lv_sipush (v := 31599) hx hb d_M_init_39 (by decide) ?_
  refine va_iast hx hb hK hP hD hS 3 1 rfl rfl (i := 0) (vp_in_nI (show 0 < 10 by decide) (by decide)) d_M_init_42 (fun H locs hP hD hS => ?_)
  have hP : va_P G.1 classes [(a, .inr (3, [.int 0, .long (p1.toInt64), .long 0, .int 0, .int 0, .int 0, .int 0, .ref q7, .ref q15, .ref q23])), (q7, .inl (G.2.2.1, 100, .inl (fun _ => 0))), (q15, .inl (G.2.2.2, 100, .inl (fun _ => 0))), (q23, .inl (G.2.2.1, 10, .inl (upd (fun _ => 0) (0 : Int32).toNatClampNeg 31599)))] H := hP
  have hD : va_D A [(a, .inr (3, [.int 0, .long (p1.toInt64), .long 0, .int 0, .int 0, .int 0, .int 0, .ref q7, .ref q15, .ref q23])), (q7, .inl (G.2.2.1, 100, .inl (fun _ => 0))), (q15, .inl (G.2.2.2, 100, .inl (fun _ => 0))), (q23, .inl (G.2.2.1, 10, .inl (upd (fun _ => 0) (0 : Int32).toNatClampNeg 31599)))] := hD
  refine lv_aload_n hx hb d_M_init_43 rfl (lv_at hl 0 rfl) ?_
  refine va_get (D := G.1) (ci := 3) (v := .ref q23) (C := R_M) (T := F_M) (N := 10) hx hb ht in_M hown hK hP 0 rfl rfl 9 (by decide) (ht _ kf_M_17) (fun _ h9 => h9) rfl d_M_init_44 ?_
  refine lv_iconst (v := 1) hx hb d_M_init_47 (by decide) ?_
  refine lv_sipush (v := 11415) hx hb d_M_init_48 (by decide) ?_
  refine va_iast hx hb hK hP hD hS 3 1 rfl rfl (i := 1) (vp_in_nI (show 1 < 10 by decide) (by decide)) d_M_init_51 (fun H locs hP hD hS => ?_)
  have hP : va_P G.1 classes [(a, .inr (3, [.int 0, .long (p1.toInt64), .long 0, .int 0, .int 0, .int 0, .int 0, .ref q7, .ref q15, .ref q23])), (q7, .inl (G.2.2.1, 100, .inl (fun _ => 0))), (q15, .inl (G.2.2.2, 100, .inl (fun _ => 0))), (q23, .inl (G.2.2.1, 10, .inl (upd (upd (fun _ => 0) (0 : Int32).toNatClampNeg 31599) (1 : Int32).toNatClampNeg 11415)))] H := hP
  have hD : va_D A [(a, .inr (3, [.int 0, .long (p1.toInt64), .long 0, .int 0, .int 0, .int 0, .int 0, .ref q7, .ref q15, .ref q23])), (q7, .inl (G.2.2.1, 100, .inl (fun _ => 0))), (q15, .inl (G.2.2.2, 100, .inl (fun _ => 0))), (q23, .inl (G.2.2.1, 10, .inl (upd (upd (fun _ => 0) (0 : Int32).toNatClampNeg 31599) (1 : Int32).toNatClampNeg 11415)))] := hD
  refine lv_aload_n hx hb d_M_init_52 rfl (lv_at hl 0 rfl) ?_
  refine va_get (D := G.1) (ci := 3) (v := .ref q23) (C := R_M) (T := F_M) (N := 10) hx hb ht in_M hown hK hP 0 rfl rfl 9 (by decide) (ht _ kf_M_17) (fun _ h9 => h9) rfl d_M_init_53 ?_
  refine lv_iconst (v := 2) hx hb d_M_init_56 (by decide) ?_
  refine lv_sipush (v := 29671) hx hb d_M_init_57 (by decide) ?_
  refine va_iast hx hb hK hP hD hS 3 1 rfl rfl (i := 2) (vp_in_nI (show 2 < 10 by decide) (by decide)) d_M_init_60 (fun H locs hP hD hS => ?_)
  have hP : va_P G.1 classes [(a, .inr (3, [.int 0, .long (p1.toInt64), .long 0, .int 0, .int 0, .int 0, .int 0, .ref q7, .ref q15, .ref q23])), (q7, .inl (G.2.2.1, 100, .inl (fun _ => 0))), (q15, .inl (G.2.2.2, 100, .inl (fun _ => 0))), (q23, .inl (G.2.2.1, 10, .inl (upd (upd (upd (fun _ => 0) (0 : Int32).toNatClampNeg 31599) (1 : Int32).toNatClampNeg 11415) (2 : Int32).toNatClampNeg 29671)))] H := hP
  have hD : va_D A [(a, .inr (3, [.int 0, .long (p1.toInt64), .long 0, .int 0, .int 0, .int 0, .int 0, .ref q7, .ref q15, .ref q23])), (q7, .inl (G.2.2.1, 100, .inl (fun _ => 0))), (q15, .inl (G.2.2.2, 100, .inl (fun _ => 0))), (q23, .inl (G.2.2.1, 10, .inl (upd (upd (upd (fun _ => 0) (0 : Int32).toNatClampNeg 31599) (1 : Int32).toNatClampNeg 11415) (2 : Int32).toNatClampNeg 29671)))] := hD
  refine lv_aload_n hx hb d_M_init_61 rfl (lv_at hl 0 rfl) ?_
  refine va_get (D := G.1) (ci := 3) (v := .ref q23) (C := R_M) (T := F_M) (N := 10) hx hb ht in_M hown hK hP 0 rfl rfl 9 (by decide) (ht _ kf_M_17) (fun _ h9 => h9) rfl d_M_init_62 ?_
  refine lv_iconst (v := 3) hx hb d_M_init_65 (by decide) ?_
  refine lv_sipush (v := 29647) hx hb d_M_init_66 (by decide) ?_
  refine va_iast hx hb hK hP hD hS 3 1 rfl rfl (i := 3) (vp_in_nI (show 3 < 10 by decide) (by decide)) d_M_init_69 (fun H locs hP hD hS => ?_)
  have hP : va_P G.1 classes [(a, .inr (3, [.int 0, .long (p1.toInt64), .long 0, .int 0, .int 0, .int 0, .int 0, .ref q7, .ref q15, .ref q23])), (q7, .inl (G.2.2.1, 100, .inl (fun _ => 0))), (q15, .inl (G.2.2.2, 100, .inl (fun _ => 0))), (q23, .inl (G.2.2.1, 10, .inl (upd (upd (upd (upd (fun _ => 0) (0 : Int32).toNatClampNeg 31599) (1 : Int32).toNatClampNeg 11415) (2 : Int32).toNatClampNeg 29671) (3 : Int32).toNatClampNeg 29647)))] H := hP
  have hD : va_D A [(a, .inr (3, [.int 0, .long (p1.toInt64), .long 0, .int 0, .int 0, .int 0, .int 0, .ref q7, .ref q15, .ref q23])), (q7, .inl (G.2.2.1, 100, .inl (fun _ => 0))), (q15, .inl (G.2.2.2, 100, .inl (fun _ => 0))), (q23, .inl (G.2.2.1, 10, .inl (upd (upd (upd (upd (fun _ => 0) (0 : Int32).toNatClampNeg 31599) (1 : Int32).toNatClampNeg 11415) (2 : Int32).toNatClampNeg 29671) (3 : Int32).toNatClampNeg 29647)))] := hD
  refine lv_aload_n hx hb d_M_init_70 rfl (lv_at hl 0 rfl) ?_
  refine va_get (D := G.1) (ci := 3) (v := .ref q23) (C := R_M) (T := F_M) (N := 10) hx hb ht in_M hown hK hP 0 rfl rfl 9 (by decide) (ht _ kf_M_17) (fun _ h9 => h9) rfl d_M_init_71 ?_
  refine lv_iconst (v := 4) hx hb d_M_init_74 (by decide) ?_
  refine lv_sipush (v := 23497) hx hb d_M_init_75 (by decide) ?_
  refine va_iast hx hb hK hP hD hS 3 1 rfl rfl (i := 4) (vp_in_nI (show 4 < 10 by decide) (by decide)) d_M_init_78 (fun H locs hP hD hS => ?_)
  have hP : va_P G.1 classes [(a, .inr (3, [.int 0, .long (p1.toInt64), .long 0, .int 0, .int 0, .int 0, .int 0, .ref q7, .ref q15, .ref q23])), (q7, .inl (G.2.2.1, 100, .inl (fun _ => 0))), (q15, .inl (G.2.2.2, 100, .inl (fun _ => 0))), (q23, .inl (G.2.2.1, 10, .inl (upd (upd (upd (upd (upd (fun _ => 0) (0 : Int32).toNatClampNeg 31599) (1 : Int32).toNatClampNeg 11415) (2 : Int32).toNatClampNeg 29671) (3 : Int32).toNatClampNeg 29647) (4 : Int32).toNatClampNeg 23497)))] H := hP
  have hD : va_D A [(a, .inr (3, [.int 0, .long (p1.toInt64), .long 0, .int 0, .int 0, .int 0, .int 0, .ref q7, .ref q15, .ref q23])), (q7, .inl (G.2.2.1, 100, .inl (fun _ => 0))), (q15, .inl (G.2.2.2, 100, .inl (fun _ => 0))), (q23, .inl (G.2.2.1, 10, .inl (upd (upd (upd (upd (upd (fun _ => 0) (0 : Int32).toNatClampNeg 31599) (1 : Int32).toNatClampNeg 11415) (2 : Int32).toNatClampNeg 29671) (3 : Int32).toNatClampNeg 29647) (4 : Int32).toNatClampNeg 23497)))] := hD
  refine lv_aload_n hx hb d_M_init_79 rfl (lv_at hl 0 rfl) ?_
  refine va_get (D := G.1) (ci := 3) (v := .ref q23) (C := R_M) (T := F_M) (N := 10) hx hb ht in_M hown hK hP 0 rfl rfl 9 (by decide) (ht _ kf_M_17) (fun _ h9 => h9) rfl d_M_init_80 ?_
  refine lv_iconst (v := 5) hx hb d_M_init_83 (by decide) ?_
  refine lv_sipush (v := 31183) hx hb d_M_init_84 (by decide) ?_
  refine va_iast hx hb hK hP hD hS 3 1 rfl rfl (i := 5) (vp_in_nI (show 5 < 10 by decide) (by decide)) d_M_init_87 (fun H locs hP hD hS => ?_)
  have hP : va_P G.1 classes [(a, .inr (3, [.int 0, .long (p1.toInt64), .long 0, .int 0, .int 0, .int 0, .int 0, .ref q7, .ref q15, .ref q23])), (q7, .inl (G.2.2.1, 100, .inl (fun _ => 0))), (q15, .inl (G.2.2.2, 100, .inl (fun _ => 0))), (q23, .inl (G.2.2.1, 10, .inl (upd (upd (upd (upd (upd (upd (fun _ => 0) (0 : Int32).toNatClampNeg 31599) (1 : Int32).toNatClampNeg 11415) (2 : Int32).toNatClampNeg 29671) (3 : Int32).toNatClampNeg 29647) (4 : Int32).toNatClampNeg 23497) (5 : Int32).toNatClampNeg 31183)))] H := hP
  have hD : va_D A [(a, .inr (3, [.int 0, .long (p1.toInt64), .long 0, .int 0, .int 0, .int 0, .int 0, .ref q7, .ref q15, .ref q23])), (q7, .inl (G.2.2.1, 100, .inl (fun _ => 0))), (q15, .inl (G.2.2.2, 100, .inl (fun _ => 0))), (q23, .inl (G.2.2.1, 10, .inl (upd (upd (upd (upd (upd (upd (fun _ => 0) (0 : Int32).toNatClampNeg 31599) (1 : Int32).toNatClampNeg 11415) (2 : Int32).toNatClampNeg 29671) (3 : Int32).toNatClampNeg 29647) (4 : Int32).toNatClampNeg 23497) (5 : Int32).toNatClampNeg 31183)))] := hD
  refine lv_aload_n hx hb d_M_init_88 rfl (lv_at hl 0 rfl) ?_
  refine va_get (D := G.1) (ci := 3) (v := .ref q23) (C := R_M) (T := F_M) (N := 10) hx hb ht in_M hown hK hP 0 rfl rfl 9 (by decide) (ht _ kf_M_17) (fun _ h9 => h9) rfl d_M_init_89 ?_
  refine lv_bipush (v := 6) hx hb d_M_init_92 (by decide) ?_
  refine lv_sipush (v := 31215) hx hb d_M_init_94 (by decide) ?_
  refine va_iast hx hb hK hP hD hS 3 1 rfl rfl (i := 6) (vp_in_nI (show 6 < 10 by decide) (by decide)) d_M_init_97 (fun H locs hP hD hS => ?_)
  have hP : va_P G.1 classes [(a, .inr (3, [.int 0, .long (p1.toInt64), .long 0, .int 0, .int 0, .int 0, .int 0, .ref q7, .ref q15, .ref q23])), (q7, .inl (G.2.2.1, 100, .inl (fun _ => 0))), (q15, .inl (G.2.2.2, 100, .inl (fun _ => 0))), (q23, .inl (G.2.2.1, 10, .inl (upd (upd (upd (upd (upd (upd (upd (fun _ => 0) (0 : Int32).toNatClampNeg 31599) (1 : Int32).toNatClampNeg 11415) (2 : Int32).toNatClampNeg 29671) (3 : Int32).toNatClampNeg 29647) (4 : Int32).toNatClampNeg 23497) (5 : Int32).toNatClampNeg 31183) (6 : Int32).toNatClampNeg 31215)))] H := hP
  have hD : va_D A [(a, .inr (3, [.int 0, .long (p1.toInt64), .long 0, .int 0, .int 0, .int 0, .int 0, .ref q7, .ref q15, .ref q23])), (q7, .inl (G.2.2.1, 100, .inl (fun _ => 0))), (q15, .inl (G.2.2.2, 100, .inl (fun _ => 0))), (q23, .inl (G.2.2.1, 10, .inl (upd (upd (upd (upd (upd (upd (upd (fun _ => 0) (0 : Int32).toNatClampNeg 31599) (1 : Int32).toNatClampNeg 11415) (2 : Int32).toNatClampNeg 29671) (3 : Int32).toNatClampNeg 29647) (4 : Int32).toNatClampNeg 23497) (5 : Int32).toNatClampNeg 31183) (6 : Int32).toNatClampNeg 31215)))] := hD
  refine lv_aload_n hx hb d_M_init_98 rfl (lv_at hl 0 rfl) ?_
  refine va_get (D := G.1) (ci := 3) (v := .ref q23) (C := R_M) (T := F_M) (N := 10) hx hb ht in_M hown hK hP 0 rfl rfl 9 (by decide) (ht _ kf_M_17) (fun _ h9 => h9) rfl d_M_init_99 ?_
  refine lv_bipush (v := 7) hx hb d_M_init_102 (by decide) ?_
  refine lv_sipush (v := 29257) hx hb d_M_init_104 (by decide) ?_
  refine va_iast hx hb hK hP hD hS 3 1 rfl rfl (i := 7) (vp_in_nI (show 7 < 10 by decide) (by decide)) d_M_init_107 (fun H locs hP hD hS => ?_)
  have hP : va_P G.1 classes [(a, .inr (3, [.int 0, .long (p1.toInt64), .long 0, .int 0, .int 0, .int 0, .int 0, .ref q7, .ref q15, .ref q23])), (q7, .inl (G.2.2.1, 100, .inl (fun _ => 0))), (q15, .inl (G.2.2.2, 100, .inl (fun _ => 0))), (q23, .inl (G.2.2.1, 10, .inl (upd (upd (upd (upd (upd (upd (upd (upd (fun _ => 0) (0 : Int32).toNatClampNeg 31599) (1 : Int32).toNatClampNeg 11415) (2 : Int32).toNatClampNeg 29671) (3 : Int32).toNatClampNeg 29647) (4 : Int32).toNatClampNeg 23497) (5 : Int32).toNatClampNeg 31183) (6 : Int32).toNatClampNeg 31215) (7 : Int32).toNatClampNeg 29257)))] H := hP
  have hD : va_D A [(a, .inr (3, [.int 0, .long (p1.toInt64), .long 0, .int 0, .int 0, .int 0, .int 0, .ref q7, .ref q15, .ref q23])), (q7, .inl (G.2.2.1, 100, .inl (fun _ => 0))), (q15, .inl (G.2.2.2, 100, .inl (fun _ => 0))), (q23, .inl (G.2.2.1, 10, .inl (upd (upd (upd (upd (upd (upd (upd (upd (fun _ => 0) (0 : Int32).toNatClampNeg 31599) (1 : Int32).toNatClampNeg 11415) (2 : Int32).toNatClampNeg 29671) (3 : Int32).toNatClampNeg 29647) (4 : Int32).toNatClampNeg 23497) (5 : Int32).toNatClampNeg 31183) (6 : Int32).toNatClampNeg 31215) (7 : Int32).toNatClampNeg 29257)))] := hD
  refine lv_aload_n hx hb d_M_init_108 rfl (lv_at hl 0 rfl) ?_
  refine va_get (D := G.1) (ci := 3) (v := .ref q23) (C := R_M) (T := F_M) (N := 10) hx hb ht in_M hown hK hP 0 rfl rfl 9 (by decide) (ht _ kf_M_17) (fun _ h9 => h9) rfl d_M_init_109 ?_
  refine lv_bipush (v := 8) hx hb d_M_init_112 (by decide) ?_
  refine lv_sipush (v := 31727) hx hb d_M_init_114 (by decide) ?_
  refine va_iast hx hb hK hP hD hS 3 1 rfl rfl (i := 8) (vp_in_nI (show 8 < 10 by decide) (by decide)) d_M_init_117 (fun H locs hP hD hS => ?_)
  have hP : va_P G.1 classes [(a, .inr (3, [.int 0, .long (p1.toInt64), .long 0, .int 0, .int 0, .int 0, .int 0, .ref q7, .ref q15, .ref q23])), (q7, .inl (G.2.2.1, 100, .inl (fun _ => 0))), (q15, .inl (G.2.2.2, 100, .inl (fun _ => 0))), (q23, .inl (G.2.2.1, 10, .inl (upd (upd (upd (upd (upd (upd (upd (upd (upd (fun _ => 0) (0 : Int32).toNatClampNeg 31599) (1 : Int32).toNatClampNeg 11415) (2 : Int32).toNatClampNeg 29671) (3 : Int32).toNatClampNeg 29647) (4 : Int32).toNatClampNeg 23497) (5 : Int32).toNatClampNeg 31183) (6 : Int32).toNatClampNeg 31215) (7 : Int32).toNatClampNeg 29257) (8 : Int32).toNatClampNeg 31727)))] H := hP
  have hD : va_D A [(a, .inr (3, [.int 0, .long (p1.toInt64), .long 0, .int 0, .int 0, .int 0, .int 0, .ref q7, .ref q15, .ref q23])), (q7, .inl (G.2.2.1, 100, .inl (fun _ => 0))), (q15, .inl (G.2.2.2, 100, .inl (fun _ => 0))), (q23, .inl (G.2.2.1, 10, .inl (upd (upd (upd (upd (upd (upd (upd (upd (upd (fun _ => 0) (0 : Int32).toNatClampNeg 31599) (1 : Int32).toNatClampNeg 11415) (2 : Int32).toNatClampNeg 29671) (3 : Int32).toNatClampNeg 29647) (4 : Int32).toNatClampNeg 23497) (5 : Int32).toNatClampNeg 31183) (6 : Int32).toNatClampNeg 31215) (7 : Int32).toNatClampNeg 29257) (8 : Int32).toNatClampNeg 31727)))] := hD
  refine lv_aload_n hx hb d_M_init_118 rfl (lv_at hl 0 rfl) ?_
  refine va_get (D := G.1) (ci := 3) (v := .ref q23) (C := R_M) (T := F_M) (N := 10) hx hb ht in_M hown hK hP 0 rfl rfl 9 (by decide) (ht _ kf_M_17) (fun _ h9 => h9) rfl d_M_init_119 ?_
  refine lv_bipush (v := 9) hx hb d_M_init_122 (by decide) ?_
  refine lv_sipush (v := 31695) hx hb d_M_init_124 (by decide) ?_
  refine va_iast hx hb hK hP hD hS 3 1 rfl rfl (i := 9) (vp_in_nI (show 9 < 10 by decide) (by decide)) d_M_init_127 (fun H locs hP hD hS => ?_)
  have hP : va_P G.1 classes [(a, .inr (3, [.int 0, .long (p1.toInt64), .long 0, .int 0, .int 0, .int 0, .int 0, .ref q7, .ref q15, .ref q23])), (q7, .inl (G.2.2.1, 100, .inl (fun _ => 0))), (q15, .inl (G.2.2.2, 100, .inl (fun _ => 0))), (q23, .inl (G.2.2.1, 10, .inl (upd (upd (upd (upd (upd (upd (upd (upd (upd (upd (fun _ => 0) (0 : Int32).toNatClampNeg 31599) (1 : Int32).toNatClampNeg 11415) (2 : Int32).toNatClampNeg 29671) (3 : Int32).toNatClampNeg 29647) (4 : Int32).toNatClampNeg 23497) (5 : Int32).toNatClampNeg 31183) (6 : Int32).toNatClampNeg 31215) (7 : Int32).toNatClampNeg 29257) (8 : Int32).toNatClampNeg 31727) (9 : Int32).toNatClampNeg 31695)))] H := hP
  have hD : va_D A [(a, .inr (3, [.int 0, .long (p1.toInt64), .long 0, .int 0, .int 0, .int 0, .int 0, .ref q7, .ref q15, .ref q23])), (q7, .inl (G.2.2.1, 100, .inl (fun _ => 0))), (q15, .inl (G.2.2.2, 100, .inl (fun _ => 0))), (q23, .inl (G.2.2.1, 10, .inl (upd (upd (upd (upd (upd (upd (upd (upd (upd (upd (fun _ => 0) (0 : Int32).toNatClampNeg 31599) (1 : Int32).toNatClampNeg 11415) (2 : Int32).toNatClampNeg 29671) (3 : Int32).toNatClampNeg 29647) (4 : Int32).toNatClampNeg 23497) (5 : Int32).toNatClampNeg 31183) (6 : Int32).toNatClampNeg 31215) (7 : Int32).toNatClampNeg 29257) (8 : Int32).toNatClampNeg 31727) (9 : Int32).toNatClampNeg 31695)))] := hD
  refine W.widen (k := 3) (n := 210) (Nat.le_of_ble_eq_true rfl) (Nat.le_of_ble_eq_true rfl) ?_
  exact W.vret hx hb hr (fun t h9 _ => ⟨⟨(q7, q15, q23), rfl, trivial, by rw [h9]; exact hP.sub [0, 1, 2, 3] rfl, hD.sub [0, 1, 2, 3] (by decide) rfl⟩, hS.F h9⟩) hS.2.2 d_M_init_128
end
section
theorem has_nI {n i : Nat} (hn : n ≤ 16) (hi : i < n) : fn_D_has n (nI i) = 1 := by
  unfold fn_D_has
  rw [if_neg (nI_pos (by omega)), if_neg (nI_ge hi (by omega))]
theorem has_get {n : Nat} {x : Int32} (hn : n ≤ 16) (h : ¬ fn_D_has n x = 0) : ∃ i, i < n ∧ x = nI i := by
  unfold fn_D_has at h
  split at h
  · exact absurd rfl h
  · split at h
    · exact absurd rfl h
    · rename_i h1 h2
      obtain ⟨j, hj, rfl⟩ := nI_of h1
      exact ⟨j, Nat.lt_of_not_le (fun q => h2 (nI_le q hj)), rfl⟩
theorem nIm1 {n : Nat} (hn : n ≤ 16) : (nI n - 1).toInt = (n : Int) - 1 := pk_sub_toInt (b := 1) (by omega) (by omega)
theorem has_in_eq {n : Nat} (hn : n ≤ 16) (x : Int32) : fn_M_in x 0 (nI n - 1) = fn_D_has n x := by
  have e := nIm1 hn
  have e2 := nI_toInt (n := n) (by omega)
  have z : (0 : Int32).toInt = 0 := by decide
  unfold fn_M_in fn_D_has
  by_cases h1 : x < 0
  · rw [if_pos h1, if_pos h1]
  · rw [if_neg h1, if_neg h1]
    by_cases h2 : nI n ≤ x
    · rw [if_pos h2, if_pos]
      rw [Int32.lt_iff_toInt_lt, e]
      rw [Int32.le_iff_toInt_le, e2] at h2
      omega
    · rw [if_neg h2, if_neg]
      rw [Int32.lt_iff_toInt_lt, e]
      rw [Int32.le_iff_toInt_le, e2] at h2
      omega
theorem dr_eq (a b : Int32) : mdr a b = fn_P_isDrawable a b := by
  have l15 : (15 : Int32).toInt = 15 := by decide
  have l16 : (16 : Int32).toInt = 16 := by decide
  have key : (15 : Int32) < b ↔ (16 : Int32) ≤ b := by
    rw [Int32.lt_iff_toInt_lt, Int32.le_iff_toInt_le, l15, l16]
    omega
  unfold mdr fn_P_isDrawable fn_M_in
  by_cases h1 : a < 0
  · rw [if_pos h1, if_pos h1, if_pos rfl]
  · rw [if_neg h1, if_neg h1]
    by_cases h2 : 4 < a
    · rw [if_pos h2, if_pos h2, if_pos rfl]
    · rw [if_neg h2, if_neg h2, if_neg (by decide)]
      by_cases h3 : b < 0
      · rw [if_pos h3, if_pos h3, if_pos rfl]
      · rw [if_neg h3, if_neg h3]
        by_cases h4 : 15 < b
        · rw [if_pos h4, if_pos (key.mp h4), if_pos rfl]
        · rw [if_neg h4, if_neg (fun q => h4 (key.mpr q)), if_neg (by decide)]
theorem dr_get {a b : Int32} (h : ¬ fn_P_isDrawable a b = 0) : ∃ z, z < 16 ∧ b = nI z ∧ ¬ a < 0 ∧ ¬ 4 < a := by
  unfold fn_P_isDrawable at h
  split at h
  · exact absurd rfl h
  · split at h
    · exact absurd rfl h
    · split at h
      · exact absurd rfl h
      · split at h
        · exact absurd rfl h
        · rename_i h1 h2 h3 h4
          obtain ⟨j, hj, rfl⟩ := nI_of h3
          exact ⟨j, Nat.lt_of_not_le (fun q => h4 (nI_le (a := 16) q hj)), rfl, h1, h2⟩
theorem fact_eq {n i : Nat} {f : Nat → Int64} {z : Int64} (hn : n ≤ 16) (hi : i < n) (hz : f i = z) {w : Int32} (hw : w = 1 ∨ w = 2 ∨ w = 3 ∨ w = 4) : fn_D_fact n f (nI i) w = fn_M_fact z w := by
  have hu := uN_lt z
  unfold fn_D_fact fn_M_fact
  rw [has_nI hn hi, if_neg (by decide), nI_clamp (by omega), hz]
  rcases hw with rfl | rfl | rfl | rfl
  · rw [if_pos rfl, if_pos rfl, fct1]
    exact (restN z (d := 100) (by omega) (by omega)).symm
  · rw [if_neg (by decide), if_pos rfl, if_neg (by decide), if_pos rfl, fct2]
    refine ((restN _ (d := 1000) (by omega) (by omega)).trans ?_).symm
    rw [sh8, uN_lN (by omega)]
  · rw [if_neg (by decide), if_neg (by decide), if_pos rfl, if_neg (by decide), if_neg (by decide), if_pos rfl, fct3]
    refine ((restN _ (d := 24) (by omega) (by omega)).trans ?_).symm
    rw [sh24, uN_lN (by omega)]
  · rw [if_neg (by decide), if_neg (by decide), if_neg (by decide), if_pos rfl, if_neg (by decide), if_neg (by decide), if_neg (by decide), fct4]
    refine ((restN _ (d := 2) (by omega) (by omega)).trans ?_).symm
    rw [sh40, uN_lN (by omega)]
theorem fl_at (sd : Int64) (k : Int32) (f : Nat → Int64) : ∀ n i, i < n → fl sd k f n i = zN sd k (nI i)
  | 0, _, h => absurd h (by omega)
  | n + 1, i, h => by
    unfold fl
    by_cases e : i = n
    · subst e
      exact pk_uLs
    · rw [pk_uLn e]
      exact fl_at sd k f n i (by omega)
end
section
theorem vf_spec (g : Nat → Int32) (x : Int32) : ∀ k j, (j ≤ vf g x k j ∧ vf g x k j < j + k ∧ g (vf g x k j) = x) ∨ (vf g x k j = j + k ∧ ∀ i, j ≤ i → i < j + k → ¬ g i = x)
  | 0, j => Or.inr ⟨rfl, fun i h1 h2 => absurd h2 (by omega)⟩
  | k + 1, j => by
    by_cases e : g j = x
    · have h : vf g x (k + 1) j = j := by simp only [vf]; rw [if_pos e]
      rw [h]
      exact Or.inl ⟨by omega, by omega, e⟩
    · have h : vf g x (k + 1) j = vf g x k (j + 1) := by simp only [vf]; rw [if_neg e]
      rw [h]
      rcases vf_spec g x k (j + 1) with ⟨h1, h2, h3⟩ | ⟨h1, h2⟩
      · exact Or.inl ⟨by omega, by omega, h3⟩
      · refine Or.inr ⟨by omega, fun i h3 h4 => ?_⟩
        by_cases e2 : i = j
        · rw [e2]; exact e
        · exact h2 i (by omega) (by omega)
/-- no two of the sets told are the same -/
def Dst (g : Nat → Int32) (q : Nat) : Prop := ∀ i j, i < q → j < q → g i = g j → i = j
theorem po_some (g : Nat → Int32) (x : Int32) : ∀ m i, i < m → g i = x → ∃ j, j < m ∧ po g x m = nI j ∧ g j = x
  | 0, i, h, _ => absurd h (by omega)
  | m + 1, i, hi, hg => by
    by_cases e1 : g m = x
    · exact ⟨m, by omega, by simp only [po]; rw [if_pos e1], e1⟩
    · have hne : i ≠ m := fun z => e1 (by rw [← z]; exact hg)
      obtain ⟨j, b1, b2, b3⟩ := po_some g x m i (by omega) hg
      exact ⟨j, by omega, by simp only [po]; rw [if_neg e1]; exact b2, b3⟩
theorem po_vf {g : Nat → Int32} {q : Nat} (x : Int32) (hd : Dst g q) : (vf g x q 0 = q ∧ po g x q = -1 ∧ ∀ i, i < q → ¬ g i = x) ∨ (vf g x q 0 < q ∧ po g x q = nI (vf g x q 0) ∧ g (vf g x q 0) = x) := by
  rcases vf_spec g x q 0 with ⟨h1, h2, h3⟩ | ⟨h1, h2⟩
  · right
    obtain ⟨j, a1, a2, a3⟩ := po_some g x q _ (show vf g x q 0 < q by omega) h3
    refine ⟨by omega, ?_, h3⟩
    rw [a2, hd j _ a1 (by omega) (a3.trans h3.symm)]
  · left
    refine ⟨by omega, ?_, fun i hi => h2 i (by omega) (by omega)⟩
    rcases po_or g x q with e | ⟨j, a1, a2, a3⟩
    · exact e
    · exact absurd a3 (h2 j (by omega) (by omega))
theorem stay_eq {g h : Nat → Int32} {q : Nat} (hq : q ≤ 100) (hd : Dst g q) (x : Int32) : fn_V_stayFor g h q x = fn_M_stays q g h x := by
  unfold fn_V_stayFor fn_M_stays
  rcases po_vf x hd with ⟨h1, h2, -⟩ | ⟨h1, h2, -⟩
  · rw [h1, h2, if_pos (nI_le (Nat.le_refl _) (by omega)), if_pos rfl]
  · rw [h2, if_neg (nI_ge h1 (by omega)), if_neg (nI_nm1 (by omega)), nI_clamp (by omega)]
theorem upd_same {g : Nat → Int32} {i : Nat} {x : Int32} (h : g i = x) : upd g i x = g := by
  funext j
  unfold upd
  split
  · rename_i e; rw [e, h]
  · rfl
/-- what tell does: no room, a new set, an old one -/
theorem tell_room {g h : Nat → Int32} {q : Nat} {x y : Int32} (hv : vf g x q 0 = q) (hq : q = 100) : tlr g q x = 0 ∧ tlg g q x = g ∧ tlh g h q x y = h ∧ tln g q x = q := by
  have c : nI (vf g x q 0) = nI q := by rw [hv]
  have c2 : ¬ nI q < 100 := by rw [hq]; decide
  unfold tlr tlg tlh tln
  rw [if_pos c, if_pos c, if_pos c, if_pos c, if_neg c2, if_neg c2, if_neg c2, if_neg c2]
  exact ⟨rfl, rfl, rfl, rfl⟩
theorem tell_new {g h : Nat → Int32} {q : Nat} {x y : Int32} (hv : vf g x q 0 = q) (hq : q < 100) : tlr g q x = 1 ∧ tlg g q x = upd g q x ∧ tlh g h q x y = upd h q (vp_nar .boolean y) ∧ tln g q x = q + 1 := by
  have c : nI (vf g x q 0) = nI q := by rw [hv]
  have c2 : nI q < 100 := nI_lt (b := 100) hq (by omega)
  unfold tlr tlg tlh tln
  rw [if_pos c, if_pos c, if_pos c, if_pos c, if_pos c2, if_pos c2, if_pos c2, if_pos c2, hv]
  exact ⟨rfl, rfl, rfl, rfl⟩
theorem tell_old {g h : Nat → Int32} {q : Nat} {x y : Int32} (hq : q ≤ 100) (hv : vf g x q 0 < q) : tlr g q x = 1 ∧ tlg g q x = g ∧ tlh g h q x y = upd h (vf g x q 0) (vp_nar .boolean y) ∧ tln g q x = q := by
  have c : ¬ nI (vf g x q 0) = nI q := fun e => absurd ((nI_eq (by omega) (by omega)).mp e) (by omega)
  unfold tlr tlg tlh tln
  rw [if_neg c, if_neg c, if_neg c, if_neg c]
  exact ⟨rfl, rfl, rfl, rfl⟩
theorem Dst.new {g : Nat → Int32} {q : Nat} {x : Int32} (hd : Dst g q) (hx : ∀ i, i < q → ¬ g i = x) : Dst (upd g q x) (q + 1) := by
  intro i j hi hj e
  unfold upd at e
  split at e
  · rename_i e1
    split at e
    · rename_i e2; omega
    · rename_i e2; exact absurd e.symm (hx j (by omega))
  · rename_i e1
    split at e
    · rename_i e2; exact absurd e (hx i (by omega))
    · exact hd i j (by omega) (by omega) e
theorem nz_new {g : Nat → Int32} {q : Nat} {x : Int32} (hz : ∀ i, i < q → ¬ g i = 0) (hx : ¬ x = 0) : ∀ i, i < q + 1 → ¬ upd g q x i = 0 := by
  intro i hi
  unfold upd
  split
  · exact hx
  · exact hz i (by omega)
theorem stay_0 {g h : Nat → Int32} {q : Nat} (hq : q ≤ 100) (hz : ∀ i, i < q → ¬ g i = 0) : fn_V_stayFor g h q 0 = 0 := by
  unfold fn_V_stayFor
  rcases vf_spec g 0 q 0 with ⟨h1, h2, h3⟩ | ⟨h1, h2⟩
  · exact absurd h3 (hz _ (by omega))
  · rw [if_pos]
    exact nI_le (by omega) (by omega)
end
section
/-! sets of parts as numbers below 2^16 -/
theorem one_shl : ∀ j, j < 16 → ((1 : Int32) <<< (nI j &&& 31)) = nI (2 ^ j) := by decide +kernel
theorem all_nI : ∀ n, n < 17 → fn_D_allBits n = nI (2 ^ n - 1) := by decide +kernel
theorem pw16 {j : Nat} (h : j < 16) : 2 ^ j < 65536 := Nat.pow_lt_pow_right (a := 2) (by decide) (show j < 16 from h)
theorem pw16' {n : Nat} (h : n ≤ 16) : 2 ^ n ≤ 65536 := Nat.pow_le_pow_right (n := 2) (by decide) h
theorem bt_nI {B i : Nat} (hi : i < 32) : bt (nI B) i = B.testBit i := by
  unfold bt
  show (BitVec.ofNat 32 B).getLsbD i = _
  rw [BitVec.getLsbD_ofNat]
  simp [hi]
/-- a bit is there -/
theorem and_bit {B j : Nat} (hB : B < 65536) (hj : j < 16) : (nI B &&& ((1 : Int32) <<< (nI j &&& 31))) = 0 ↔ B.testBit j = false := by
  rw [one_shl j hj, nx_and, ← nI_0]
  have hp := pw16 hj
  have hle : B &&& 2 ^ j ≤ 2 ^ j := Nat.and_le_right
  rw [nI_eq (by omega) (by omega)]
  constructor
  · intro h
    have := congrArg (fun x => x.testBit j) h
    simpa [Nat.testBit_and, Nat.testBit_two_pow] using this
  · intro h
    apply Nat.eq_of_testBit_eq
    intro i
    rw [Nat.testBit_and, Nat.testBit_two_pow, Nat.zero_testBit]
    by_cases e : j = i
    · subst e; rw [h]; rfl
    · simp [e]
theorem shr_bit {B j : Nat} (hB : B < 65536) (hj : j < 16) : ((nI B >>> (nI j &&& 31)) &&& 1) = nI (B / 2 ^ j % 2) := by
  have hs : ((nI j &&& 31).toBitVec.smod 32).toNat = j := s_l j (by omega)
  rw [pk_shrN (by omega) _ j hs]
  exact pk_andN (m := 1) (by have := Nat.div_le_self B (2 ^ j); omega) 1 (by decide)
theorem shr_is1 {B j : Nat} (hB : B < 65536) (hj : j < 16) : ((nI B >>> (nI j &&& 31)) &&& 1) = 1 ↔ B.testBit j = true := by
  rw [shr_bit hB hj, show (1 : Int32) = nI 1 from rfl, nI_eq (by omega) (by omega), Nat.testBit_eq_decide_div_mod_eq, decide_eq_true_iff]
/-- the same number without a bit that was there -/
theorem sub_bit {B j : Nat} (h : B.testBit j = true) (i : Nat) : (B - 2 ^ j).testBit i = (B.testBit i && decide (¬ i = j)) := by
  have hge := Nat.ge_two_pow_of_testBit h
  have hp : 0 < 2 ^ j := Nat.two_pow_pos j
  have hodd : B / 2 ^ j % 2 = 1 := by
    rw [Nat.testBit_eq_decide_div_mod_eq] at h
    exact of_decide_eq_true h
  have hr : B % 2 ^ j < 2 ^ j := Nat.mod_lt _ hp
  have e1 : B = 2 ^ j * (B / 2 ^ j) + B % 2 ^ j := (Nat.div_add_mod B (2 ^ j)).symm
  obtain ⟨a, ha⟩ : ∃ a, B / 2 ^ j = 2 * a + 1 := ⟨B / 2 ^ j / 2, by omega⟩
  generalize B % 2 ^ j = r at hr e1
  rw [ha] at e1
  have e2 : B - 2 ^ j = 2 ^ j * (2 * a) + r := by
    rw [e1, Nat.mul_add, Nat.mul_one]
    omega
  rw [e2, Nat.testBit_two_pow_mul_add _ hr]
  conv => rhs; rw [e1, Nat.testBit_two_pow_mul_add _ hr]
  by_cases h1 : i < j
  · rw [if_pos h1, if_pos h1, decide_eq_true (by omega), Bool.and_true]
  · rw [if_neg h1, if_neg h1]
    by_cases h2 : i = j
    · subst h2
      rw [Nat.sub_self, decide_eq_false (by omega), Bool.and_false, Nat.testBit_zero]
      simp
    · rw [decide_eq_true h2, Bool.and_true]
      obtain ⟨m, hm⟩ : ∃ m, i - j = m + 1 := ⟨i - j - 1, by omega⟩
      rw [hm, Nat.testBit_add_one, Nat.testBit_add_one]
      congr 1
      omega
theorem clr_bit {B j : Nat} (hB : B < 65536) (hj : j < 16) (h : B.testBit j = true) : nI B &&& (((1 : Int32) <<< (nI j &&& 31)) ^^^ (-1)) = nI (B - 2 ^ j) := by
  apply b_ext
  intro i hi
  rw [b_and, b_xor, b_m1 i hi, one_shl j hj, bt_nI hi, bt_nI hi, bt_nI hi, sub_bit h, Nat.testBit_two_pow]
  by_cases e : j = i
  · subst e; simp
  · simp [e, Ne.symm e]
theorem sub_nI {B j : Nat} (hj : j < 16) (h : B.testBit j = true) : nI B - ((1 : Int32) <<< (nI j &&& 31)) = nI (B - 2 ^ j) := by
  rw [one_shl j hj, pk_sub (Nat.ge_two_pow_of_testBit h)]
theorem is_one {B j : Nat} (hB : B < 65536) (hj : j < 16) : nI B = (1 : Int32) <<< (nI j &&& 31) ↔ B = 2 ^ j := by
  rw [one_shl j hj]
  have := pw16 hj
  exact nI_eq (by omega) (by omega)
/-- how many bits -/
def pc (B : Nat) : Nat → Nat
  | 0 => 0
  | k + 1 => pc B k + (if B.testBit k = true then 1 else 0)
theorem pc_le (B : Nat) : ∀ k, pc B k ≤ k
  | 0 => Nat.le_refl _
  | k + 1 => by
    have := pc_le B k
    unfold pc
    split <;> omega
theorem pc_sub {B j : Nat} (h : B.testBit j = true) : ∀ k, (j < k → pc (B - 2 ^ j) k + 1 = pc B k) ∧ (k ≤ j → pc (B - 2 ^ j) k = pc B k)
  | 0 => ⟨fun z => absurd z (by omega), fun _ => rfl⟩
  | k + 1 => by
    obtain ⟨h1, h2⟩ := pc_sub h k
    unfold pc
    rw [sub_bit h]
    by_cases e : k = j
    · subst e
      have h3 := h2 (Nat.le_refl _)
      refine ⟨fun _ => ?_, fun z => absurd z (by omega)⟩
      rw [h3, h]
      simp
    · rw [decide_eq_true e, Bool.and_true]
      refine ⟨fun z => ?_, fun z => ?_⟩
      · have := h1 (by omega)
        omega
      · have := h2 (by omega)
        omega
theorem pc_zero {B : Nat} : ∀ k, B < 2 ^ k → pc B k = 0 → B = 0
  | 0, h, _ => by omega
  | k + 1, h, hp => by
    unfold pc at hp
    by_cases hb : B.testBit k = true
    · rw [if_pos hb] at hp; omega
    · have hlt : B < 2 ^ k := by
        apply Nat.lt_pow_two_of_testBit
        intro i hi
        by_cases e : i = k
        · subst e; simpa using hb
        · exact Nat.testBit_lt_two_pow (Nat.lt_of_lt_of_le h (Nat.pow_le_pow_right (by decide) (by omega)))
      exact pc_zero k hlt (by omega)
end
section
/-! leaving out, one after the other: on numbers -/
section Passes
variable (g h : Nat → Int32) (q : Nat)
/-- part j can be left out of B -/
def rmv (B j : Nat) : Bool := B.testBit j && decide (¬ fn_V_stayFor g h q (nI (B - 2 ^ j)) = 0)
def stp (B j : Nat) : Nat := if rmv g h q B j = true then B - 2 ^ j else B
/-- kk parts from j on -/
def pf : Nat → Nat → Nat → Nat
  | 0, _, B => B
  | kk + 1, j, B => pf kk (j + 1) (stp g h q B j)
def gtN (B : Nat) : Nat → Nat
  | 0 => B
  | j + 1 => stp g h q (gtN B j) j
theorem stp_le (B j : Nat) : stp g h q B j ≤ B := by
  unfold stp
  split
  · exact Nat.sub_le _ _
  · exact Nat.le_refl _
theorem pf_le : ∀ kk j B, pf g h q kk j B ≤ B
  | 0, _, _ => Nat.le_refl _
  | kk + 1, j, B => Nat.le_trans (pf_le kk (j + 1) _) (stp_le g h q B j)
theorem gtN_le (B : Nat) : ∀ j, gtN g h q B j ≤ B
  | 0 => Nat.le_refl _
  | j + 1 => Nat.le_trans (stp_le g h q _ j) (gtN_le B j)
theorem pf_gtN (B : Nat) : ∀ kk j, pf g h q kk j (gtN g h q B j) = gtN g h q B (j + kk)
  | 0, j => rfl
  | kk + 1, j => by
    show pf g h q kk (j + 1) (stp g h q (gtN g h q B j) j) = _
    rw [show stp g h q (gtN g h q B j) j = gtN g h q B (j + 1) from rfl, pf_gtN B kk (j + 1)]
    congr 1
    omega
theorem cl_eq {B j : Nat} (hB : B < 65536) (hj : j < 16) : fn_P_canLeaveOut g h q (nI B) (nI j) = 0 ↔ rmv g h q B j = false := by
  unfold fn_P_canLeaveOut rmv
  by_cases hb : B.testBit j = true
  · rw [if_neg (fun z => by rw [(and_bit hB hj).mp z] at hb; cases hb), clr_bit hB hj hb, hb, Bool.true_and]
    by_cases hs : fn_V_stayFor g h q (nI (B - 2 ^ j)) = 0
    · rw [if_pos hs]; simp [hs]
    · rw [if_neg hs]; simp [hs]
  · have hb' : B.testBit j = false := by simpa using hb
    rw [if_pos ((and_bit hB hj).mpr hb'), hb', Bool.false_and]
    simp
theorem gt_gtN {B : Nat} (hB : B < 65536) : ∀ j, j ≤ 16 → gt g h q (nI B) j = nI (gtN g h q B j)
  | 0, _ => rfl
  | j + 1, hj => by
    have ih := gt_gtN hB j (by omega)
    have hl := gtN_le g h q B j
    simp only [gt, gtN]
    rw [ih]
    unfold stp
    by_cases hr : rmv g h q (gtN g h q B j) j = true
    · rw [if_neg (fun z => by rw [(cl_eq g h q (by omega) (by omega)).mp z] at hr; cases hr), if_pos hr]
      have hb : (gtN g h q B j).testBit j = true := by
        unfold rmv at hr
        rw [Bool.and_eq_true] at hr
        exact hr.1
      exact clr_bit (by omega) (by omega) hb
    · have hr' : rmv g h q (gtN g h q B j) j = false := by simpa using hr
      rw [if_pos ((cl_eq g h q (by omega) (by omega)).mpr hr'), if_neg hr]
/-- bits beyond n aren't there: nothing to leave out -/
theorem pf_beyond {n B : Nat} (hB : B < 2 ^ n) : ∀ kk j, n ≤ j → pf g h q kk j B = B
  | 0, _, _ => rfl
  | kk + 1, j, hj => by
    have hb : B.testBit j = false := Nat.testBit_lt_two_pow (Nat.lt_of_lt_of_le hB (Nat.pow_le_pow_right (by decide) hj))
    have hs : stp g h q B j = B := by
      unfold stp rmv
      rw [hb, Bool.false_and, if_neg (by decide)]
    show pf g h q kk (j + 1) (stp g h q B j) = B
    rw [hs]
    exact pf_beyond hB kk (j + 1) (by omega)
theorem pf_add : ∀ a b j B, pf g h q (a + b) j B = pf g h q b (j + a) (pf g h q a j B)
  | 0, b, j, B => by rw [Nat.zero_add]; rfl
  | a + 1, b, j, B => by
    rw [show a + 1 + b = (a + b) + 1 by omega]
    show pf g h q (a + b) (j + 1) (stp g h q B j) = _
    rw [pf_add a b (j + 1)]
    show pf g h q b (j + 1 + a) (pf g h q a (j + 1) (stp g h q B j)) = pf g h q b (j + (a + 1)) (pf g h q a (j + 1) (stp g h q B j))
    rw [show j + 1 + a = j + (a + 1) by omega]
theorem gtN_n {n B : Nat} (hn : n ≤ 16) (hB : B < 2 ^ n) : gtN g h q B 16 = pf g h q n 0 B := by
  have e := pf_gtN g h q B 16 0
  rw [Nat.zero_add] at e
  rw [← e]
  show pf g h q 16 0 B = _
  rw [show (16 : Nat) = n + (16 - n) by omega, pf_add, pf_beyond g h q (Nat.lt_of_le_of_lt (pf_le g h q n 0 B) hB) _ _ (by omega)]
/-- fewer bits behind a step -/
theorem stp_pc (B j : Nat) (hj : j < 16) : pc (stp g h q B j) 16 ≤ pc B 16 ∧ (¬ stp g h q B j = B → pc (stp g h q B j) 16 < pc B 16) := by
  unfold stp
  split
  · rename_i hr
    have hb : B.testBit j = true := by
      unfold rmv at hr
      rw [Bool.and_eq_true] at hr
      exact hr.1
    have := (pc_sub hb 16).1 hj
    exact ⟨by omega, fun _ => by omega⟩
  · exact ⟨Nat.le_refl _, fun z => absurd rfl z⟩
theorem gtN_pc (B : Nat) : ∀ j, j ≤ 16 → pc (gtN g h q B j) 16 ≤ pc B 16 ∧ (¬ gtN g h q B j = B → pc (gtN g h q B j) 16 < pc B 16)
  | 0, _ => ⟨Nat.le_refl _, fun z => absurd rfl z⟩
  | j + 1, hj => by
    obtain ⟨h1, h2⟩ := gtN_pc B j (by omega)
    obtain ⟨h3, h4⟩ := stp_pc g h q (gtN g h q B j) j (by omega)
    refine ⟨Nat.le_trans h3 h1, fun z => ?_⟩
    by_cases e : gtN g h q B j = B
    · rw [show gtN g h q B (j + 1) = stp g h q (gtN g h q B j) j from rfl] at z ⊢
      exact Nat.lt_of_lt_of_le (h4 (by rw [e] at z ⊢; exact z)) h1
    · exact Nat.lt_of_le_of_lt h3 (h2 e)
def laN : Nat → Nat → Nat
  | 0, B => B
  | k + 1, B => if gtN g h q B 16 = B then B else laN k (gtN g h q B 16)
theorem la_laN : ∀ k B, B < 65536 → la g h q k (nI B) = nI (laN g h q k B)
  | 0, _, _ => rfl
  | k + 1, B, hB => by
    have hl := gtN_le g h q B 16
    have e := gt_gtN g h q hB 16 (Nat.le_refl _)
    simp only [la, laN]
    rw [e]
    by_cases c : gtN g h q B 16 = B
    · rw [if_pos (by rw [c]), if_pos c]
    · rw [if_neg (fun z => c ((nI_eq (by omega) (by omega)).mp z)), if_neg c]
      exact la_laN k _ (by omega)
theorem laN_le : ∀ k B, laN g h q k B ≤ B
  | 0, _ => Nat.le_refl _
  | k + 1, B => by
    simp only [laN]
    split
    · exact Nat.le_refl _
    · exact Nat.le_trans (laN_le k _) (gtN_le g h q B 16)
end Passes
section Whiles
variable {g h : Nat → Int32} {q n : Nat}
/-- the reference's search finds the first part that can be left out -/
theorem wo_spec (hq : q ≤ 100) (hd : Dst g q) (hz : ∀ i, i < q → ¬ g i = 0) {B : Nat} (hB : B < 65536) : ∀ kk j, j + kk ≤ 16 →
    (wo g h q (nI B) kk j = -1 ∧ pf g h q kk j B = B ∧ ∀ i, j ≤ i → i < j + kk → rmv g h q B i = false) ∨ (∃ k, j ≤ k ∧ k < j + kk ∧ wo g h q (nI B) kk j = nI k ∧ rmv g h q B k = true ∧ pf g h q kk j B = pf g h q (j + kk - (k + 1)) (k + 1) (B - 2 ^ k))
  | 0, j, _ => Or.inl ⟨rfl, rfl, fun i h1 h2 => absurd h2 (by omega)⟩
  | kk + 1, j, hj => by
    by_cases hr : rmv g h q B j = true
    · right
      have hr2 := hr
      unfold rmv at hr2
      rw [Bool.and_eq_true, decide_eq_true_iff] at hr2
      obtain ⟨hb, hs⟩ := hr2
      have hne : ¬ B = 2 ^ j := by
        intro e
        rw [e, Nat.sub_self] at hs
        exact hs (stay_0 hq hz)
      refine ⟨j, by omega, by omega, ?_, hr, ?_⟩
      · simp only [wo]
        rw [if_pos ((shr_is1 hB (by omega)).mpr hb), if_neg (fun z => hne ((is_one hB (by omega)).mp z)), sub_nI (by omega) hb, ← stay_eq hq hd, if_neg hs]
      · show pf g h q kk (j + 1) (stp g h q B j) = _
        unfold stp
        rw [if_pos hr, show j + (kk + 1) - (j + 1) = kk by omega]
    · have hr' : rmv g h q B j = false := by simpa using hr
      have e1 : wo g h q (nI B) (kk + 1) j = wo g h q (nI B) kk (j + 1) := by
        simp only [wo]
        by_cases hb : B.testBit j = true
        · rw [if_pos ((shr_is1 hB (by omega)).mpr hb)]
          by_cases ho : B = 2 ^ j
          · rw [if_pos ((is_one hB (by omega)).mpr ho)]
          · rw [if_neg (fun z => ho ((is_one hB (by omega)).mp z)), sub_nI (by omega) hb, ← stay_eq hq hd]
            have hs : fn_V_stayFor g h q (nI (B - 2 ^ j)) = 0 := by
              unfold rmv at hr'
              rw [hb, Bool.true_and, decide_eq_false_iff_not] at hr'
              exact Decidable.of_not_not hr'
            rw [if_pos hs]
        · rw [if_neg (fun z => hb ((shr_is1 hB (by omega)).mp z))]
      have e2 : pf g h q (kk + 1) j B = pf g h q kk (j + 1) B := by
        show pf g h q kk (j + 1) (stp g h q B j) = _
        unfold stp
        rw [if_neg hr]
      rw [e1, e2]
      rcases wo_spec hq hd hz hB kk (j + 1) (by omega) with ⟨a1, a2, a3⟩ | ⟨k, a1, a2, a3, a4, a5⟩
      · refine Or.inl ⟨a1, a2, fun i h1 h2 => ?_⟩
        by_cases e : i = j
        · rw [e]; exact hr'
        · exact a3 i (by omega) (by omega)
      · refine Or.inr ⟨k, by omega, by omega, a3, a4, ?_⟩
        rw [a5]
        congr 1
        omega
/-- one going through of the reference's loop -/
theorem ms_pass (hn : n ≤ 16) (hq : q ≤ 100) (hd : Dst g q) (hz : ∀ i, i < q → ¬ g i = 0) : ∀ (m j B : Nat), n - j = m → j ≤ n → B < 2 ^ n →
    ∃ c, ∀ t, msO g h q n (c + t) (nI B) j = if j = 0 ∧ pf g h q (n - j) j B = B then some (nI B) else msO g h q n t (nI (pf g h q (n - j) j B)) 0 := by
  intro m
  induction m using Nat.strongRecOn with
  | ind m ih =>
    intro j B hm hj hB
    have hB6 : B < 65536 := Nat.lt_of_lt_of_le hB (pw16' hn)
    rcases wo_spec (g := g) (h := h) hq hd hz hB6 (n - j) j (by omega) with ⟨a1, a2, -⟩ | ⟨k, a1, a2, a3, a4, a5⟩
    · refine ⟨1, fun t => ?_⟩
      rw [Nat.add_comm 1 t, msO_s, if_pos a1, a2]
      by_cases e : j = 0
      · rw [if_pos e, if_pos ⟨e, rfl⟩]
      · rw [if_neg e, if_neg (fun z => e z.1)]
    · have hb : B.testBit k = true := by
        unfold rmv at a4
        rw [Bool.and_eq_true] at a4
        exact a4.1
      have hge := Nat.ge_two_pow_of_testBit hb
      have hp := Nat.two_pow_pos k
      obtain ⟨c, hc⟩ := ih (n - (k + 1)) (by omega) (k + 1) (B - 2 ^ k) rfl (by omega) (by omega)
      have e5 : j + (n - j) - (k + 1) = n - (k + 1) := by omega
      rw [e5] at a5
      have hle := pf_le g h q (n - (k + 1)) (k + 1) (B - 2 ^ k)
      refine ⟨c + 1, fun t => ?_⟩
      rw [show c + 1 + t = (c + t) + 1 by omega, msO_s, a3, if_neg (nI_nm1 (by omega)), nI_clamp (by omega), sub_nI (by omega) hb, hc t, if_neg (fun z => absurd z.1 (by omega)), a5, if_neg (fun z => absurd z.2 (by omega))]
theorem ms_all (hn : n ≤ 16) (hq : q ≤ 100) (hd : Dst g q) (hz : ∀ i, i < q → ¬ g i = 0) : ∀ (K B : Nat), pc B 16 ≤ K → B < 2 ^ n → ∃ t, msO g h q n t (nI B) 0 = some (nI (laN g h q K B)) := by
  intro K
  induction K with
  | zero =>
    intro B hp hB
    have hB0 : B = 0 := pc_zero 16 (Nat.lt_of_lt_of_le hB (Nat.pow_le_pow_right (by decide) hn)) (by omega)
    obtain ⟨c, hc⟩ := ms_pass (g := g) (h := h) hn hq hd hz n 0 B rfl (by omega) hB
    refine ⟨c + 0, ?_⟩
    have hle := pf_le g h q (n - 0) 0 B
    rw [hc 0, if_pos ⟨rfl, by omega⟩]
    rfl
  | succ K ih =>
    intro B hp hB
    obtain ⟨c, hc⟩ := ms_pass (g := g) (h := h) hn hq hd hz n 0 B rfl (by omega) hB
    have e := gtN_n g h q hn hB
    simp only [laN]
    rw [e]
    have hle := pf_le g h q n 0 B
    by_cases hs : pf g h q n 0 B = B
    · refine ⟨c + 0, ?_⟩
      rw [hc 0, if_pos ⟨rfl, hs⟩, if_pos hs]
    · have hpc := (gtN_pc g h q B 16 (Nat.le_refl _)).2 (by rw [e]; exact hs)
      rw [e] at hpc
      obtain ⟨t, ht⟩ := ih (pf g h q n 0 B) (by omega) (by omega)
      refine ⟨c + t, ?_⟩
      rw [hc t, if_neg (fun z => hs z.2), if_neg hs]
      exact ht
theorem sh_eq (hn : n ≤ 16) (hq : q ≤ 100) (hd : Dst g q) (hz : ∀ i, i < q → ¬ g i = 0) : ∃ t B, B < 2 ^ n ∧ shN n g h q = nI B ∧ mshR g h q n t = some (nI B) := by
  have hp := Nat.two_pow_pos n
  have ha : ((1 : Int32) <<< (nI n &&& 31)) - 1 = nI (2 ^ n - 1) := all_nI n (by omega)
  have ha2 := all_nI n (by omega)
  have h6 := pw16' hn
  unfold shN mshR
  rw [ha, ha2]
  by_cases hs : fn_V_stayFor g h q (nI (2 ^ n - 1)) = 0
  · refine ⟨0, 2 ^ n - 1, by omega, ?_, ?_⟩
    · rw [if_pos hs]
    · rw [if_pos (by rw [← stay_eq hq hd]; exact hs)]
  · obtain ⟨t, ht⟩ := ms_all (g := g) (h := h) hn hq hd hz 16 (2 ^ n - 1) (pc_le _ 16) (by omega)
    refine ⟨t, laN g h q 16 (2 ^ n - 1), Nat.lt_of_le_of_lt (laN_le g h q 16 _) (by omega), ?_, ?_⟩
    · rw [if_neg hs, la_laN g h q 16 _ (by omega)]
    · rw [if_neg (by rw [← stay_eq hq hd]; exact hs)]
      exact ht
end Whiles
end
section
theorem co_pc {B : Nat} (hB : B < 65536) : ∀ j, j ≤ 16 → co (nI B) j = nI (pc B j)
  | 0, _ => rfl
  | j + 1, hj => by
    simp only [co, pc]
    rw [co_pc hB j (by omega), shr_bit hB (by omega), nI_add]
    congr 2
    rw [Nat.testBit_eq_decide_div_mod_eq]
    by_cases e : B / 2 ^ j % 2 = 1
    · rw [e]; rfl
    · rw [if_neg (by simpa using e)]; omega
theorem lf_beyond {n B : Nat} (hB : B < 2 ^ n) (hB6 : B < 65536) (i : Int32) : ∀ m j x, n ≤ j → j + m ≤ 16 → lf (nI B) i m j x = -1
  | 0, _, _, _, _ => rfl
  | m + 1, j, x, h1, h2 => by
    have hb : B.testBit j = false := Nat.testBit_lt_two_pow (Nat.lt_of_lt_of_le hB (Nat.pow_le_pow_right (by decide) h1))
    simp only [lf]
    rw [if_pos ((and_bit hB6 (by omega)).mpr hb)]
    exact lf_beyond hB hB6 i m (j + 1) x (by omega) (by omega)
theorem lf_lm {n B : Nat} (hn : n ≤ 16) (hB : B < 2 ^ n) (i : Int32) : ∀ kk j x, j + kk = n → lf (nI B) i (kk + (16 - n)) j x = lm (nI B) i kk j x := by
  have hB6 : B < 65536 := Nat.lt_of_lt_of_le hB (pw16' hn)
  intro kk
  induction kk with
  | zero =>
    intro j x hj
    rw [Nat.zero_add, lf_beyond hB hB6 i (16 - n) j x (by omega) (by omega)]
    rfl
  | succ kk ih =>
    intro j x hj
    rw [show kk + 1 + (16 - n) = (kk + (16 - n)) + 1 by omega]
    simp only [lf, lm]
    by_cases hb : B.testBit j = true
    · rw [if_neg (fun z => by rw [(and_bit hB6 (by omega)).mp z] at hb; cases hb), if_pos ((shr_is1 hB6 (by omega)).mpr hb), ih (j + 1) (x + 1) (by omega)]
    · have hb' : B.testBit j = false := by simpa using hb
      rw [if_pos ((and_bit hB6 (by omega)).mpr hb'), if_neg (fun z => hb ((shr_is1 hB6 (by omega)).mp z)), ih (j + 1) x (by omega)]
theorem left_eq {n B : Nat} (hn : n ≤ 16) (hB : B < 2 ^ n) (i : Int32) : lf (nI B) i 16 0 0 = lm (nI B) i n 0 0 := by
  have e := lf_lm hn hB i n 0 0 (by omega)
  rw [show n + (16 - n) = 16 by omega] at e
  exact e
theorem mn_spec {g h : Nat → Int32} {q B : Nat} (hB : B < 65536) : ∀ kk j, j + kk ≤ 16 → (mn g h q (nI B) kk j = 1 ∧ ∀ i, j ≤ i → i < j + kk → rmv g h q B i = false) ∨ (mn g h q (nI B) kk j = 0 ∧ ∃ i, j ≤ i ∧ i < j + kk ∧ rmv g h q B i = true)
  | 0, j, _ => Or.inl ⟨rfl, fun i h1 h2 => absurd h2 (by omega)⟩
  | kk + 1, j, hj => by
    simp only [mn]
    by_cases hr : rmv g h q B j = true
    · rw [if_neg (fun z => by rw [(cl_eq g h q hB (by omega)).mp z] at hr; cases hr)]
      exact Or.inr ⟨rfl, j, by omega, by omega, hr⟩
    · have hr' : rmv g h q B j = false := by simpa using hr
      rw [if_pos ((cl_eq g h q hB (by omega)).mpr hr')]
      rcases mn_spec (g := g) (h := h) (q := q) hB kk (j + 1) (by omega) with ⟨a1, a2⟩ | ⟨a1, i, a2, a3, a4⟩
      · refine Or.inl ⟨a1, fun i h1 h2 => ?_⟩
        by_cases e : i = j
        · rw [e]; exact hr'
        · exact a2 i (by omega) (by omega)
      · exact Or.inr ⟨a1, i, by omega, by omega, a4⟩
theorem empty_iff {n : Nat} (hn : n ≤ 16) : fn_D_isEmpty n = 0 ↔ ¬ n = 0 := by
  unfold fn_D_isEmpty
  by_cases e : n = 0
  · subst e; decide
  · rw [if_neg (nI_ne0 (by omega) (by omega))]
    exact ⟨fun _ => e, fun _ => rfl⟩
theorem minimal_eq {g h : Nat → Int32} {q n B : Nat} (hn : n ≤ 16) (hq : q ≤ 100) (hd : Dst g q) (hz : ∀ i, i < q → ¬ g i = 0) (hB : B < 2 ^ n) : mnm n g h q (nI B) = fn_M_minimal n (nI B) q g h := by
  have hB6 : B < 65536 := Nat.lt_of_lt_of_le hB (pw16' hn)
  unfold mnm fn_M_minimal
  by_cases e : n = 0
  · subst e
    rw [if_neg (fun z => (empty_iff hn).mp z rfl), if_pos (by decide)]
  · rw [if_pos ((empty_iff hn).mpr e), if_neg (nI_nle (by omega) (by omega)), ← stay_eq hq hd]
    by_cases hs : fn_V_stayFor g h q (nI B) = 0
    · rw [if_pos hs, if_pos hs]
    · rw [if_neg hs, if_neg hs]
      rcases wo_spec (g := g) (h := h) hq hd hz hB6 (n - 0) 0 (by omega) with ⟨a1, -, a3⟩ | ⟨k, a1, a2, a3, a4, -⟩
      · rw [if_pos a1]
        rcases mn_spec (g := g) (h := h) (q := q) hB6 16 0 (by omega) with ⟨b1, -⟩ | ⟨-, i, b2, b3, b4⟩
        · exact b1
        · exfalso
          by_cases hi : i < n
          · rw [a3 i (by omega) (by omega)] at b4; cases b4
          · have hb : B.testBit i = false := Nat.testBit_lt_two_pow (Nat.lt_of_lt_of_le hB (Nat.pow_le_pow_right (by decide) (by omega)))
            unfold rmv at b4
            rw [hb, Bool.false_and] at b4
            cases b4
      · rw [if_neg (by rw [a3]; exact nI_nm1 (by omega))]
        rcases mn_spec (g := g) (h := h) (q := q) hB6 16 0 (by omega) with ⟨-, b2⟩ | ⟨b1, -⟩
        · rw [b2 k (by omega) (by omega)] at a4; cases a4
        · exact b1
/-- bits that are none of the parts' -/
theorem mask_iff {n : Nat} (hn : n ≤ 16) (x : Int32) : (x &&& (fn_D_allBits n ^^^ (-1))) = 0 ↔ (¬ x < 0 ∧ ¬ fn_D_allBits n < x) := by
  have hp := Nat.two_pow_pos n
  have h6 := pw16' hn
  rw [all_nI n (by omega)]
  obtain ⟨X, hX, rfl⟩ := wb_of32 x
  have key : (nI X &&& (nI (2 ^ n - 1) ^^^ (-1))) = 0 ↔ X < 2 ^ n := by
    constructor
    · intro h
      apply Nat.lt_pow_two_of_testBit
      intro i hi
      by_cases hi32 : i < 32
      · have e := congrArg (fun y => bt y i) h
        simp only [b_and, b_xor, b_m1 i hi32, bt_nI hi32, b_0, Nat.testBit_two_pow_sub_one] at e
        rw [decide_eq_false (by omega)] at e
        simpa using e
      · exact Nat.testBit_lt_two_pow (Nat.lt_of_lt_of_le hX (Nat.pow_le_pow_right (by decide) (by omega)))
    · intro h
      apply b_ext
      intro i hi
      rw [b_and, b_xor, b_m1 i hi, bt_nI hi, bt_nI hi, b_0, Nat.testBit_two_pow_sub_one]
      by_cases hin : i < n
      · rw [decide_eq_true hin]; simp
      · rw [Nat.testBit_lt_two_pow (Nat.lt_of_lt_of_le h (Nat.pow_le_pow_right (by decide) (by omega)))]; simp
  rw [key]
  by_cases hb : X < 2 ^ 31
  · rw [nI_ltI (by omega) hb]
    exact ⟨fun z => ⟨nI_pos hb, by omega⟩, fun z => by omega⟩
  · refine ⟨fun z => absurd z (by omega), fun z => absurd ?_ z.1⟩
    rw [Int32.lt_iff_toInt_lt]
    have e : (nI X).toInt = if 2 * X < 2 ^ 32 then (X : Int) else (X : Int) - 2 ^ 32 := by
      have c := BitVec.toInt_eq_toNat_cond (nI X).toBitVec
      have e2 : (nI X).toBitVec.toNat = X := pk_tn hX
      rw [e2] at c
      exact c
    rw [e, if_neg (by omega), show (0 : Int32).toInt = 0 by decide]
    omega
theorem vd_eq {n : Nat} (hn : n ≤ 16) (x : Int32) : mvd n x = vdc n x := by
  unfold mvd vdc fn_M_in
  by_cases e : n = 0
  · subst e
    rw [if_pos (by decide), if_neg (by decide)]
  · rw [if_neg (nI_ne0 (by omega) (by omega)), if_pos ((empty_iff hn).mpr e), show ((1 : Int32) <<< (nI n &&& 31)) - 1 = fn_D_allBits n from rfl]
    have hm := mask_iff hn x
    have l1 : (1 : Int32).toInt = 1 := by decide
    have l0 : (0 : Int32).toInt = 0 := by decide
    by_cases h0 : x = 0
    · rw [if_pos h0, if_pos (show x < 1 by rw [h0]; decide), if_pos rfl]
    · rw [if_neg h0]
      have hlt : x < 1 ↔ x < 0 := by
        have hne : ¬ x.toInt = 0 := fun z => h0 (Int32.toInt_inj.mp (z.trans l0.symm))
        rw [Int32.lt_iff_toInt_lt, Int32.lt_iff_toInt_lt, l1, l0]
        omega
      by_cases h1 : x < 0
      · rw [if_pos (hlt.mpr h1), if_pos rfl, if_neg (fun z => (hm.mp z).1 h1)]
      · rw [if_neg (fun z => h1 (hlt.mp z))]
        by_cases h2 : fn_D_allBits n < x
        · rw [if_pos h2, if_pos rfl, if_neg (fun z => (hm.mp z).2 h2)]
        · rw [if_neg h2, if_neg (by decide), if_pos (hm.mpr ⟨h1, h2⟩)]
theorem vd_0 {n : Nat} {x : Int32} (h : vdc n x = 0) : ¬ x = 0 := by
  intro e
  subst e
  unfold vdc at h
  split at h
  · rw [if_pos rfl] at h
    exact absurd h (by decide)
  · exact absurd h (by decide)
end
section
theorem xorM {x y : Int64} : (x ^^^ (-9223372036854775808)) = (y ^^^ (-9223372036854775808)) ↔ x = y := by
  constructor
  · intro h
    have e := congrArg (fun z : Int64 => z ^^^ (-9223372036854775808)) h
    simp only [Int64.xor_assoc, Int64.xor_self, Int64.xor_zero] at e
    exact e
  · intro h; rw [h]
theorem above_eq {n i j : Nat} {f : Nat → Int64} {sd : Int64} {k : Int32} (hn : n ≤ 16) (hi : i < n) (hj : j < n) (hf : ∀ i, i < n → f i = zN sd k (nI i)) (b : Int32) :
    (if fn_D_isAbove n f (nI j) (nI i) = 0 then b else b + 1) = (if fn_M_isLess (zN sd k (nI i)) (zN sd k (nI j)) = 0 then (if lg_cmp (zN sd k (nI i)) (zN sd k (nI j)) = 0 then (if nI j ≤ nI i then b else b + 1) else b) else b + 1) := by
  have e : fn_D_isAbove n f (nI j) (nI i) = if 0 < lg_cmp (zN sd k (nI j) ^^^ (-9223372036854775808)) (zN sd k (nI i) ^^^ (-9223372036854775808)) then 1 else (if lg_cmp (zN sd k (nI j) ^^^ (-9223372036854775808)) (zN sd k (nI i) ^^^ (-9223372036854775808)) = 0 then (if nI j ≤ nI i then 0 else 1) else 0) := by
    unfold fn_D_isAbove
    rw [has_nI hn hi, has_nI hn hj, if_neg (by decide), if_neg (by decide), nI_clamp (by omega), nI_clamp (by omega), hf i hi, hf j hj]
  rw [e]
  unfold fn_M_isLess
  generalize zN sd k (nI i) = zi
  generalize zN sd k (nI j) = zj
  have g1 := lg_cmp_gt (zj ^^^ (-9223372036854775808)) (zi ^^^ (-9223372036854775808))
  have g2 := lg_cmp_ge (zi ^^^ (-9223372036854775808)) (zj ^^^ (-9223372036854775808))
  have g3 := (lg_cmp_eq (zj ^^^ (-9223372036854775808)) (zi ^^^ (-9223372036854775808))).trans xorM
  have g4 := lg_cmp_eq zi zj
  by_cases h1 : (zi ^^^ (-9223372036854775808)) < (zj ^^^ (-9223372036854775808))
  · have h2 : ¬ (zj ^^^ (-9223372036854775808)) ≤ (zi ^^^ (-9223372036854775808)) := by
      rw [Int64.le_iff_toInt_le]
      rw [Int64.lt_iff_toInt_lt] at h1
      omega
    rw [if_pos (g1.mpr h1), if_neg (by decide), if_neg (fun z => h2 (g2.mp z)), if_neg (by decide)]
  · have h2 : (zj ^^^ (-9223372036854775808)) ≤ (zi ^^^ (-9223372036854775808)) := by
      rw [Int64.le_iff_toInt_le]
      rw [Int64.lt_iff_toInt_lt] at h1
      omega
    rw [if_neg (fun z => h1 (g1.mp z)), if_pos (g2.mpr h2), if_pos rfl]
    by_cases h3 : zj = zi
    · rw [if_pos (g3.mpr h3), if_pos (g4.mpr h3.symm)]
      by_cases h4 : nI j ≤ nI i
      · rw [if_pos h4, if_pos h4, if_pos rfl]
      · rw [if_neg h4, if_neg h4, if_neg (by decide)]
    · rw [if_neg (fun z => h3 (g3.mp z)), if_neg (fun z => h3 (g4.mp z).symm), if_pos rfl]
theorem ca_hbf {n i : Nat} {f : Nat → Int64} {sd : Int64} {k : Int32} (hn : n ≤ 16) (hi : i < n) (hf : ∀ i, i < n → f i = zN sd k (nI i)) : ∀ j, j ≤ n → ca n f (nI i) j = hbf sd k (nI i) j
  | 0, _ => rfl
  | j + 1, hj => by
    simp only [ca, hbf]
    rw [ca_hbf hn hi hf j (by omega)]
    exact above_eq hn hi (by omega) hf _
theorem or_bit {B j : Nat} (hB : B < 2 ^ j) (hj : j < 16) : nI B ||| ((1 : Int32) <<< (nI j &&& 31)) = nI (B ||| 2 ^ j) := by
  apply b_ext
  intro i hi
  rw [b_or, one_shl j hj, bt_nI hi, bt_nI hi, bt_nI hi, Nat.testBit_or]
theorem gh_bits {n : Nat} {f : Nat → Int64} : ∀ j, j ≤ 16 → ∃ B, B < 2 ^ j ∧ gh n f j = nI B ∧ ∀ i, i < j → (B.testBit i = true ↔ ¬ nI n / 2 ≤ ca n f (nI i) n)
  | 0, _ => ⟨0, by omega, rfl, fun i h => absurd h (by omega)⟩
  | j + 1, hj => by
    obtain ⟨B, h1, h2, h3⟩ := gh_bits (n := n) (f := f) j (by omega)
    have hb0 : B.testBit j = false := Nat.testBit_lt_two_pow h1
    simp only [gh]
    by_cases c : nI n / 2 ≤ ca n f (nI j) n
    · rw [if_pos c]
      refine ⟨B, Nat.lt_of_lt_of_le h1 (Nat.pow_le_pow_right (by decide) (by omega)), h2, fun i hi => ?_⟩
      by_cases e : i = j
      · subst e
        rw [hb0]
        exact ⟨fun z => (by cases z), fun z => absurd c z⟩
      · exact h3 i (by omega)
    · rw [if_neg c, h2, or_bit h1 (by omega)]
      refine ⟨B ||| 2 ^ j, Nat.or_lt_two_pow (Nat.lt_of_lt_of_le h1 (Nat.pow_le_pow_right (by decide) (by omega))) (Nat.pow_lt_pow_right (by decide) (by omega)), rfl, fun i hi => ?_⟩
      rw [Nat.testBit_or, Nat.testBit_two_pow]
      by_cases e : j = i
      · subst e
        rw [hb0, decide_eq_true rfl]
        exact ⟨fun _ => c, fun _ => rfl⟩
      · rw [decide_eq_false e, Bool.or_false]
        exact h3 i (by omega)
/-- the bits of the faults are the reference's answers -/
theorem fb_bits {n : Nat} {f : Nat → Int64} {sd : Int64} {k : Int32} (hn : n ≤ 16) (hf' : ∀ i, i < n → f i = zN sd k (nI i)) : ∃ B, B < 2 ^ n ∧ fbN k n f = nI B ∧ ∀ i, i < n → ((B.testBit i = true ∧ hf sd k n (nI i) = 1) ∨ (B.testBit i = false ∧ hf sd k n (nI i) = 0)) := by
  by_cases e : k = 3
  · obtain ⟨B, h1, h2, h3⟩ := gh_bits (n := n) (f := f) n hn
    refine ⟨B, h1, ?_, fun i hi => ?_⟩
    · unfold fbN
      rw [if_pos e, h2]
    · have hc := ca_hbf hn hi hf' n (Nat.le_refl _)
      have h4 := h3 i hi
      rw [hc] at h4
      unfold hf
      rw [if_pos e]
      by_cases c : nI n / 2 ≤ hbf sd k (nI i) n
      · rw [if_pos c]
        refine Or.inr ⟨?_, rfl⟩
        cases hb : B.testBit i
        · rfl
        · exact absurd c (h4.mp hb)
      · rw [if_neg c]
        exact Or.inl ⟨h4.mpr c, rfl⟩
  · refine ⟨0, Nat.two_pow_pos n, ?_, fun i hi => Or.inr ⟨Nat.zero_testBit i, ?_⟩⟩
    · unfold fbN
      rw [if_neg e]
      rfl
    · unfold hf
      rw [if_neg e]
theorem faults_eq {n i : Nat} {f : Nat → Int64} {sd : Int64} {k fb : Int32} (hn : n ≤ 16) (hi : i < n) (hf' : ∀ i, i < n → f i = zN sd k (nI i)) (hfb : fb = fbN k n f) : fn_D_hasFaults n fb (nI i) = hf sd k n (nI i) := by
  obtain ⟨B, h1, h2, h3⟩ := fb_bits hn hf'
  have h6 := pw16' hn
  unfold fn_D_hasFaults
  rw [has_nI hn hi, if_neg (by decide), hfb, h2, shr_bit (by omega) (by omega)]
  rcases h3 i hi with ⟨a1, a2⟩ | ⟨a1, a2⟩
  · rw [Nat.testBit_eq_decide_div_mod_eq, decide_eq_true_iff] at a1
    rw [a1, a2, if_neg (by decide)]
  · rw [Nat.testBit_eq_decide_div_mod_eq, decide_eq_false_iff_not] at a1
    rw [show B / 2 ^ i % 2 = 0 by omega, a2, if_pos (by decide)]
end
section
theorem noise_eq (sd : Int64) (a b c : Int32) : fn_P_noise sd a b c = fn_M_rest (zN sd (5 + a) ((12 * c) + b)) 33 - 16 := by
  unfold fn_P_noise
  generalize zN sd (5 + a) ((12 * c) + b) = z
  have h := uN_lt z
  have e := um_dbl z 33 (by omega) (by omega)
  have hm : uN z / 2 % 33 < 33 := Nat.mod_lt _ (by omega)
  have er : fn_M_rest z 33 = nI (uN z % 33) := restN z (d := 33) (by omega) (by omega)
  rw [sh1, show (33 : Int64) = lN 33 from rfl, e, rem_lN (by omega) (by omega) (by omega), lN_i, mod_dbl _ _ (by omega), er]
theorem ink_sgn : ∀ j, j < 10 → ink0 j = sgn j := by decide +kernel
theorem in12 (x : Int32) : fn_M_in x 0 11 = if x < 0 then 0 else if 12 ≤ x then 0 else 1 := by
  have l1 : (11 : Int32).toInt = 11 := by decide
  have l2 : (12 : Int32).toInt = 12 := by decide
  have key : (11 : Int32) < x ↔ (12 : Int32) ≤ x := by
    rw [Int32.lt_iff_toInt_lt, Int32.le_iff_toInt_le, l1, l2]
    omega
  unfold fn_M_in
  by_cases h : (12 : Int32) ≤ x
  · rw [if_pos (key.mpr h), if_pos h]
  · rw [if_neg (fun z => h (key.mp z)), if_neg h]
theorem in20 (x : Int32) : fn_M_in x 0 19 = if x < 0 then 0 else if x < 20 then 1 else 0 := by
  have l1 : (19 : Int32).toInt = 19 := by decide
  have l2 : (20 : Int32).toInt = 20 := by decide
  have key : (19 : Int32) < x ↔ ¬ x < (20 : Int32) := by
    rw [Int32.lt_iff_toInt_lt, Int32.lt_iff_toInt_lt, l1, l2]
    omega
  unfold fn_M_in
  by_cases h : x < (20 : Int32)
  · rw [if_neg (fun z => key.mp z h), if_pos h]
  · rw [if_pos (key.mpr h), if_neg h]
theorem and1_01 (x : Int32) : x &&& 1 = 0 ∨ x &&& 1 = 1 := by
  obtain ⟨j, hj, e⟩ := pk_andE x (m := 1) 1 (by decide)
  rw [e]
  rcases (show j = 0 ∨ j = 1 by omega) with rfl | rfl
  · exact Or.inl rfl
  · exact Or.inr rfl
theorem point_eq {n : Nat} {f : Nat → Int64} {sd : Int64} {k : Int32} (hn : n ≤ 16) (hf' : ∀ i, i < n → f i = zN sd k (nI i)) (a b c : Int32) : fn_P_point sd k n f a b c = fn_M_point sd n k ink0 a b c := by
  unfold fn_P_point fn_M_point
  by_cases hk : k = 1
  · rw [if_pos hk, if_pos hk, has_in_eq hn]
    by_cases hh : fn_D_has n a = 0
    · rw [if_pos hh, if_pos hh]
    · rw [if_neg hh, if_neg hh, in12, in20]
      by_cases h1 : b < 0
      · rw [if_pos h1, if_pos h1, if_pos rfl]
      · rw [if_neg h1, if_neg h1]
        by_cases h2 : 12 ≤ b
        · rw [if_pos h2, if_pos h2, if_pos rfl]
        · rw [if_neg h2, if_neg h2, if_neg (show ¬ (1 : Int32) = 0 by decide)]
          by_cases h3 : c < 0
          · rw [if_pos h3, if_pos h3, if_pos rfl]
          · rw [if_neg h3, if_neg h3]
            by_cases h4 : c < 20
            · rw [if_pos h4, if_pos h4, if_neg (show ¬ (1 : Int32) = 0 by decide)]
              obtain ⟨i, hi, rfl⟩ := has_get hn hh
              have e1 : fn_D_fact n f (nI i) 1 = fn_M_fact (zN sd 1 (nI i)) 1 := fact_eq hn hi (by rw [hf' i hi, hk]) (Or.inl rfl)
              have e2 : fn_M_fact (zN sd 1 (nI i)) 1 = nI (uN (zN sd 1 (nI i)) % 100) := by
                unfold fn_M_fact
                rw [if_pos rfl]
                exact restN _ (d := 100) (by omega) (by omega)
              have hm : uN (zN sd 1 (nI i)) % 100 < 100 := Nat.mod_lt _ (by omega)
              generalize uN (zN sd 1 (nI i)) % 100 = w at e2 hm
              have e3 : nI w - nI w / 10 * 10 = nI (w % 10) := pk_rem (d := 10) (by omega) (by omega) (by omega)
              have hm2 : w % 10 < 10 := Nat.mod_lt _ (by omega)
              rw [e1, e2, e3, nI_clamp (by omega), ink_sgn _ hm2]
              unfold fn_P_isInked
              have hlt : nI (w % 10) < 10 := nI_lt (b := 10) hm2 (by omega)
              rw [if_neg (nI_pos (by omega)), if_pos hlt, nI_clamp (by omega), noise_eq]
              have e4 : (14 : Int32) - (3 * (c / 4)) - (b / 4) = 14 - ((3 * (c / 4)) + (b / 4)) := by
                rw [Int32.sub_sub]
              rw [e4]
              have ea : ∀ p r : Int32, p + r - 16 = p + (r - 16) := fun p r => by
                rw [Int32.sub_eq_add_neg, Int32.sub_eq_add_neg, Int32.add_assoc]
              rcases and1_01 (sgn (w % 10) >>> ((14 - ((3 * (c / 4)) + (b / 4))) &&& 31)) with z | z
              · rw [z, if_pos rfl, if_pos rfl, if_neg (show ¬ (0 : Int32) = 1 by decide), ea]
              · rw [z, if_neg (show ¬ (1 : Int32) = 0 by decide), if_neg (show ¬ (1 : Int32) = 0 by decide), if_pos rfl, ea]
            · rw [if_neg h4, if_neg h4, if_pos rfl]
  · rw [if_neg hk, if_neg hk]
end
section
theorem hi_spec {n : Nat} {f f2 : Nat → Int64} {i : Nat} : ∀ kk w, (hi n f n f2 i kk w = true ↔ ∀ v, w ≤ v → v < w + kk → fn_D_fact n f (nI i) (nI v) = fn_D_fact n f2 (nI i) (nI v))
  | 0, w => ⟨fun _ v h1 h2 => absurd h2 (by omega), fun _ => rfl⟩
  | kk + 1, w => by
    have ih := hi_spec (n := n) (f := f) (f2 := f2) (i := i) kk (w + 1)
    simp only [hi]
    by_cases e : fn_D_fact n f (nI i) (nI w) = fn_D_fact n f2 (nI i) (nI w)
    · rw [if_pos e, ih]
      constructor
      · intro h v h1 h2
        by_cases e2 : v = w
        · rw [e2]; exact e
        · exact h v (by omega) (by omega)
      · intro h v h1 h2
        exact h v (by omega) (by omega)
    · rw [if_neg e]
      exact ⟨fun z => (by cases z), fun h => absurd (h w (by omega) (by omega)) e⟩
theorem ho_spec {n : Nat} {f f2 : Nat → Int64} : ∀ kk i, (ho n f n f2 kk i = true ↔ ∀ j, i ≤ j → j < i + kk → hi n f n f2 j 4 1 = true)
  | 0, i => ⟨fun _ j h1 h2 => absurd h2 (by omega), fun _ => rfl⟩
  | kk + 1, i => by
    have ih := ho_spec (n := n) (f := f) (f2 := f2) kk (i + 1)
    simp only [ho]
    by_cases e : hi n f n f2 i 4 1 = true
    · rw [if_pos e, ih]
      constructor
      · intro h v h1 h2
        by_cases e2 : v = i
        · rw [e2]; exact e
        · exact h v (by omega) (by omega)
      · intro h v h1 h2
        exact h v (by omega) (by omega)
    · rw [if_neg e]
      exact ⟨fun z => (by cases z), fun h => absurd (h i (by omega) (by omega)) e⟩
theorem si_0 (s1 ns : Int64) (k : Int32) (i : Nat) : ∀ kk w, si s1 ns k i kk w 0 = 0
  | 0, _ => rfl
  | kk + 1, w => by
    simp only [si]
    rw [if_pos trivial]
    exact si_0 s1 ns k i kk (w + 1)
theorem si_spec (s1 ns : Int64) (k : Int32) (i : Nat) : ∀ kk w, (si s1 ns k i kk w 1 = 1 ∧ ∀ v, w ≤ v → v < w + kk → fn_M_fact (zN s1 k (nI i)) (nI v) = fn_M_fact (zN ns k (nI i)) (nI v)) ∨ (si s1 ns k i kk w 1 = 0 ∧ ∃ v, w ≤ v ∧ v < w + kk ∧ ¬ fn_M_fact (zN s1 k (nI i)) (nI v) = fn_M_fact (zN ns k (nI i)) (nI v))
  | 0, w => Or.inl ⟨rfl, fun v h1 h2 => absurd h2 (by omega)⟩
  | kk + 1, w => by
    simp only [si]
    rw [if_neg (show ¬ (1 : Int32) = 0 by decide)]
    by_cases e : fn_M_fact (zN s1 k (nI i)) (nI w) = fn_M_fact (zN ns k (nI i)) (nI w)
    · rw [if_pos e]
      rcases si_spec s1 ns k i kk (w + 1) with ⟨a1, a2⟩ | ⟨a1, v, a2, a3, a4⟩
      · refine Or.inl ⟨a1, fun v h1 h2 => ?_⟩
        by_cases e2 : v = w
        · rw [e2]; exact e
        · exact a2 v (by omega) (by omega)
      · exact Or.inr ⟨a1, v, by omega, by omega, a4⟩
    · rw [if_neg e, si_0]
      exact Or.inr ⟨rfl, w, by omega, by omega, e⟩
theorem so_0 (s1 ns : Int64) (k : Int32) (n1 : Nat) : ∀ kk i, so s1 ns k n1 kk i 0 = 0
  | 0, _ => rfl
  | kk + 1, i => by
    simp only [so]
    rw [if_pos trivial]
theorem so_spec (s1 ns : Int64) (k : Int32) (n1 : Nat) : ∀ kk i, (so s1 ns k n1 kk i 1 = 1 ∧ ∀ j, i ≤ j → j < i + kk → (si s1 ns k j 4 1 1 = 1 ∧ hf s1 k n1 (nI j) = hf ns k n1 (nI j))) ∨ (so s1 ns k n1 kk i 1 = 0 ∧ ∃ j, i ≤ j ∧ j < i + kk ∧ ¬ (si s1 ns k j 4 1 1 = 1 ∧ hf s1 k n1 (nI j) = hf ns k n1 (nI j)))
  | 0, i => Or.inl ⟨rfl, fun j h1 h2 => absurd h2 (by omega)⟩
  | kk + 1, i => by
    simp only [so]
    rw [if_neg (show ¬ (1 : Int32) = 0 by decide)]
    by_cases e : si s1 ns k i 4 1 1 = 1 ∧ hf s1 k n1 (nI i) = hf ns k n1 (nI i)
    · rw [e.1, if_neg (show ¬ (1 : Int32) = 0 by decide), if_pos e.2]
      rcases so_spec s1 ns k n1 kk (i + 1) with ⟨a1, a2⟩ | ⟨a1, v, a2, a3, a4⟩
      · refine Or.inl ⟨a1, fun v h1 h2 => ?_⟩
        by_cases e2 : v = i
        · rw [e2]; exact e
        · exact a2 v (by omega) (by omega)
      · exact Or.inr ⟨a1, v, by omega, by omega, a4⟩
    · refine Or.inr ⟨?_, i, by omega, by omega, e⟩
      rcases si_spec s1 ns k i 4 1 with ⟨b1, -⟩ | ⟨b1, -⟩
      · rw [b1, if_neg (show ¬ (1 : Int32) = 0 by decide), if_neg (fun z => e ⟨b1, z⟩), so_0]
      · rw [b1, if_pos rfl, so_0]
theorem w14 {v : Nat} (h1 : 1 ≤ v) (h2 : v < 1 + 4) : nI v = 1 ∨ nI v = 2 ∨ nI v = 3 ∨ nI v = 4 := by
  rcases (show v = 1 ∨ v = 2 ∨ v = 3 ∨ v = 4 by omega) with rfl | rfl | rfl | rfl
  · exact Or.inl rfl
  · exact Or.inr (Or.inl rfl)
  · exact Or.inr (Or.inr (Or.inl rfl))
  · exact Or.inr (Or.inr (Or.inr rfl))
theorem same_eq {n : Nat} {f f2 : Nat → Int64} {ns s1 : Int64} {k : Int32} (hn : n ≤ 16) (h1 : ∀ i, i < n → f i = zN ns k (nI i)) (h2 : ∀ i, i < n → f2 i = zN s1 k (nI i)) : hsp n (fbN k n f) f n (fbN k n f2) f2 = so s1 ns k n n 0 1 := by
  obtain ⟨B1, b1, b2, b3⟩ := fb_bits hn h1
  obtain ⟨B2, c1, c2, c3⟩ := fb_bits hn h2
  have h6 := pw16' hn
  have facts : ∀ j, j < n → (hi n f n f2 j 4 1 = true ↔ si s1 ns k j 4 1 1 = 1) := by
    intro j hj
    have e : ∀ v, 1 ≤ v → v < 1 + 4 → (fn_D_fact n f (nI j) (nI v) = fn_D_fact n f2 (nI j) (nI v) ↔ fn_M_fact (zN s1 k (nI j)) (nI v) = fn_M_fact (zN ns k (nI j)) (nI v)) := by
      intro v v1 v2
      rw [fact_eq hn hj (h1 j hj) (w14 v1 v2), fact_eq hn hj (h2 j hj) (w14 v1 v2)]
      exact ⟨fun z => z.symm, fun z => z.symm⟩
    rw [hi_spec]
    rcases si_spec s1 ns k j 4 1 with ⟨a1, a2⟩ | ⟨a1, v, a2, a3, a4⟩
    · exact ⟨fun _ => a1, fun _ v v1 v2 => (e v v1 v2).mpr (a2 v v1 v2)⟩
    · refine ⟨fun z => absurd ((e v a2 a3).mp (z v a2 a3)) a4, fun z => ?_⟩
      rw [a1] at z
      exact absurd z (by decide)
  unfold hsp
  rw [b2, c2]
  rcases so_spec s1 ns k n n 0 with ⟨a1, a2⟩ | ⟨a1, j, a2, a3, a4⟩
  · have hh : ho n f n f2 n 0 = true := (ho_spec n 0).mpr (fun j _ hj => (facts j (by omega)).mpr (a2 j (by omega) (by omega)).1)
    have hB : B1 = B2 := by
      apply Nat.eq_of_testBit_eq
      intro i
      by_cases hi : i < n
      · have e := (a2 i (by omega) (by omega)).2
        rcases b3 i hi with ⟨p1, p2⟩ | ⟨p1, p2⟩ <;> rcases c3 i hi with ⟨r1, r2⟩ | ⟨r1, r2⟩
        · rw [p1, r1]
        · rw [p2, r2] at e; exact absurd e (by decide)
        · rw [p2, r2] at e; exact absurd e (by decide)
        · rw [p1, r1]
      · rw [Nat.testBit_lt_two_pow (Nat.lt_of_lt_of_le b1 (Nat.pow_le_pow_right (by decide) (by omega))), Nat.testBit_lt_two_pow (Nat.lt_of_lt_of_le c1 (Nat.pow_le_pow_right (by decide) (by omega)))]
    rw [if_pos hh, hB, if_pos rfl, a1]
  · rw [a1]
    by_cases hh : ho n f n f2 n 0 = true
    · rw [if_pos hh, if_neg]
      intro e
      have hB : B1 = B2 := (nI_eq (by omega) (by omega)).mp e
      apply a4
      refine ⟨(facts j (by omega)).mp ((ho_spec n 0).mp hh j (by omega) (by omega)), ?_⟩
      have hj : j < n := by omega
      rcases b3 j hj with ⟨p1, p2⟩ | ⟨p1, p2⟩ <;> rcases c3 j hj with ⟨r1, r2⟩ | ⟨r1, r2⟩
      · rw [p2, r2]
      · rw [hB, r1] at p1; cases p1
      · rw [hB, r1] at p1; cases p1
      · rw [p2, r2]
    · rw [if_neg hh]
theorem part_eq {n : Nat} {f : Nat → Int64} {sd : Int64} {k fb : Int32} (hn : n ≤ 16) (hf' : ∀ i, i < n → f i = zN sd k (nI i)) (hfb : 0 < n → fb = fbN k n f) (a b : Int32) : fn_P_part n fb f a b = fn_M_part sd n k a b := by
  have l4 : (4 : Int32).toInt = 4 := by decide
  have l0 : (0 : Int32).toInt = 0 := by decide
  unfold fn_P_part fn_M_part
  rw [has_in_eq hn]
  by_cases hh : fn_D_has n a = 0
  · rw [if_pos hh, if_pos hh]
  · obtain ⟨i, hi, rfl⟩ := has_get hn hh
    rw [if_neg hh, if_neg hh]
    unfold fn_M_in
    by_cases h1 : b < 0
    · rw [if_pos h1, if_pos h1, if_pos rfl]
    · rw [if_neg h1, if_neg h1]
      by_cases h2 : b ≤ 4
      · have h3 : ¬ 4 < b := by
          rw [Int32.lt_iff_toInt_lt]
          rw [Int32.le_iff_toInt_le] at h2
          omega
        rw [if_pos h2, if_neg h3, if_neg (show ¬ (1 : Int32) = 0 by decide)]
        by_cases h4 : b = 0
        · rw [if_pos h4, if_pos h4, faults_eq hn hi hf' (hfb (by omega))]
        · rw [if_neg h4, if_neg h4]
          refine fact_eq hn hi (hf' i hi) ?_
          obtain ⟨j, hj, rfl⟩ := nI_of h1
          have hj4 : j ≤ 4 := (nI_leI (b := 4) hj (by omega)).mp h2
          have hj0 : ¬ j = 0 := fun z => h4 (by rw [z]; rfl)
          exact w14 (by omega) (by omega)
      · have h3 : 4 < b := by
          rw [Int32.lt_iff_toInt_lt]
          rw [Int32.le_iff_toInt_le] at h2
          omega
        rw [if_neg h2, if_pos h3, if_pos rfl]
theorem faultless_eq {n : Nat} {f : Nat → Int64} {sd : Int64} {k fb : Int32} (hn : n ≤ 16) (hf' : ∀ i, i < n → f i = zN sd k (nI i)) (hfb : 0 < n → fb = fbN k n f) (a : Int32) : fn_P_faultless k n fb a = fn_M_faultless sd n k a := by
  unfold fn_P_faultless fn_M_faultless
  by_cases hk : k = 3
  · rw [if_pos hk, if_pos hk, has_in_eq hn]
    by_cases hh : fn_D_has n a = 0
    · rw [if_pos hh, if_pos hh]
    · obtain ⟨i, hi, rfl⟩ := has_get hn hh
      rw [if_neg hh, if_neg hh, faults_eq hn hi hf' (hfb (by omega))]
  · rw [if_neg hk, if_neg hk]
end
section
theorem bc_pc {B : Nat} (hB : B < 65536) : fn_J_bitCount (nI B) = nI (pc B 16) := by
  sorry
/-- what the class's state and the reference's have to do with each other -/
def Rel (n : Nat) (sd : Int64) (k fb : Int32) (f : Nat → Int64) (sdM : Int64) (kM : Int32) (g : Nat → Int32) (q B : Nat) : Prop :=
  n ≤ 16 ∧ q ≤ 100 ∧ Dst g q ∧ (∀ i, i < q → ¬ g i = 0) ∧ B < 2 ^ n ∧ ((n = 0 ∧ k = -1 ∧ kM = 0) ∨ (sd = sdM ∧ k = kM ∧ (∀ i, i < n → f i = zN sd k (nI i)) ∧ fb = fbN k n f))
theorem rel_part {n : Nat} {sd : Int64} {k fb : Int32} {f : Nat → Int64} {sdM : Int64} {kM : Int32} {g : Nat → Int32} {q B : Nat} (h : Rel n sd k fb f sdM kM g q B) (a b : Int32) : fn_P_part n fb f a b = fn_M_part sdM n kM a b := by
  obtain ⟨hn, -, -, -, -, h⟩ := h
  rcases h with ⟨h1, -, -⟩ | ⟨h1, h2, h3, h4⟩
  · subst h1
    exact part_eq hn (fun i hi => absurd hi (by omega)) (fun z => absurd z (by omega)) a b
  · subst h1 h2
    exact part_eq hn h3 (fun _ => h4) a b
theorem rel_point {n : Nat} {sd : Int64} {k fb : Int32} {f : Nat → Int64} {sdM : Int64} {kM : Int32} {g : Nat → Int32} {q B : Nat} (h : Rel n sd k fb f sdM kM g q B) (a b c : Int32) : fn_P_point sd k n f a b c = fn_M_point sdM n kM ink0 a b c := by
  obtain ⟨hn, -, -, -, -, h⟩ := h
  rcases h with ⟨-, h1, h2⟩ | ⟨h1, h2, h3, h4⟩
  · subst h1 h2
    unfold fn_P_point fn_M_point
    rw [if_neg (show ¬ (-1 : Int32) = 1 by decide), if_neg (show ¬ (0 : Int32) = 1 by decide)]
  · subst h1 h2
    exact point_eq hn h3 a b c
theorem rel_faultless {n : Nat} {sd : Int64} {k fb : Int32} {f : Nat → Int64} {sdM : Int64} {kM : Int32} {g : Nat → Int32} {q B : Nat} (h : Rel n sd k fb f sdM kM g q B) (a : Int32) : fn_P_faultless k n fb a = fn_M_faultless sdM n kM a := by
  obtain ⟨hn, -, -, -, -, h⟩ := h
  rcases h with ⟨-, h1, h2⟩ | ⟨h1, h2, h3, h4⟩
  · subst h1 h2
    unfold fn_P_faultless fn_M_faultless
    rw [if_neg (show ¬ (-1 : Int32) = 3 by decide), if_neg (show ¬ (0 : Int32) = 3 by decide)]
  · subst h1 h2
    exact faultless_eq hn h3 (fun _ => h4) a
theorem rel_draw {sd : Int64} {k : Int32} {f : Nat → Int64} {g : Nat → Int32} {z : Nat} (hz : z < 16) : Rel (z + 1) sd k (fbN k (z + 1) (fl sd k f (z + 1))) (fl sd k f (z + 1)) sd k g 0 (2 ^ (z + 1) - 1) := by
  have hp := Nat.two_pow_pos (z + 1)
  exact ⟨by omega, by omega, fun i j hi => absurd hi (by omega), fun i hi => absurd hi (by omega), by omega, Or.inr ⟨rfl, rfl, fun i hi => fl_at sd k f (z + 1) i hi, rfl⟩⟩
theorem rel_0 {sd : Int64} {fb : Int32} {f : Nat → Int64} {sdM : Int64} {g : Nat → Int32} : Rel 0 sd (-1) fb f sdM 0 g 0 0 :=
  ⟨by omega, by omega, fun i j hi => absurd hi (by omega), fun i hi => absurd hi (by omega), by decide, Or.inl ⟨rfl, rfl, rfl⟩⟩
end
section
-- ===== end of PART A; then your names; then what follows =====
/-! THE CLAIM OUT OF ONE WALK OF THE LAW'S BODY. Your part is whole_start (and what it stands on); all else here is the same for every law, but numbers. -/
def R_law : String := "PostDrawerLaw"
def lw_P (b : Addr) (xs : List Int32) (args : Array Value) (s : State) : Prop := args = #[.ref b] ∧ s.IntsAt b xs ∧ xs.length ≤ 2561 ∧ (Jvm.Cond.and given_1 narrow_1).before args s = true
def lw_Q (_ : Array Value) (s : State) (o : Outcome) (t : State) : Prop := o = .returned (some (.int 1)) ∧ Framed s o t [] 14 492
def lw_Z (below : List Frame) (a : Array Value) (s : State) : State → Prop := fun t => ∃ o, t.status = .running ∧ Ended t below o ∧ lw_Q a s o t
/-- the law's own end, with 1 on the stack, nothing written that was there before, its room as the claim has it -/
theorem lw_ret {p : Program} {l : Launch} {e : Env} {s : State} {m : MethodId} {below : List Frame} {meth : Method} {c : Code} {b : Nat} (hx : p.tables.exec = Jvm.exec) (hb : c.code = code) (hr : meth.sig.returnType = ret) (hlocks : meth.locks = false) {pc : Nat} {H : Heap} {ls : Array Slot} (hdg : decode code pc = .ok (.ireturn, 1)) : W p l e room_1 s m #[Value.ref b] below meth c H [] 14 492 (lw_Z below #[Value.ref b] s) (F0 m pc ls [.int 1]) := by
  intro T hT X
  obtain ⟨fs, hret, hrun, hended, hW, hframe⟩ := X.leave (v := some (.int 1)) (hlocks := hlocks) (fun h => by rw [hr] at h; cases h)
  have hmeth' : T.vm.method? m = some meth := X.method'
  refine ⟨T.setFrames fs, ?_, .returned (some (.int 1)), hrun, hended, rfl, ⟨_, rfl⟩, hW, hframe⟩
  jvm_step X.here [X.here.top, hx, hb, hdg, hmeth', hr, ret, narrow_b1]
  (try refine ⟨rfl, ?_⟩); (try refine ⟨rfl, ?_⟩)
  first | (intro acts; rw [hret _ acts rfl rfl rfl]) | rw [hret _ _ rfl rfl rfl]
  exact Steps.refl _
/-- what holds at the law's entry: the machine, the code, the tables' words (any of lw_tbl by 'hts w (by decide +kernel)'), the script of L ints xs at the cell b, what the Statement gives of the start (any of its parts by flat_of_before) -/
def lw_At (p : Program) (s : State) (m : MethodId) (meth : Method) (c : Code) (b L : Nat) (xs : Nat → Int32) : Prop :=
  p.tables.exec = Jvm.exec ∧ c.code = code ∧ meth.sig.returnType = ret ∧ c.maxLocals = 4 ∧ s.vm.findClass R_law = some m.cls ∧ (∀ w ∈ lw_tbl, w.before #[Value.ref b] s = true) ∧ va_X b L xs s s.heap ∧ b < s.heap.size ∧ meth.locks = false ∧ (Jvm.Cond.and given_1 narrow_1).before #[Value.ref b] s = true
end
section
/-- the two objects, their states related -/
def Wd (G : GT) (A : Nat → Prop) (x mm : Nat) (H : Heap) : Prop := ∃ (d1 : Nat) (d2 : Nat) (v1 : Nat) (v2 : Nat) (v3 : Nat) (o1 : Nat) (t1 : Nat) (sd : Int64) (k : Int32) (n : Nat) (fb : Int32) (f : Nat → Int64) (g : Nat → Int32) (h : Nat → Int32) (q : Nat) (ns : Int64) (B : Nat) (o2 : Nat) (sO : Int64) (kO : Int32) (nO : Nat) (bO : Int32) (fO : Nat → Int64) (t2 : Nat) (sT : Int64) (kT : Int32) (nT : Nat) (bT : Int32) (fT : Nat → Int64) (w1 : Nat) (w2 : Nat) (w3 : Nat) (sdM : Int64) (kM : Int32), va_P G.1 classes [(x, .inr (0, [.ref d1, .ref v1, .ref o1, .ref t1, .long ns, .int (nI B)])), (d1, .inr (1, [.ref d2, .long sd, .int k, .int (nI n), .int fb])), (d2, .inl (G.2.1, 16, .inr (.inl f))), (v1, .inr (2, [.ref v2, .ref v3, .int (nI q)])), (v2, .inl (G.2.2.1, 100, .inl g)), (v3, .inl (G.2.2.2, 100, .inl h)), (o1, .inr (1, [.ref o2, .long sO, .int kO, .int (nI nO), .int bO])), (o2, .inl (G.2.1, 16, .inr (.inl fO))), (t1, .inr (1, [.ref t2, .long sT, .int kT, .int (nI nT), .int bT])), (t2, .inl (G.2.1, 16, .inr (.inl fT))), (mm, .inr (3, [.int 0, .long ns, .long sdM, .int (nI n), .int kM, .int (nI B), .int (nI q), .ref w1, .ref w2, .ref w3])), (w1, .inl (G.2.2.1, 100, .inl g)), (w2, .inl (G.2.2.2, 100, .inl h)), (w3, .inl (G.2.2.1, 10, .inl ink0))] H ∧ va_D A [(x, .inr (0, [.ref d1, .ref v1, .ref o1, .ref t1, .long ns, .int (nI B)])), (d1, .inr (1, [.ref d2, .long sd, .int k, .int (nI n), .int fb])), (d2, .inl (G.2.1, 16, .inr (.inl f))), (v1, .inr (2, [.ref v2, .ref v3, .int (nI q)])), (v2, .inl (G.2.2.1, 100, .inl g)), (v3, .inl (G.2.2.2, 100, .inl h)), (o1, .inr (1, [.ref o2, .long sO, .int kO, .int (nI nO), .int bO])), (o2, .inl (G.2.1, 16, .inr (.inl fO))), (t1, .inr (1, [.ref t2, .long sT, .int kT, .int (nI nT), .int bT])), (t2, .inl (G.2.1, 16, .inr (.inl fT))), (mm, .inr (3, [.int 0, .long ns, .long sdM, .int (nI n), .int kM, .int (nI B), .int (nI q), .ref w1, .ref w2, .ref w3])), (w1, .inl (G.2.2.1, 100, .inl g)), (w2, .inl (G.2.2.2, 100, .inl h)), (w3, .inl (G.2.2.1, 10, .inl ink0))] ∧ Rel n sd k fb f sdM kM g q B ∧ nO ≤ 16 ∧ nT ≤ 16
/-- what holds all along the law's walk -/
def LC (p : Program) (s : State) (m : MethodId) (meth : Method) (c : Code) (b L : Nat) (xs : Nat → Int32) (G : GT) (A : Nat → Prop) (tt : Nat) : Prop :=
  p.tables.exec = Jvm.exec ∧ c.code = code ∧ meth.sig.returnType = ret ∧ c.maxLocals = 4 ∧ s.vm.findClass R_L = some m.cls ∧ (∀ w ∈ TG, w.before #[Value.ref b] s = true) ∧ KN G s ∧ va_X b L xs s s.heap ∧ b < s.heap.size ∧ meth.locks = false ∧ (∀ q : Nat, s.heap.size ≤ q → A q) ∧ ¬ A b ∧ va_Z "PostDrawer" "SIGNS" "[I" (.ref tt) A s s.heap ∧ va_T .int tt 10 (fun j => .int (sgn j)) A s s.heap
def c0 (L : Nat) (xs : Nat → Int32) : Int32 := if Int32.ofNat L ≤ 0 then 0 else xs 0
set_option maxHeartbeats 4000000 in
set_option maxRecDepth 100000 in
theorem c_L_cell (l : Launch) (G : GT) (H : Heap) (b L : Nat) (xs : Nat → Int32) (hL : L ≤ 2561) : Met l y_L_cell (Cond.code y_L_cell b_L_cell 2 (some .int) :: TG) ({ frames := 0, cells := 0, slots := 0, locals := 0 }) (PCX G H b L xs [.ref b, .int 0]) (QcRead (c0 L xs)) 0 0 (fun _ => False) := by
  refine Met.ofW (cc := b_L_cell) (maxL := 2) (ret := (some .int)) (by decide) rfl ?_
  intro p e s m args below meth c s₁ B hml hv
  obtain ⟨rfl, hH, hKN, hX⟩ := hv
  subst hH
  have hx := B.exec
  have hb := B.bytes
  have hr := B.returns
  have hts := atoms_spec (ws := (Cond.code y_L_cell b_L_cell 2 (some .int) :: TG)) B.pre
  have ht : ∀ w ∈ TG, w.before _ s = true := fun w h => hts w (List.mem_cons_of_mem _ h)
  have hown : s.vm.findClass R_L = some m.cls := findClass_of_methodNamed B.named
  have hlocks := B.notSynchronized
  have hK := hKN.1
  have hl := lv_entry ([.ref b, .int 0]) (n := 2) (Nat.le_of_ble_eq_true rfl)
  rw [lg_entry_eq]
  generalize (lg_sl ([.ref b, .int 0]) ++ List.replicate (2 - (lg_sl ([.ref b, .int 0])).length) Slot.unset).toArray = ls at hl ⊢
  have hl : lv_has ls 2 [(0, .ref b), (1, .int 0)] := hl
  have hS : va_S (fun _ => False) s.heap s.heap [] := va_S.rf
  have hbl : b < s.heap.size := by
    obtain ⟨scr, h1, -⟩ := hX
    exact (Array.getElem?_eq_some_iff.mp h1).1
  refine lv_iload_n hx hb d_L_cell_0 rfl (lv_at hl 1 rfl) ?_
  refine lv_aload_n hx hb d_L_cell_1 rfl (lv_at hl 0 rfl) ?_
  refine va_slen hx hb hX hbl (fun z => z) hS d_L_cell_2 ?_
  refine lv_icmp_ge (tgt := 12) hx hb d_L_cell_3 (by decide) (fun c1 => ?_) (fun c1 => ?_)
  · refine lv_iconst (v := 0) hx hb d_L_cell_12 (by decide) ?_
    exact W.iret (v := 0) hx hb hr (fun t h9 _ => ⟨congrArg (fun z => Outcome.returned (some (Value.int z))) (by unfold c0; rw [if_pos c1]), h9⟩) (fun _ h => nomatch h) d_L_cell_13
  · refine lv_aload_n hx hb d_L_cell_6 rfl (lv_at hl 0 rfl) ?_
    refine lv_iload_n hx hb d_L_cell_7 rfl (lv_at hl 1 rfl) ?_
    refine va_sld hx hb hX hbl (fun z => z) hS (i := 0) (vp_in_nI (n := 0) (show 0 < L from Nat.pos_of_ne_zero (fun z => c1 (by rw [z]; decide))) (by omega)) d_L_cell_8 ?_
    refine lv_goto (tgt := 13) hx hb d_L_cell_9 (by decide) ?_
    exact W.iret (v := (xs 0)) hx hb hr (fun t h9 _ => ⟨congrArg (fun z => Outcome.returned (some (Value.int z))) (by unfold c0; rw [if_neg c1]), h9⟩) (fun _ h => nomatch h) d_L_cell_13
end
section
set_option maxHeartbeats 4000000 in
set_option maxRecDepth 100000 in
theorem law_case0 {p : Program} {l : Launch} {e : Env} {s : State} {m : MethodId} {below : List Frame} {meth : Method} {c : Code} {b L : Nat} {xs : Nat → Int32} {G : GT} {A : Nat → Prop} {tt : Nat} (hL : L ≤ 2561) (C : LC p s m meth c b L xs G A tt) {i x mm : Nat} (hi : i + 5 ≤ L) {H : Heap} {locs : List Loc} {ls : Array Slot} (hW : Wd G A x mm H) (hS : va_S A s.heap H locs) (hl : lv_has ls 4 [(0, .ref b), (1, .ref x), (2, .ref mm), (3, .int (nI i))])
    (next : ∀ (H : Heap) (locs : List Loc) (ls : Array Slot), Wd G A x mm H → va_S A s.heap H locs → lv_has ls 4 [(0, .ref b), (1, .ref x), (2, .ref mm), (3, .int (nI i))] → W p l e room_1 s m #[Value.ref b] below meth c H locs 14 492 (lw_Z below #[Value.ref b] s) (F0 m 453 ls [])) : W p l e room_1 s m #[Value.ref b] below meth c H locs 14 492 (lw_Z below #[Value.ref b] s) (F0 m 96 ls []) := by
  obtain ⟨hx, hb, hr, hml, hown, ht, hKN, hX, hbl, hlocks, hA, hbA, hZ, hT⟩ := C
  have hK := hKN.1
  obtain ⟨d1, d2, v1, v2, v3, o1, t1, sd, k, n, fb, f, g, h, q, ns, B, o2, sO, kO, nO, bO, fO, t2, sT, kT, nT, bT, fT, w1, w2, w3, sdM, kM, hP, hD, hR, hnO, hnT⟩ := hW
  obtain ⟨hn, hq, hd, hz, hB, hk⟩ := id hR
  refine lv_aload_n hx hb d_L_law_96 rfl (lv_at hl 1 rfl) ?_
  refine lv_aload_n hx hb d_L_law_97 rfl (lv_at hl 0 rfl) ?_
  refine lv_iload_n hx hb d_L_law_98 rfl (lv_at hl 3 rfl) ?_
  refine lv_iconst (v := 1) hx hb d_L_law_99 (by decide) ?_
  refine lv_iadd hx hb d_L_law_100 ?_
  rw [show nI i + 1 = nI (i + 1) from nI_add i 1]
  refine va_sld hx hb hX hbl hbA hS (i := nI (i + 1)) (vp_in_nI (show (i + 1) < L by omega) (by omega)) d_L_law_101 ?_
  rw [nI_clamp (show (i + 1) < 2 ^ 31 by omega)]
  refine lv_i2l hx hb d_L_law_102 rfl ?_
  refine lv_bipush (v := 32) hx hb d_L_law_103 (by decide) ?_
  refine lv_lshl hx hb d_L_law_105 rfl ?_
  refine lv_aload_n hx hb d_L_law_106 rfl (lv_at hl 0 rfl) ?_
  refine lv_iload_n hx hb d_L_law_107 rfl (lv_at hl 3 rfl) ?_
  refine lv_iconst (v := 2) hx hb d_L_law_108 (by decide) ?_
  refine lv_iadd hx hb d_L_law_109 ?_
  rw [show nI i + 2 = nI (i + 2) from nI_add i 2]
  refine va_sld hx hb hX hbl hbA hS (i := nI (i + 2)) (vp_in_nI (show (i + 2) < L by omega) (by omega)) d_L_law_110 ?_
  rw [nI_clamp (show (i + 2) < 2 ^ 31 by omega)]
  refine lv_i2l hx hb d_L_law_111 rfl ?_
  refine lv_ldc2 (v := 4294967295) hx hb hown (ht _ kl_L_21) d_L_law_112 ?_
  refine lv_land hx hb d_L_law_115 ?_
  refine lv_lor hx hb d_L_law_116 ?_
  refine mu_l (wr := [(o1, .inr (1, [.ref o2, .long sO, .int kO, .int (nI nO), .int bO])), (o2, .inl (G.2.1, 16, .inr (.inl fO))), (t1, .inr (1, [.ref t2, .long sT, .int kT, .int (nI nT), .int bT])), (t2, .inl (G.2.1, 16, .inr (.inl fT))), (mm, .inr (3, [.int 0, .long ns, .long sdM, .int (nI n), .int kM, .int (nI B), .int (nI q), .ref w1, .ref w2, .ref w3])), (w1, .inl (G.2.2.1, 100, .inl g)), (w2, .inl (G.2.2.2, 100, .inl h)), (w3, .inl (G.2.2.1, 10, .inl ink0))]) (wn := [(x, .inr (0, [.ref d1, .ref v1, .ref o1, .ref t1, .long ((((xs (i + 1)).toInt64) <<< ((32 : Int32).toInt64 &&& 63)) ||| (((xs (i + 2)).toInt64) &&& 4294967295)), .int (nI B)])), (d1, .inr (1, [.ref d2, .long sd, .int k, .int (nI n), .int fb])), (d2, .inl (G.2.1, 16, .inr (.inl f))), (v1, .inr (2, [.ref v2, .ref v3, .int (nI q)])), (v2, .inl (G.2.2.1, 100, .inl g)), (v3, .inl (G.2.2.2, 100, .inl h)), (o1, .inr (1, [.ref o2, .long sO, .int kO, .int (nI nO), .int bO])), (o2, .inl (G.2.1, 16, .inr (.inl fO))), (t1, .inr (1, [.ref t2, .long sT, .int kT, .int (nI nT), .int bT])), (t2, .inl (G.2.1, 16, .inr (.inl fT))), (mm, .inr (3, [.int 0, .long ns, .long sdM, .int (nI n), .int kM, .int (nI B), .int (nI q), .ref w1, .ref w2, .ref w3])), (w1, .inl (G.2.2.1, 100, .inl g)), (w2, .inl (G.2.2.2, 100, .inl h)), (w3, .inl (G.2.2.1, 10, .inl ink0))]) (ru_V (b := x) (As := [.long ((((xs (i + 1)).toInt64) <<< ((32 : Int32).toInt64 &&& 63)) ||| (((xs (i + 2)).toInt64) &&& 4294967295))]) (rest := []) ⟨hx, hb, hml, hown, ht⟩ hKN (c_P_seed l G _ x d1 d2 v1 v2 v3 o1 t1 sd k n fb f g h q ns (nI B) ((((xs (i + 1)).toInt64) <<< ((32 : Int32).toInt64 &&& 63)) ||| (((xs (i + 2)).toInt64) &&& 4294967295)) (hP.sub [0, 1, 2, 3, 4, 5] rfl) ((hD.sub (ws' := [(x, .inr (0, [.ref d1, .ref v1, .ref o1, .ref t1, .long ns, .int (nI B)])), (d1, .inr (1, [.ref d2, .long sd, .int k, .int (nI n), .int fb])), (d2, .inl (G.2.1, 16, .inr (.inl f))), (v1, .inr (2, [.ref v2, .ref v3, .int (nI q)])), (v2, .inl (G.2.2.1, 100, .inl g)), (v3, .inl (G.2.2.2, 100, .inl h))]) [0, 1, 2, 3, 4, 5] (by decide) rfl).weaken (fun _ _ _ _ => trivial)) hn hq) kc_L_23 ⟨rfl, rfl⟩ ⟨Nat.le_of_ble_eq_true rfl, Nat.le_of_ble_eq_true rfl⟩ (va_recv hK hP (ci := 0) (q0 := 0) rfl rfl) rfl hl.1 rfl (Nat.le_of_ble_eq_true rfl) d_L_law_117 ⟨Nat.le_of_ble_eq_true rfl, Nat.le_of_ble_eq_true rfl⟩) hP hD hS hA [0, 1, 2, 3, 4, 5] [6, 7, 8, 9, 10, 11, 12, 13] [8, 9, 10, 11, 12, 13, 0, 1, 2, 3, 4, 5, 6, 7] rfl rfl ⟨by decide, by decide, by decide⟩ (by decide) rfl rfl (fun H locs hP hD hS => ?_)
  refine lv_aload_n hx hb d_L_law_120 rfl (lv_at hl 2 rfl) ?_
  refine lv_aload_n hx hb d_L_law_121 rfl (lv_at hl 0 rfl) ?_
  refine lv_iload_n hx hb d_L_law_122 rfl (lv_at hl 3 rfl) ?_
  refine lv_iconst (v := 1) hx hb d_L_law_123 (by decide) ?_
  refine lv_iadd hx hb d_L_law_124 ?_
  rw [show nI i + 1 = nI (i + 1) from nI_add i 1]
  refine va_sld hx hb hX hbl hbA hS (i := nI (i + 1)) (vp_in_nI (show (i + 1) < L by omega) (by omega)) d_L_law_125 ?_
  rw [nI_clamp (show (i + 1) < 2 ^ 31 by omega)]
  refine lv_i2l hx hb d_L_law_126 rfl ?_
  refine lv_bipush (v := 32) hx hb d_L_law_127 (by decide) ?_
  refine lv_lshl hx hb d_L_law_129 rfl ?_
  refine lv_aload_n hx hb d_L_law_130 rfl (lv_at hl 0 rfl) ?_
  refine lv_iload_n hx hb d_L_law_131 rfl (lv_at hl 3 rfl) ?_
  refine lv_iconst (v := 2) hx hb d_L_law_132 (by decide) ?_
  refine lv_iadd hx hb d_L_law_133 ?_
  rw [show nI i + 2 = nI (i + 2) from nI_add i 2]
  refine va_sld hx hb hX hbl hbA hS (i := nI (i + 2)) (vp_in_nI (show (i + 2) < L by omega) (by omega)) d_L_law_134 ?_
  rw [nI_clamp (show (i + 2) < 2 ^ 31 by omega)]
  refine lv_i2l hx hb d_L_law_135 rfl ?_
  refine lv_ldc2 (v := 4294967295) hx hb hown (ht _ kl_L_21) d_L_law_136 ?_
  refine lv_land hx hb d_L_law_139 ?_
  refine lv_lor hx hb d_L_law_140 ?_
  refine mu_l (wr := [(x, .inr (0, [.ref d1, .ref v1, .ref o1, .ref t1, .long ((((xs (i + 1)).toInt64) <<< ((32 : Int32).toInt64 &&& 63)) ||| (((xs (i + 2)).toInt64) &&& 4294967295)), .int (nI B)])), (d1, .inr (1, [.ref d2, .long sd, .int k, .int (nI n), .int fb])), (d2, .inl (G.2.1, 16, .inr (.inl f))), (v1, .inr (2, [.ref v2, .ref v3, .int (nI q)])), (v2, .inl (G.2.2.1, 100, .inl g)), (v3, .inl (G.2.2.2, 100, .inl h)), (o1, .inr (1, [.ref o2, .long sO, .int kO, .int (nI nO), .int bO])), (o2, .inl (G.2.1, 16, .inr (.inl fO))), (t1, .inr (1, [.ref t2, .long sT, .int kT, .int (nI nT), .int bT])), (t2, .inl (G.2.1, 16, .inr (.inl fT)))]) (wn := [(x, .inr (0, [.ref d1, .ref v1, .ref o1, .ref t1, .long ((((xs (i + 1)).toInt64) <<< ((32 : Int32).toInt64 &&& 63)) ||| (((xs (i + 2)).toInt64) &&& 4294967295)), .int (nI B)])), (d1, .inr (1, [.ref d2, .long sd, .int k, .int (nI n), .int fb])), (d2, .inl (G.2.1, 16, .inr (.inl f))), (v1, .inr (2, [.ref v2, .ref v3, .int (nI q)])), (v2, .inl (G.2.2.1, 100, .inl g)), (v3, .inl (G.2.2.2, 100, .inl h)), (o1, .inr (1, [.ref o2, .long sO, .int kO, .int (nI nO), .int bO])), (o2, .inl (G.2.1, 16, .inr (.inl fO))), (t1, .inr (1, [.ref t2, .long sT, .int kT, .int (nI nT), .int bT])), (t2, .inl (G.2.1, 16, .inr (.inl fT))), (mm, .inr (3, [.int 0, .long ((((xs (i + 1)).toInt64) <<< ((32 : Int32).toInt64 &&& 63)) ||| (((xs (i + 2)).toInt64) &&& 4294967295)), .long sdM, .int (nI n), .int kM, .int (nI B), .int (nI q), .ref w1, .ref w2, .ref w3])), (w1, .inl (G.2.2.1, 100, .inl g)), (w2, .inl (G.2.2.2, 100, .inl h)), (w3, .inl (G.2.2.1, 10, .inl ink0))]) (ru_V (b := mm) (As := [.long ((((xs (i + 1)).toInt64) <<< ((32 : Int32).toInt64 &&& 63)) ||| (((xs (i + 2)).toInt64) &&& 4294967295))]) (rest := [.long (ns)]) ⟨hx, hb, hml, hown, ht⟩ hKN (c_M_seed l G _ mm w1 w2 w3 ns sdM n kM (nI B) q g h ink0 ((((xs (i + 1)).toInt64) <<< ((32 : Int32).toInt64 &&& 63)) ||| (((xs (i + 2)).toInt64) &&& 4294967295)) (hP.sub [10, 11, 12, 13] rfl) ((hD.sub (ws' := [(mm, .inr (3, [.int 0, .long ns, .long sdM, .int (nI n), .int kM, .int (nI B), .int (nI q), .ref w1, .ref w2, .ref w3])), (w1, .inl (G.2.2.1, 100, .inl g)), (w2, .inl (G.2.2.2, 100, .inl h)), (w3, .inl (G.2.2.1, 10, .inl ink0))]) [10, 11, 12, 13] (by decide) rfl).weaken (fun _ _ _ _ => trivial)) hn hq) kc_L_27 ⟨rfl, rfl⟩ ⟨Nat.le_of_ble_eq_true rfl, Nat.le_of_ble_eq_true rfl⟩ (va_recv hK hP (ci := 3) (q0 := 10) rfl rfl) rfl hl.1 rfl (Nat.le_of_ble_eq_true rfl) d_L_law_141 ⟨Nat.le_of_ble_eq_true rfl, Nat.le_of_ble_eq_true rfl⟩) hP hD hS hA [10, 11, 12, 13] [0, 1, 2, 3, 4, 5, 6, 7, 8, 9] [0, 1, 2, 3, 4, 5, 6, 7, 8, 9, 10, 11, 12, 13] rfl rfl ⟨by decide, by decide, by decide⟩ (by decide) rfl rfl (fun H locs hP hD hS => ?_)
  refine W.lcmp hx hb d_L_law_144 ?_
  refine lv_if_eq (tgt := 453) hx hb d_L_law_145 (by decide) (fun c1 => ?_) (fun c1 => ?_)
  · exact next H locs ls ⟨d1, d2, v1, v2, v3, o1, t1, sd, k, n, fb, f, g, h, q, (((xs (i + 1)).toInt64 <<< ((32 : Int32).toInt64 &&& 63)) ||| ((xs (i + 2)).toInt64 &&& 4294967295)), B, o2, sO, kO, nO, bO, fO, t2, sT, kT, nT, bT, fT, w1, w2, w3, sdM, kM, hP, hD, hR, hnO, hnT⟩ hS (lv_sub hl [0, 1, 2, 3] rfl)
  · exact absurd ((lg_cmp_eq ns ns).mpr rfl) c1
set_option maxHeartbeats 4000000 in
set_option maxRecDepth 100000 in
theorem law_case1 {p : Program} {l : Launch} {e : Env} {s : State} {m : MethodId} {below : List Frame} {meth : Method} {c : Code} {b L : Nat} {xs : Nat → Int32} {G : GT} {A : Nat → Prop} {tt : Nat} (hL : L ≤ 2561) (C : LC p s m meth c b L xs G A tt) {i x mm : Nat} (hi : i + 5 ≤ L) {H : Heap} {locs : List Loc} {ls : Array Slot} (hW : Wd G A x mm H) (hS : va_S A s.heap H locs) (hl : lv_has ls 4 [(0, .ref b), (1, .ref x), (2, .ref mm), (3, .int (nI i))])
    (next : ∀ (H : Heap) (locs : List Loc) (ls : Array Slot), Wd G A x mm H → va_S A s.heap H locs → lv_has ls 4 [(0, .ref b), (1, .ref x), (2, .ref mm), (3, .int (nI i))] → W p l e room_1 s m #[Value.ref b] below meth c H locs 14 492 (lw_Z below #[Value.ref b] s) (F0 m 453 ls [])) : W p l e room_1 s m #[Value.ref b] below meth c H locs 14 492 (lw_Z below #[Value.ref b] s) (F0 m 150 ls []) := by
  obtain ⟨hx, hb, hr, hml, hown, ht, hKN, hX, hbl, hlocks, hA, hbA, hZ, hT⟩ := C
  have hK := hKN.1
  obtain ⟨d1, d2, v1, v2, v3, o1, t1, sd, k, n, fb, f, g, h, q, ns, B, o2, sO, kO, nO, bO, fO, t2, sT, kT, nT, bT, fT, w1, w2, w3, sdM, kM, hP, hD, hR, hnO, hnT⟩ := hW
  obtain ⟨hn, hq, hd, hz, hB, hk⟩ := id hR
  by_cases hdr : fn_P_isDrawable (xs (i + 1)) (xs (i + 2)) = 0
  · have hdrM : mdr (xs (i + 1)) (xs (i + 2)) = 0 := by rw [dr_eq]; exact hdr
    refine lv_aload_n hx hb d_L_law_150 rfl (lv_at hl 1 rfl) ?_
    refine lv_aload_n hx hb d_L_law_151 rfl (lv_at hl 0 rfl) ?_
    refine lv_iload_n hx hb d_L_law_152 rfl (lv_at hl 3 rfl) ?_
    refine lv_iconst (v := 1) hx hb d_L_law_153 (by decide) ?_
    refine lv_iadd hx hb d_L_law_154 ?_
    rw [show nI i + 1 = nI (i + 1) from nI_add i 1]
    refine va_sld hx hb hX hbl hbA hS (i := nI (i + 1)) (vp_in_nI (show (i + 1) < L by omega) (by omega)) d_L_law_155 ?_
    rw [nI_clamp (show (i + 1) < 2 ^ 31 by omega)]
    refine lv_aload_n hx hb d_L_law_156 rfl (lv_at hl 0 rfl) ?_
    refine lv_iload_n hx hb d_L_law_157 rfl (lv_at hl 3 rfl) ?_
    refine lv_iconst (v := 2) hx hb d_L_law_158 (by decide) ?_
    refine lv_iadd hx hb d_L_law_159 ?_
    rw [show nI i + 2 = nI (i + 2) from nI_add i 2]
    refine va_sld hx hb hX hbl hbA hS (i := nI (i + 2)) (vp_in_nI (show (i + 2) < L by omega) (by omega)) d_L_law_160 ?_
    rw [nI_clamp (show (i + 2) < 2 ^ 31 by omega)]
    refine pr_i (ru_V (b := x) (As := [.int (xs (i + 1)), .int (xs (i + 2))]) (rest := []) ⟨hx, hb, hml, hown, ht⟩ hKN (c_P_draw_no l G _ x d1 d2 v1 v2 v3 o1 t1 sd k n fb f g h q ns (nI B) (xs (i + 1)) (xs (i + 2)) (hP.sub [0, 1, 2, 3, 4, 5] rfl) hn hq hdr) kc_L_28 ⟨rfl, rfl⟩ ⟨Nat.le_of_ble_eq_true rfl, Nat.le_of_ble_eq_true rfl⟩ (va_recv hK hP (ci := 0) (q0 := 0) rfl rfl) rfl hl.1 rfl (Nat.le_of_ble_eq_true rfl) d_L_law_161 ⟨Nat.le_of_ble_eq_true rfl, Nat.le_of_ble_eq_true rfl⟩) ?_
    refine lv_aload_n hx hb d_L_law_164 rfl (lv_at hl 2 rfl) ?_
    refine lv_aload_n hx hb d_L_law_165 rfl (lv_at hl 0 rfl) ?_
    refine lv_iload_n hx hb d_L_law_166 rfl (lv_at hl 3 rfl) ?_
    refine lv_iconst (v := 1) hx hb d_L_law_167 (by decide) ?_
    refine lv_iadd hx hb d_L_law_168 ?_
    rw [show nI i + 1 = nI (i + 1) from nI_add i 1]
    refine va_sld hx hb hX hbl hbA hS (i := nI (i + 1)) (vp_in_nI (show (i + 1) < L by omega) (by omega)) d_L_law_169 ?_
    rw [nI_clamp (show (i + 1) < 2 ^ 31 by omega)]
    refine lv_aload_n hx hb d_L_law_170 rfl (lv_at hl 0 rfl) ?_
    refine lv_iload_n hx hb d_L_law_171 rfl (lv_at hl 3 rfl) ?_
    refine lv_iconst (v := 2) hx hb d_L_law_172 (by decide) ?_
    refine lv_iadd hx hb d_L_law_173 ?_
    rw [show nI i + 2 = nI (i + 2) from nI_add i 2]
    refine va_sld hx hb hX hbl hbA hS (i := nI (i + 2)) (vp_in_nI (show (i + 2) < L by omega) (by omega)) d_L_law_174 ?_
    rw [nI_clamp (show (i + 2) < 2 ^ 31 by omega)]
    refine mu_i (wr := [(x, .inr (0, [.ref d1, .ref v1, .ref o1, .ref t1, .long ns, .int (nI B)])), (d1, .inr (1, [.ref d2, .long sd, .int k, .int (nI n), .int fb])), (d2, .inl (G.2.1, 16, .inr (.inl f))), (v1, .inr (2, [.ref v2, .ref v3, .int (nI q)])), (v2, .inl (G.2.2.1, 100, .inl g)), (v3, .inl (G.2.2.2, 100, .inl h)), (o1, .inr (1, [.ref o2, .long sO, .int kO, .int (nI nO), .int bO])), (o2, .inl (G.2.1, 16, .inr (.inl fO))), (t1, .inr (1, [.ref t2, .long sT, .int kT, .int (nI nT), .int bT])), (t2, .inl (G.2.1, 16, .inr (.inl fT)))]) (wn := [(x, .inr (0, [.ref d1, .ref v1, .ref o1, .ref t1, .long ns, .int (nI B)])), (d1, .inr (1, [.ref d2, .long sd, .int k, .int (nI n), .int fb])), (d2, .inl (G.2.1, 16, .inr (.inl f))), (v1, .inr (2, [.ref v2, .ref v3, .int (nI q)])), (v2, .inl (G.2.2.1, 100, .inl g)), (v3, .inl (G.2.2.2, 100, .inl h)), (o1, .inr (1, [.ref o2, .long sO, .int kO, .int (nI nO), .int bO])), (o2, .inl (G.2.1, 16, .inr (.inl fO))), (t1, .inr (1, [.ref t2, .long sT, .int kT, .int (nI nT), .int bT])), (t2, .inl (G.2.1, 16, .inr (.inl fT))), (mm, .inr (3, [.int 0, .long ns, .long sdM, .int (nI n), .int kM, .int (nI B), .int (nI q), .ref w1, .ref w2, .ref w3])), (w1, .inl (G.2.2.1, 100, .inl g)), (w2, .inl (G.2.2.2, 100, .inl h)), (w3, .inl (G.2.2.1, 10, .inl ink0))]) (ru_V (b := mm) (As := [.int (xs (i + 1)), .int (xs (i + 2))]) (rest := [.int (-12)]) ⟨hx, hb, hml, hown, ht⟩ hKN (c_M_draw_no l G _ mm w1 w2 w3 ns sdM n kM (nI B) q g h ink0 (xs (i + 1)) (xs (i + 2)) (hP.sub [10, 11, 12, 13] rfl) ((hD.sub (ws' := [(mm, .inr (3, [.int 0, .long ns, .long sdM, .int (nI n), .int kM, .int (nI B), .int (nI q), .ref w1, .ref w2, .ref w3])), (w1, .inl (G.2.2.1, 100, .inl g)), (w2, .inl (G.2.2.2, 100, .inl h)), (w3, .inl (G.2.2.1, 10, .inl ink0))]) [10, 11, 12, 13] (by decide) rfl).weaken (fun _ _ _ _ => trivial)) hn hq hdrM) kc_L_32 ⟨rfl, rfl⟩ ⟨Nat.le_of_ble_eq_true rfl, Nat.le_of_ble_eq_true rfl⟩ (va_recv hK hP (ci := 3) (q0 := 10) rfl rfl) rfl hl.1 rfl (Nat.le_of_ble_eq_true rfl) d_L_law_175 ⟨Nat.le_of_ble_eq_true rfl, Nat.le_of_ble_eq_true rfl⟩) hP hD hS hA [10, 11, 12, 13] [0, 1, 2, 3, 4, 5, 6, 7, 8, 9] [0, 1, 2, 3, 4, 5, 6, 7, 8, 9, 10, 11, 12, 13] rfl rfl ⟨by decide, by decide, by decide⟩ (by decide) rfl rfl (fun H locs hP hD hS => ?_)
    refine lv_icmp_eq (tgt := 453) hx hb d_L_law_178 (by decide) (fun _ => ?_) (fun c1 => absurd (by decide) c1)
    exact next H locs ls ⟨d1, d2, v1, v2, v3, o1, t1, sd, k, n, fb, f, g, h, q, ns, B, o2, sO, kO, nO, bO, fO, t2, sT, kT, nT, bT, fT, w1, w2, w3, sdM, kM, hP, hD, hR, hnO, hnT⟩ hS (lv_sub hl [0, 1, 2, 3] rfl)
  · obtain ⟨z, hz16, ez, -, -⟩ := dr_get hdr
    have hdrM : ¬ mdr (xs (i + 1)) (xs (i + 2)) = 0 := by rw [dr_eq]; exact hdr
    rw [ez] at hdr hdrM
    refine lv_aload_n hx hb d_L_law_150 rfl (lv_at hl 1 rfl) ?_
    refine lv_aload_n hx hb d_L_law_151 rfl (lv_at hl 0 rfl) ?_
    refine lv_iload_n hx hb d_L_law_152 rfl (lv_at hl 3 rfl) ?_
    refine lv_iconst (v := 1) hx hb d_L_law_153 (by decide) ?_
    refine lv_iadd hx hb d_L_law_154 ?_
    rw [show nI i + 1 = nI (i + 1) from nI_add i 1]
    refine va_sld hx hb hX hbl hbA hS (i := nI (i + 1)) (vp_in_nI (show (i + 1) < L by omega) (by omega)) d_L_law_155 ?_
    rw [nI_clamp (show (i + 1) < 2 ^ 31 by omega)]
    refine lv_aload_n hx hb d_L_law_156 rfl (lv_at hl 0 rfl) ?_
    refine lv_iload_n hx hb d_L_law_157 rfl (lv_at hl 3 rfl) ?_
    refine lv_iconst (v := 2) hx hb d_L_law_158 (by decide) ?_
    refine lv_iadd hx hb d_L_law_159 ?_
    rw [show nI i + 2 = nI (i + 2) from nI_add i 2]
    refine va_sld hx hb hX hbl hbA hS (i := nI (i + 2)) (vp_in_nI (show (i + 2) < L by omega) (by omega)) d_L_law_160 ?_
    rw [nI_clamp (show (i + 2) < 2 ^ 31 by omega)]
    rw [ez]
    refine mu_i (wr := [(o1, .inr (1, [.ref o2, .long sO, .int kO, .int (nI nO), .int bO])), (o2, .inl (G.2.1, 16, .inr (.inl fO))), (t1, .inr (1, [.ref t2, .long sT, .int kT, .int (nI nT), .int bT])), (t2, .inl (G.2.1, 16, .inr (.inl fT))), (mm, .inr (3, [.int 0, .long ns, .long sdM, .int (nI n), .int kM, .int (nI B), .int (nI q), .ref w1, .ref w2, .ref w3])), (w1, .inl (G.2.2.1, 100, .inl g)), (w2, .inl (G.2.2.2, 100, .inl h)), (w3, .inl (G.2.2.1, 10, .inl ink0))]) (wn := [(x, .inr (0, [.ref d1, .ref v1, .ref o1, .ref t1, .long ns, .int (fn_D_allBits (z + 1))])), (d1, .inr (1, [.ref d2, .long ns, .int (xs (i + 1)), .int (nI (z + 1)), .int (fbN (xs (i + 1)) (z + 1) (fl ns (xs (i + 1)) f (z + 1)))])), (d2, .inl (G.2.1, 16, .inr (.inl (fl ns (xs (i + 1)) f (z + 1))))), (v1, .inr (2, [.ref v2, .ref v3, .int (nI 0)])), (v2, .inl (G.2.2.1, 100, .inl g)), (v3, .inl (G.2.2.2, 100, .inl h)), (o1, .inr (1, [.ref o2, .long sO, .int kO, .int (nI nO), .int bO])), (o2, .inl (G.2.1, 16, .inr (.inl fO))), (t1, .inr (1, [.ref t2, .long sT, .int kT, .int (nI nT), .int bT])), (t2, .inl (G.2.1, 16, .inr (.inl fT))), (mm, .inr (3, [.int 0, .long ns, .long sdM, .int (nI n), .int kM, .int (nI B), .int (nI q), .ref w1, .ref w2, .ref w3])), (w1, .inl (G.2.2.1, 100, .inl g)), (w2, .inl (G.2.2.2, 100, .inl h)), (w3, .inl (G.2.2.1, 10, .inl ink0))]) (ru_V (b := x) (As := [.int (xs (i + 1)), .int (nI z)]) (rest := []) ⟨hx, hb, hml, hown, ht⟩ hKN (c_P_draw l G _ x d1 d2 v1 v2 v3 o1 t1 sd k n fb f g h q ns (nI B) (xs (i + 1)) z (hP.sub [0, 1, 2, 3, 4, 5] rfl) ((hD.sub (ws' := [(x, .inr (0, [.ref d1, .ref v1, .ref o1, .ref t1, .long ns, .int (nI B)])), (d1, .inr (1, [.ref d2, .long sd, .int k, .int (nI n), .int fb])), (d2, .inl (G.2.1, 16, .inr (.inl f))), (v1, .inr (2, [.ref v2, .ref v3, .int (nI q)])), (v2, .inl (G.2.2.1, 100, .inl g)), (v3, .inl (G.2.2.2, 100, .inl h))]) [0, 1, 2, 3, 4, 5] (by decide) rfl).weaken (fun _ _ _ _ => trivial)) hn hq hdr hz16) kc_L_28 ⟨rfl, rfl⟩ ⟨Nat.le_of_ble_eq_true rfl, Nat.le_of_ble_eq_true rfl⟩ (va_recv hK hP (ci := 0) (q0 := 0) rfl rfl) rfl hl.1 rfl (Nat.le_of_ble_eq_true rfl) d_L_law_161 ⟨Nat.le_of_ble_eq_true rfl, Nat.le_of_ble_eq_true rfl⟩) hP hD hS hA [0, 1, 2, 3, 4, 5] [6, 7, 8, 9, 10, 11, 12, 13] [8, 9, 10, 11, 12, 13, 0, 1, 2, 3, 4, 5, 6, 7] rfl rfl ⟨by decide, by decide, by decide⟩ (by decide) rfl rfl (fun H locs hP hD hS => ?_)
    refine lv_aload_n hx hb d_L_law_164 rfl (lv_at hl 2 rfl) ?_
    refine lv_aload_n hx hb d_L_law_165 rfl (lv_at hl 0 rfl) ?_
    refine lv_iload_n hx hb d_L_law_166 rfl (lv_at hl 3 rfl) ?_
    refine lv_iconst (v := 1) hx hb d_L_law_167 (by decide) ?_
    refine lv_iadd hx hb d_L_law_168 ?_
    rw [show nI i + 1 = nI (i + 1) from nI_add i 1]
    refine va_sld hx hb hX hbl hbA hS (i := nI (i + 1)) (vp_in_nI (show (i + 1) < L by omega) (by omega)) d_L_law_169 ?_
    rw [nI_clamp (show (i + 1) < 2 ^ 31 by omega)]
    refine lv_aload_n hx hb d_L_law_170 rfl (lv_at hl 0 rfl) ?_
    refine lv_iload_n hx hb d_L_law_171 rfl (lv_at hl 3 rfl) ?_
    refine lv_iconst (v := 2) hx hb d_L_law_172 (by decide) ?_
    refine lv_iadd hx hb d_L_law_173 ?_
    rw [show nI i + 2 = nI (i + 2) from nI_add i 2]
    refine va_sld hx hb hX hbl hbA hS (i := nI (i + 2)) (vp_in_nI (show (i + 2) < L by omega) (by omega)) d_L_law_174 ?_
    rw [nI_clamp (show (i + 2) < 2 ^ 31 by omega)]
    rw [ez]
    refine mu_i (wr := [(x, .inr (0, [.ref d1, .ref v1, .ref o1, .ref t1, .long ns, .int (fn_D_allBits (z + 1))])), (d1, .inr (1, [.ref d2, .long ns, .int (xs (i + 1)), .int (nI (z + 1)), .int (fbN (xs (i + 1)) (z + 1) (fl ns (xs (i + 1)) f (z + 1)))])), (d2, .inl (G.2.1, 16, .inr (.inl (fl ns (xs (i + 1)) f (z + 1))))), (v1, .inr (2, [.ref v2, .ref v3, .int (nI 0)])), (v2, .inl (G.2.2.1, 100, .inl g)), (v3, .inl (G.2.2.2, 100, .inl h)), (o1, .inr (1, [.ref o2, .long sO, .int kO, .int (nI nO), .int bO])), (o2, .inl (G.2.1, 16, .inr (.inl fO))), (t1, .inr (1, [.ref t2, .long sT, .int kT, .int (nI nT), .int bT])), (t2, .inl (G.2.1, 16, .inr (.inl fT)))]) (wn := [(x, .inr (0, [.ref d1, .ref v1, .ref o1, .ref t1, .long ns, .int (fn_D_allBits (z + 1))])), (d1, .inr (1, [.ref d2, .long ns, .int (xs (i + 1)), .int (nI (z + 1)), .int (fbN (xs (i + 1)) (z + 1) (fl ns (xs (i + 1)) f (z + 1)))])), (d2, .inl (G.2.1, 16, .inr (.inl (fl ns (xs (i + 1)) f (z + 1))))), (v1, .inr (2, [.ref v2, .ref v3, .int (nI 0)])), (v2, .inl (G.2.2.1, 100, .inl g)), (v3, .inl (G.2.2.2, 100, .inl h)), (o1, .inr (1, [.ref o2, .long sO, .int kO, .int (nI nO), .int bO])), (o2, .inl (G.2.1, 16, .inr (.inl fO))), (t1, .inr (1, [.ref t2, .long sT, .int kT, .int (nI nT), .int bT])), (t2, .inl (G.2.1, 16, .inr (.inl fT))), (mm, .inr (3, [.int 0, .long ns, .long ns, .int (nI (z + 1)), .int (xs (i + 1)), .int (((1 : Int32) <<< (nI (z + 1) &&& 31)) - 1), .int (nI 0), .ref w1, .ref w2, .ref w3])), (w1, .inl (G.2.2.1, 100, .inl g)), (w2, .inl (G.2.2.2, 100, .inl h)), (w3, .inl (G.2.2.1, 10, .inl ink0))]) (ru_V (b := mm) (As := [.int (xs (i + 1)), .int (nI z)]) (rest := [.int (nI (z + 1))]) ⟨hx, hb, hml, hown, ht⟩ hKN (c_M_draw l G _ mm w1 w2 w3 ns sdM n kM (nI B) q g h ink0 (xs (i + 1)) z (hP.sub [10, 11, 12, 13] rfl) ((hD.sub (ws' := [(mm, .inr (3, [.int 0, .long ns, .long sdM, .int (nI n), .int kM, .int (nI B), .int (nI q), .ref w1, .ref w2, .ref w3])), (w1, .inl (G.2.2.1, 100, .inl g)), (w2, .inl (G.2.2.2, 100, .inl h)), (w3, .inl (G.2.2.1, 10, .inl ink0))]) [10, 11, 12, 13] (by decide) rfl).weaken (fun _ _ _ _ => trivial)) hn hq hdrM) kc_L_32 ⟨rfl, rfl⟩ ⟨Nat.le_of_ble_eq_true rfl, Nat.le_of_ble_eq_true rfl⟩ (va_recv hK hP (ci := 3) (q0 := 10) rfl rfl) rfl hl.1 rfl (Nat.le_of_ble_eq_true rfl) d_L_law_175 ⟨Nat.le_of_ble_eq_true rfl, Nat.le_of_ble_eq_true rfl⟩) hP hD hS hA [10, 11, 12, 13] [0, 1, 2, 3, 4, 5, 6, 7, 8, 9] [0, 1, 2, 3, 4, 5, 6, 7, 8, 9, 10, 11, 12, 13] rfl rfl ⟨by decide, by decide, by decide⟩ (by decide) rfl rfl (fun H locs hP hD hS => ?_)
    rw [show fn_D_allBits (z + 1) = nI (2 ^ (z + 1) - 1) from all_nI _ (by omega), show ((1 : Int32) <<< (nI (z + 1) &&& 31)) - 1 = nI (2 ^ (z + 1) - 1) from all_nI (z + 1) (by omega)] at hP hD
    refine lv_icmp_eq (tgt := 453) hx hb d_L_law_178 (by decide) (fun c2 => ?_) (fun c2 => ?_)
    · exact next H locs ls ⟨d1, d2, v1, v2, v3, o1, t1, ns, (xs (i + 1)), (z + 1), (fbN (xs (i + 1)) (z + 1) (fl ns (xs (i + 1)) f (z + 1))), (fl ns (xs (i + 1)) f (z + 1)), g, h, 0, ns, (2 ^ (z + 1) - 1), o2, sO, kO, nO, bO, fO, t2, sT, kT, nT, bT, fT, w1, w2, w3, ns, (xs (i + 1)), hP, hD, (rel_draw hz16), hnO, hnT⟩ hS (lv_sub hl [0, 1, 2, 3] rfl)
    · exact absurd rfl c2
set_option maxHeartbeats 4000000 in
set_option maxRecDepth 100000 in
theorem law_case2 {p : Program} {l : Launch} {e : Env} {s : State} {m : MethodId} {below : List Frame} {meth : Method} {c : Code} {b L : Nat} {xs : Nat → Int32} {G : GT} {A : Nat → Prop} {tt : Nat} (hL : L ≤ 2561) (C : LC p s m meth c b L xs G A tt) {i x mm : Nat} (hi : i + 5 ≤ L) {H : Heap} {locs : List Loc} {ls : Array Slot} (hW : Wd G A x mm H) (hS : va_S A s.heap H locs) (hl : lv_has ls 4 [(0, .ref b), (1, .ref x), (2, .ref mm), (3, .int (nI i))])
    (next : ∀ (H : Heap) (locs : List Loc) (ls : Array Slot), Wd G A x mm H → va_S A s.heap H locs → lv_has ls 4 [(0, .ref b), (1, .ref x), (2, .ref mm), (3, .int (nI i))] → W p l e room_1 s m #[Value.ref b] below meth c H locs 14 492 (lw_Z below #[Value.ref b] s) (F0 m 453 ls [])) : W p l e room_1 s m #[Value.ref b] below meth c H locs 14 492 (lw_Z below #[Value.ref b] s) (F0 m 183 ls []) := by
  obtain ⟨hx, hb, hr, hml, hown, ht, hKN, hX, hbl, hlocks, hA, hbA, hZ, hT⟩ := C
  have hK := hKN.1
  obtain ⟨d1, d2, v1, v2, v3, o1, t1, sd, k, n, fb, f, g, h, q, ns, B, o2, sO, kO, nO, bO, fO, t2, sT, kT, nT, bT, fT, w1, w2, w3, sdM, kM, hP, hD, hR, hnO, hnT⟩ := hW
  obtain ⟨hn, hq, hd, hz, hB, hk⟩ := id hR
  refine lv_aload_n hx hb d_L_law_183 rfl (lv_at hl 1 rfl) ?_
  refine lv_aload_n hx hb d_L_law_184 rfl (lv_at hl 0 rfl) ?_
  refine lv_iload_n hx hb d_L_law_185 rfl (lv_at hl 3 rfl) ?_
  refine lv_iconst (v := 1) hx hb d_L_law_186 (by decide) ?_
  refine lv_iadd hx hb d_L_law_187 ?_
  rw [show nI i + 1 = nI (i + 1) from nI_add i 1]
  refine va_sld hx hb hX hbl hbA hS (i := nI (i + 1)) (vp_in_nI (show (i + 1) < L by omega) (by omega)) d_L_law_188 ?_
  rw [nI_clamp (show (i + 1) < 2 ^ 31 by omega)]
  refine lv_aload_n hx hb d_L_law_189 rfl (lv_at hl 0 rfl) ?_
  refine lv_iload_n hx hb d_L_law_190 rfl (lv_at hl 3 rfl) ?_
  refine lv_iconst (v := 2) hx hb d_L_law_191 (by decide) ?_
  refine lv_iadd hx hb d_L_law_192 ?_
  rw [show nI i + 2 = nI (i + 2) from nI_add i 2]
  refine va_sld hx hb hX hbl hbA hS (i := nI (i + 2)) (vp_in_nI (show (i + 2) < L by omega) (by omega)) d_L_law_193 ?_
  rw [nI_clamp (show (i + 2) < 2 ^ 31 by omega)]
  refine pr_i (ru_V (b := x) (As := [.int (xs (i + 1)), .int (xs (i + 2))]) (rest := []) ⟨hx, hb, hml, hown, ht⟩ hKN (c_P_part l G _ x d1 d2 v1 v2 v3 o1 t1 sd k n fb f g h q ns (nI B) (xs (i + 1)) (xs (i + 2)) (hP.sub [0, 1, 2, 3, 4, 5] rfl) hn hq) kc_L_33 ⟨rfl, rfl⟩ ⟨Nat.le_of_ble_eq_true rfl, Nat.le_of_ble_eq_true rfl⟩ (va_recv hK hP (ci := 0) (q0 := 0) rfl rfl) rfl hl.1 rfl (Nat.le_of_ble_eq_true rfl) d_L_law_194 ⟨Nat.le_of_ble_eq_true rfl, Nat.le_of_ble_eq_true rfl⟩) ?_
  refine lv_aload_n hx hb d_L_law_197 rfl (lv_at hl 2 rfl) ?_
  refine lv_aload_n hx hb d_L_law_198 rfl (lv_at hl 0 rfl) ?_
  refine lv_iload_n hx hb d_L_law_199 rfl (lv_at hl 3 rfl) ?_
  refine lv_iconst (v := 1) hx hb d_L_law_200 (by decide) ?_
  refine lv_iadd hx hb d_L_law_201 ?_
  rw [show nI i + 1 = nI (i + 1) from nI_add i 1]
  refine va_sld hx hb hX hbl hbA hS (i := nI (i + 1)) (vp_in_nI (show (i + 1) < L by omega) (by omega)) d_L_law_202 ?_
  rw [nI_clamp (show (i + 1) < 2 ^ 31 by omega)]
  refine lv_aload_n hx hb d_L_law_203 rfl (lv_at hl 0 rfl) ?_
  refine lv_iload_n hx hb d_L_law_204 rfl (lv_at hl 3 rfl) ?_
  refine lv_iconst (v := 2) hx hb d_L_law_205 (by decide) ?_
  refine lv_iadd hx hb d_L_law_206 ?_
  rw [show nI i + 2 = nI (i + 2) from nI_add i 2]
  refine va_sld hx hb hX hbl hbA hS (i := nI (i + 2)) (vp_in_nI (show (i + 2) < L by omega) (by omega)) d_L_law_207 ?_
  rw [nI_clamp (show (i + 2) < 2 ^ 31 by omega)]
  refine mu_i (wr := [(x, .inr (0, [.ref d1, .ref v1, .ref o1, .ref t1, .long ns, .int (nI B)])), (d1, .inr (1, [.ref d2, .long sd, .int k, .int (nI n), .int fb])), (d2, .inl (G.2.1, 16, .inr (.inl f))), (v1, .inr (2, [.ref v2, .ref v3, .int (nI q)])), (v2, .inl (G.2.2.1, 100, .inl g)), (v3, .inl (G.2.2.2, 100, .inl h)), (o1, .inr (1, [.ref o2, .long sO, .int kO, .int (nI nO), .int bO])), (o2, .inl (G.2.1, 16, .inr (.inl fO))), (t1, .inr (1, [.ref t2, .long sT, .int kT, .int (nI nT), .int bT])), (t2, .inl (G.2.1, 16, .inr (.inl fT)))]) (wn := [(x, .inr (0, [.ref d1, .ref v1, .ref o1, .ref t1, .long ns, .int (nI B)])), (d1, .inr (1, [.ref d2, .long sd, .int k, .int (nI n), .int fb])), (d2, .inl (G.2.1, 16, .inr (.inl f))), (v1, .inr (2, [.ref v2, .ref v3, .int (nI q)])), (v2, .inl (G.2.2.1, 100, .inl g)), (v3, .inl (G.2.2.2, 100, .inl h)), (o1, .inr (1, [.ref o2, .long sO, .int kO, .int (nI nO), .int bO])), (o2, .inl (G.2.1, 16, .inr (.inl fO))), (t1, .inr (1, [.ref t2, .long sT, .int kT, .int (nI nT), .int bT])), (t2, .inl (G.2.1, 16, .inr (.inl fT))), (mm, .inr (3, [.int 0, .long ns, .long sdM, .int (nI n), .int kM, .int (nI B), .int (nI q), .ref w1, .ref w2, .ref w3])), (w1, .inl (G.2.2.1, 100, .inl g)), (w2, .inl (G.2.2.2, 100, .inl h)), (w3, .inl (G.2.2.1, 10, .inl ink0))]) (ru_V (b := mm) (As := [.int (xs (i + 1)), .int (xs (i + 2))]) (rest := [.int (fn_P_part n fb f (xs (i + 1)) (xs (i + 2)))]) ⟨hx, hb, hml, hown, ht⟩ hKN (c_M_part l G _ mm w1 w2 w3 ns sdM n kM (nI B) q g h ink0 (xs (i + 1)) (xs (i + 2)) (hP.sub [10, 11, 12, 13] rfl) ((hD.sub (ws' := [(mm, .inr (3, [.int 0, .long ns, .long sdM, .int (nI n), .int kM, .int (nI B), .int (nI q), .ref w1, .ref w2, .ref w3])), (w1, .inl (G.2.2.1, 100, .inl g)), (w2, .inl (G.2.2.2, 100, .inl h)), (w3, .inl (G.2.2.1, 10, .inl ink0))]) [10, 11, 12, 13] (by decide) rfl).weaken (fun _ _ _ _ => trivial)) hn hq) kc_L_36 ⟨rfl, rfl⟩ ⟨Nat.le_of_ble_eq_true rfl, Nat.le_of_ble_eq_true rfl⟩ (va_recv hK hP (ci := 3) (q0 := 10) rfl rfl) rfl hl.1 rfl (Nat.le_of_ble_eq_true rfl) d_L_law_208 ⟨Nat.le_of_ble_eq_true rfl, Nat.le_of_ble_eq_true rfl⟩) hP hD hS hA [10, 11, 12, 13] [0, 1, 2, 3, 4, 5, 6, 7, 8, 9] [0, 1, 2, 3, 4, 5, 6, 7, 8, 9, 10, 11, 12, 13] rfl rfl ⟨by decide, by decide, by decide⟩ (by decide) rfl rfl (fun H locs hP hD hS => ?_)
  refine lv_icmp_eq (tgt := 453) hx hb d_L_law_211 (by decide) (fun c1 => ?_) (fun c1 => ?_)
  · exact next H locs ls ⟨d1, d2, v1, v2, v3, o1, t1, sd, k, n, fb, f, g, h, q, ns, B, o2, sO, kO, nO, bO, fO, t2, sT, kT, nT, bT, fT, w1, w2, w3, sdM, kM, hP, hD, hR, hnO, hnT⟩ hS (lv_sub hl [0, 1, 2, 3] rfl)
  · exact absurd (rel_part hR (xs (i + 1)) (xs (i + 2))) c1
set_option maxHeartbeats 4000000 in
set_option maxRecDepth 100000 in
theorem law_case3 {p : Program} {l : Launch} {e : Env} {s : State} {m : MethodId} {below : List Frame} {meth : Method} {c : Code} {b L : Nat} {xs : Nat → Int32} {G : GT} {A : Nat → Prop} {tt : Nat} (hL : L ≤ 2561) (C : LC p s m meth c b L xs G A tt) {i x mm : Nat} (hi : i + 5 ≤ L) {H : Heap} {locs : List Loc} {ls : Array Slot} (hW : Wd G A x mm H) (hS : va_S A s.heap H locs) (hl : lv_has ls 4 [(0, .ref b), (1, .ref x), (2, .ref mm), (3, .int (nI i))])
    (next : ∀ (H : Heap) (locs : List Loc) (ls : Array Slot), Wd G A x mm H → va_S A s.heap H locs → lv_has ls 4 [(0, .ref b), (1, .ref x), (2, .ref mm), (3, .int (nI i))] → W p l e room_1 s m #[Value.ref b] below meth c H locs 14 492 (lw_Z below #[Value.ref b] s) (F0 m 453 ls [])) : W p l e room_1 s m #[Value.ref b] below meth c H locs 14 492 (lw_Z below #[Value.ref b] s) (F0 m 216 ls []) := by
  obtain ⟨hx, hb, hr, hml, hown, ht, hKN, hX, hbl, hlocks, hA, hbA, hZ, hT⟩ := C
  have hK := hKN.1
  obtain ⟨d1, d2, v1, v2, v3, o1, t1, sd, k, n, fb, f, g, h, q, ns, B, o2, sO, kO, nO, bO, fO, t2, sT, kT, nT, bT, fT, w1, w2, w3, sdM, kM, hP, hD, hR, hnO, hnT⟩ := hW
  obtain ⟨hn, hq, hd, hz, hB, hk⟩ := id hR
  have hST : ST tt s H := ⟨(hZ.kept hS.2.1).narrow (fun _ z => z.elim), (hT.kept hS.2.1).narrow (fun _ z => z.elim)⟩
  refine lv_aload_n hx hb d_L_law_216 rfl (lv_at hl 1 rfl) ?_
  refine lv_aload_n hx hb d_L_law_217 rfl (lv_at hl 0 rfl) ?_
  refine lv_iload_n hx hb d_L_law_218 rfl (lv_at hl 3 rfl) ?_
  refine lv_iconst (v := 1) hx hb d_L_law_219 (by decide) ?_
  refine lv_iadd hx hb d_L_law_220 ?_
  rw [show nI i + 1 = nI (i + 1) from nI_add i 1]
  refine va_sld hx hb hX hbl hbA hS (i := nI (i + 1)) (vp_in_nI (show (i + 1) < L by omega) (by omega)) d_L_law_221 ?_
  rw [nI_clamp (show (i + 1) < 2 ^ 31 by omega)]
  refine lv_aload_n hx hb d_L_law_222 rfl (lv_at hl 0 rfl) ?_
  refine lv_iload_n hx hb d_L_law_223 rfl (lv_at hl 3 rfl) ?_
  refine lv_iconst (v := 2) hx hb d_L_law_224 (by decide) ?_
  refine lv_iadd hx hb d_L_law_225 ?_
  rw [show nI i + 2 = nI (i + 2) from nI_add i 2]
  refine va_sld hx hb hX hbl hbA hS (i := nI (i + 2)) (vp_in_nI (show (i + 2) < L by omega) (by omega)) d_L_law_226 ?_
  rw [nI_clamp (show (i + 2) < 2 ^ 31 by omega)]
  refine lv_aload_n hx hb d_L_law_227 rfl (lv_at hl 0 rfl) ?_
  refine lv_iload_n hx hb d_L_law_228 rfl (lv_at hl 3 rfl) ?_
  refine lv_iconst (v := 3) hx hb d_L_law_229 (by decide) ?_
  refine lv_iadd hx hb d_L_law_230 ?_
  rw [show nI i + 3 = nI (i + 3) from nI_add i 3]
  refine va_sld hx hb hX hbl hbA hS (i := nI (i + 3)) (vp_in_nI (show (i + 3) < L by omega) (by omega)) d_L_law_231 ?_
  rw [nI_clamp (show (i + 3) < 2 ^ 31 by omega)]
  refine pr_i (ru_VS (b := x) (As := [.int (xs (i + 1)), .int (xs (i + 2)), .int (xs (i + 3))]) (rest := []) ⟨hx, hb, hml, hown, ht⟩ hKN hST (c_P_point l G _ tt x d1 d2 v1 v2 v3 o1 t1 sd k n fb f g h q ns (nI B) (xs (i + 1)) (xs (i + 2)) (xs (i + 3)) (hP.sub [0, 1, 2, 3, 4, 5] rfl) hn hq) kc_L_37 ⟨rfl, rfl⟩ ⟨Nat.le_of_ble_eq_true rfl, Nat.le_of_ble_eq_true rfl⟩ (va_recv hK hP (ci := 0) (q0 := 0) rfl rfl) rfl hl.1 rfl (Nat.le_of_ble_eq_true rfl) d_L_law_232 ⟨Nat.le_of_ble_eq_true rfl, Nat.le_of_ble_eq_true rfl⟩) ?_
  refine lv_aload_n hx hb d_L_law_235 rfl (lv_at hl 2 rfl) ?_
  refine lv_aload_n hx hb d_L_law_236 rfl (lv_at hl 0 rfl) ?_
  refine lv_iload_n hx hb d_L_law_237 rfl (lv_at hl 3 rfl) ?_
  refine lv_iconst (v := 1) hx hb d_L_law_238 (by decide) ?_
  refine lv_iadd hx hb d_L_law_239 ?_
  rw [show nI i + 1 = nI (i + 1) from nI_add i 1]
  refine va_sld hx hb hX hbl hbA hS (i := nI (i + 1)) (vp_in_nI (show (i + 1) < L by omega) (by omega)) d_L_law_240 ?_
  rw [nI_clamp (show (i + 1) < 2 ^ 31 by omega)]
  refine lv_aload_n hx hb d_L_law_241 rfl (lv_at hl 0 rfl) ?_
  refine lv_iload_n hx hb d_L_law_242 rfl (lv_at hl 3 rfl) ?_
  refine lv_iconst (v := 2) hx hb d_L_law_243 (by decide) ?_
  refine lv_iadd hx hb d_L_law_244 ?_
  rw [show nI i + 2 = nI (i + 2) from nI_add i 2]
  refine va_sld hx hb hX hbl hbA hS (i := nI (i + 2)) (vp_in_nI (show (i + 2) < L by omega) (by omega)) d_L_law_245 ?_
  rw [nI_clamp (show (i + 2) < 2 ^ 31 by omega)]
  refine lv_aload_n hx hb d_L_law_246 rfl (lv_at hl 0 rfl) ?_
  refine lv_iload_n hx hb d_L_law_247 rfl (lv_at hl 3 rfl) ?_
  refine lv_iconst (v := 3) hx hb d_L_law_248 (by decide) ?_
  refine lv_iadd hx hb d_L_law_249 ?_
  rw [show nI i + 3 = nI (i + 3) from nI_add i 3]
  refine va_sld hx hb hX hbl hbA hS (i := nI (i + 3)) (vp_in_nI (show (i + 3) < L by omega) (by omega)) d_L_law_250 ?_
  rw [nI_clamp (show (i + 3) < 2 ^ 31 by omega)]
  refine mu_i (wr := [(x, .inr (0, [.ref d1, .ref v1, .ref o1, .ref t1, .long ns, .int (nI B)])), (d1, .inr (1, [.ref d2, .long sd, .int k, .int (nI n), .int fb])), (d2, .inl (G.2.1, 16, .inr (.inl f))), (v1, .inr (2, [.ref v2, .ref v3, .int (nI q)])), (v2, .inl (G.2.2.1, 100, .inl g)), (v3, .inl (G.2.2.2, 100, .inl h)), (o1, .inr (1, [.ref o2, .long sO, .int kO, .int (nI nO), .int bO])), (o2, .inl (G.2.1, 16, .inr (.inl fO))), (t1, .inr (1, [.ref t2, .long sT, .int kT, .int (nI nT), .int bT])), (t2, .inl (G.2.1, 16, .inr (.inl fT)))]) (wn := [(x, .inr (0, [.ref d1, .ref v1, .ref o1, .ref t1, .long ns, .int (nI B)])), (d1, .inr (1, [.ref d2, .long sd, .int k, .int (nI n), .int fb])), (d2, .inl (G.2.1, 16, .inr (.inl f))), (v1, .inr (2, [.ref v2, .ref v3, .int (nI q)])), (v2, .inl (G.2.2.1, 100, .inl g)), (v3, .inl (G.2.2.2, 100, .inl h)), (o1, .inr (1, [.ref o2, .long sO, .int kO, .int (nI nO), .int bO])), (o2, .inl (G.2.1, 16, .inr (.inl fO))), (t1, .inr (1, [.ref t2, .long sT, .int kT, .int (nI nT), .int bT])), (t2, .inl (G.2.1, 16, .inr (.inl fT))), (mm, .inr (3, [.int 0, .long ns, .long sdM, .int (nI n), .int kM, .int (nI B), .int (nI q), .ref w1, .ref w2, .ref w3])), (w1, .inl (G.2.2.1, 100, .inl g)), (w2, .inl (G.2.2.2, 100, .inl h)), (w3, .inl (G.2.2.1, 10, .inl ink0))]) (ru_V (b := mm) (As := [.int (xs (i + 1)), .int (xs (i + 2)), .int (xs (i + 3))]) (rest := [.int (fn_P_point sd k n f (xs (i + 1)) (xs (i + 2)) (xs (i + 3)))]) ⟨hx, hb, hml, hown, ht⟩ hKN (c_M_point l G _ mm w1 w2 w3 ns sdM n kM (nI B) q g h ink0 (xs (i + 1)) (xs (i + 2)) (xs (i + 3)) (hP.sub [10, 11, 12, 13] rfl) ((hD.sub (ws' := [(mm, .inr (3, [.int 0, .long ns, .long sdM, .int (nI n), .int kM, .int (nI B), .int (nI q), .ref w1, .ref w2, .ref w3])), (w1, .inl (G.2.2.1, 100, .inl g)), (w2, .inl (G.2.2.2, 100, .inl h)), (w3, .inl (G.2.2.1, 10, .inl ink0))]) [10, 11, 12, 13] (by decide) rfl).weaken (fun _ _ _ _ => trivial)) hn hq) kc_L_41 ⟨rfl, rfl⟩ ⟨Nat.le_of_ble_eq_true rfl, Nat.le_of_ble_eq_true rfl⟩ (va_recv hK hP (ci := 3) (q0 := 10) rfl rfl) rfl hl.1 rfl (Nat.le_of_ble_eq_true rfl) d_L_law_251 ⟨Nat.le_of_ble_eq_true rfl, Nat.le_of_ble_eq_true rfl⟩) hP hD hS hA [10, 11, 12, 13] [0, 1, 2, 3, 4, 5, 6, 7, 8, 9] [0, 1, 2, 3, 4, 5, 6, 7, 8, 9, 10, 11, 12, 13] rfl rfl ⟨by decide, by decide, by decide⟩ (by decide) rfl rfl (fun H locs hP hD hS => ?_)
  refine lv_icmp_eq (tgt := 453) hx hb d_L_law_254 (by decide) (fun c1 => ?_) (fun c1 => ?_)
  · exact next H locs ls ⟨d1, d2, v1, v2, v3, o1, t1, sd, k, n, fb, f, g, h, q, ns, B, o2, sO, kO, nO, bO, fO, t2, sT, kT, nT, bT, fT, w1, w2, w3, sdM, kM, hP, hD, hR, hnO, hnT⟩ hS (lv_sub hl [0, 1, 2, 3] rfl)
  · exact absurd (rel_point hR (xs (i + 1)) (xs (i + 2)) (xs (i + 3))) c1
set_option maxHeartbeats 4000000 in
set_option maxRecDepth 100000 in
theorem law_case4 {p : Program} {l : Launch} {e : Env} {s : State} {m : MethodId} {below : List Frame} {meth : Method} {c : Code} {b L : Nat} {xs : Nat → Int32} {G : GT} {A : Nat → Prop} {tt : Nat} (hL : L ≤ 2561) (C : LC p s m meth c b L xs G A tt) {i x mm : Nat} (hi : i + 5 ≤ L) {H : Heap} {locs : List Loc} {ls : Array Slot} (hW : Wd G A x mm H) (hS : va_S A s.heap H locs) (hl : lv_has ls 4 [(0, .ref b), (1, .ref x), (2, .ref mm), (3, .int (nI i))])
    (next : ∀ (H : Heap) (locs : List Loc) (ls : Array Slot), Wd G A x mm H → va_S A s.heap H locs → lv_has ls 4 [(0, .ref b), (1, .ref x), (2, .ref mm), (3, .int (nI i))] → W p l e room_1 s m #[Value.ref b] below meth c H locs 14 492 (lw_Z below #[Value.ref b] s) (F0 m 453 ls [])) : W p l e room_1 s m #[Value.ref b] below meth c H locs 14 492 (lw_Z below #[Value.ref b] s) (F0 m 259 ls []) := by
  obtain ⟨hx, hb, hr, hml, hown, ht, hKN, hX, hbl, hlocks, hA, hbA, hZ, hT⟩ := C
  have hK := hKN.1
  obtain ⟨d1, d2, v1, v2, v3, o1, t1, sd, k, n, fb, f, g, h, q, ns, B, o2, sO, kO, nO, bO, fO, t2, sT, kT, nT, bT, fT, w1, w2, w3, sdM, kM, hP, hD, hR, hnO, hnT⟩ := hW
  obtain ⟨hn, hq, hd, hz, hB, hk⟩ := id hR
  by_cases hvd : vdc n (xs (i + 1)) = 0
  · have hvdM : mvd n (xs (i + 1)) = 0 := by rw [vd_eq hn]; exact hvd
    rcases po_vf (xs (i + 1)) hd with ⟨hv, hpo, hno⟩ | ⟨hv, hpo, hg⟩
    · by_cases hq1 : q = 100
      · refine lv_aload_n hx hb d_L_law_259 rfl (lv_at hl 1 rfl) ?_
        refine lv_aload_n hx hb d_L_law_260 rfl (lv_at hl 0 rfl) ?_
        refine lv_iload_n hx hb d_L_law_261 rfl (lv_at hl 3 rfl) ?_
        refine lv_iconst (v := 1) hx hb d_L_law_262 (by decide) ?_
        refine lv_iadd hx hb d_L_law_263 ?_
        rw [show nI i + 1 = nI (i + 1) from nI_add i 1]
        refine va_sld hx hb hX hbl hbA hS (i := nI (i + 1)) (vp_in_nI (show (i + 1) < L by omega) (by omega)) d_L_law_264 ?_
        rw [nI_clamp (show (i + 1) < 2 ^ 31 by omega)]
        refine lv_aload_n hx hb d_L_law_265 rfl (lv_at hl 0 rfl) ?_
        refine lv_iload_n hx hb d_L_law_266 rfl (lv_at hl 3 rfl) ?_
        refine lv_iconst (v := 2) hx hb d_L_law_267 (by decide) ?_
        refine lv_iadd hx hb d_L_law_268 ?_
        rw [show nI i + 2 = nI (i + 2) from nI_add i 2]
        refine va_sld hx hb hX hbl hbA hS (i := nI (i + 2)) (vp_in_nI (show (i + 2) < L by omega) (by omega)) d_L_law_269 ?_
        rw [nI_clamp (show (i + 2) < 2 ^ 31 by omega)]
        refine lv_if_eq (tgt := 277) hx hb d_L_law_270 (by decide) (fun c1 => ?_) (fun c1 => ?_)
        · refine lv_iconst (v := 0) hx hb d_L_law_277 (by decide) ?_
          refine mu_i (wr := [(o1, .inr (1, [.ref o2, .long sO, .int kO, .int (nI nO), .int bO])), (o2, .inl (G.2.1, 16, .inr (.inl fO))), (t1, .inr (1, [.ref t2, .long sT, .int kT, .int (nI nT), .int bT])), (t2, .inl (G.2.1, 16, .inr (.inl fT))), (mm, .inr (3, [.int 0, .long ns, .long sdM, .int (nI n), .int kM, .int (nI B), .int (nI q), .ref w1, .ref w2, .ref w3])), (w1, .inl (G.2.2.1, 100, .inl g)), (w2, .inl (G.2.2.2, 100, .inl h)), (w3, .inl (G.2.2.1, 10, .inl ink0))]) (wn := [(x, .inr (0, [.ref d1, .ref v1, .ref o1, .ref t1, .long ns, .int (nI B)])), (d1, .inr (1, [.ref d2, .long sd, .int k, .int (nI n), .int fb])), (d2, .inl (G.2.1, 16, .inr (.inl f))), (v1, .inr (2, [.ref v2, .ref v3, .int (nI (tln g q (xs (i + 1))))])), (v2, .inl (G.2.2.1, 100, .inl (tlg g q (xs (i + 1))))), (v3, .inl (G.2.2.2, 100, .inl (tlh g h q (xs (i + 1)) 0))), (o1, .inr (1, [.ref o2, .long sO, .int kO, .int (nI nO), .int bO])), (o2, .inl (G.2.1, 16, .inr (.inl fO))), (t1, .inr (1, [.ref t2, .long sT, .int kT, .int (nI nT), .int bT])), (t2, .inl (G.2.1, 16, .inr (.inl fT))), (mm, .inr (3, [.int 0, .long ns, .long sdM, .int (nI n), .int kM, .int (nI B), .int (nI q), .ref w1, .ref w2, .ref w3])), (w1, .inl (G.2.2.1, 100, .inl g)), (w2, .inl (G.2.2.2, 100, .inl h)), (w3, .inl (G.2.2.1, 10, .inl ink0))]) (ru_V (b := x) (As := [.int (xs (i + 1)), .int 0]) (rest := []) ⟨hx, hb, hml, hown, ht⟩ hKN (c_P_verdict l G _ x d1 d2 v1 v2 v3 o1 t1 sd k n fb f g h q ns (nI B) (xs (i + 1)) 0 (hP.sub [0, 1, 2, 3, 4, 5] rfl) ((hD.sub (ws' := [(x, .inr (0, [.ref d1, .ref v1, .ref o1, .ref t1, .long ns, .int (nI B)])), (d1, .inr (1, [.ref d2, .long sd, .int k, .int (nI n), .int fb])), (d2, .inl (G.2.1, 16, .inr (.inl f))), (v1, .inr (2, [.ref v2, .ref v3, .int (nI q)])), (v2, .inl (G.2.2.1, 100, .inl g)), (v3, .inl (G.2.2.2, 100, .inl h))]) [0, 1, 2, 3, 4, 5] (by decide) rfl).weaken (fun _ _ _ _ => trivial)) hn hq hvd) kc_L_42 ⟨rfl, rfl⟩ ⟨Nat.le_of_ble_eq_true rfl, Nat.le_of_ble_eq_true rfl⟩ (va_recv hK hP (ci := 0) (q0 := 0) rfl rfl) rfl hl.1 rfl (Nat.le_of_ble_eq_true rfl) d_L_law_278 ⟨Nat.le_of_ble_eq_true rfl, Nat.le_of_ble_eq_true rfl⟩) hP hD hS hA [0, 1, 2, 3, 4, 5] [6, 7, 8, 9, 10, 11, 12, 13] [8, 9, 10, 11, 12, 13, 0, 1, 2, 3, 4, 5, 6, 7] rfl rfl ⟨by decide, by decide, by decide⟩ (by decide) rfl rfl (fun H locs hP hD hS => ?_)
          obtain ⟨e1, e2, e3, e4⟩ := tell_room (h := h) (y := 0) hv hq1
          rw [e2, e3, e4] at hP hD
          rw [show vdr g q (xs (i + 1)) = (-14) from by unfold vdr; rw [e1, if_pos rfl]]
          have hP : va_P G.1 classes [(x, .inr (0, [.ref d1, .ref v1, .ref o1, .ref t1, .long ns, .int (nI B)])), (d1, .inr (1, [.ref d2, .long sd, .int k, .int (nI n), .int fb])), (d2, .inl (G.2.1, 16, .inr (.inl f))), (v1, .inr (2, [.ref v2, .ref v3, .int (nI q)])), (v2, .inl (G.2.2.1, 100, .inl g)), (v3, .inl (G.2.2.2, 100, .inl h)), (o1, .inr (1, [.ref o2, .long sO, .int kO, .int (nI nO), .int bO])), (o2, .inl (G.2.1, 16, .inr (.inl fO))), (t1, .inr (1, [.ref t2, .long sT, .int kT, .int (nI nT), .int bT])), (t2, .inl (G.2.1, 16, .inr (.inl fT))), (mm, .inr (3, [.int 0, .long ns, .long sdM, .int (nI n), .int kM, .int (nI B), .int (nI q), .ref w1, .ref w2, .ref w3])), (w1, .inl (G.2.2.1, 100, .inl g)), (w2, .inl (G.2.2.2, 100, .inl h)), (w3, .inl (G.2.2.1, 10, .inl ink0))] H := hP
          have hD : va_D A [(x, .inr (0, [.ref d1, .ref v1, .ref o1, .ref t1, .long ns, .int (nI B)])), (d1, .inr (1, [.ref d2, .long sd, .int k, .int (nI n), .int fb])), (d2, .inl (G.2.1, 16, .inr (.inl f))), (v1, .inr (2, [.ref v2, .ref v3, .int (nI q)])), (v2, .inl (G.2.2.1, 100, .inl g)), (v3, .inl (G.2.2.2, 100, .inl h)), (o1, .inr (1, [.ref o2, .long sO, .int kO, .int (nI nO), .int bO])), (o2, .inl (G.2.1, 16, .inr (.inl fO))), (t1, .inr (1, [.ref t2, .long sT, .int kT, .int (nI nT), .int bT])), (t2, .inl (G.2.1, 16, .inr (.inl fT))), (mm, .inr (3, [.int 0, .long ns, .long sdM, .int (nI n), .int kM, .int (nI B), .int (nI q), .ref w1, .ref w2, .ref w3])), (w1, .inl (G.2.2.1, 100, .inl g)), (w2, .inl (G.2.2.2, 100, .inl h)), (w3, .inl (G.2.2.1, 10, .inl ink0))] := hD
          refine lv_aload_n hx hb d_L_law_281 rfl (lv_at hl 2 rfl) ?_
          refine lv_aload_n hx hb d_L_law_282 rfl (lv_at hl 0 rfl) ?_
          refine lv_iload_n hx hb d_L_law_283 rfl (lv_at hl 3 rfl) ?_
          refine lv_iconst (v := 1) hx hb d_L_law_284 (by decide) ?_
          refine lv_iadd hx hb d_L_law_285 ?_
          rw [show nI i + 1 = nI (i + 1) from nI_add i 1]
          refine va_sld hx hb hX hbl hbA hS (i := nI (i + 1)) (vp_in_nI (show (i + 1) < L by omega) (by omega)) d_L_law_286 ?_
          rw [nI_clamp (show (i + 1) < 2 ^ 31 by omega)]
          refine lv_aload_n hx hb d_L_law_287 rfl (lv_at hl 0 rfl) ?_
          refine lv_iload_n hx hb d_L_law_288 rfl (lv_at hl 3 rfl) ?_
          refine lv_iconst (v := 2) hx hb d_L_law_289 (by decide) ?_
          refine lv_iadd hx hb d_L_law_290 ?_
          rw [show nI i + 2 = nI (i + 2) from nI_add i 2]
          refine va_sld hx hb hX hbl hbA hS (i := nI (i + 2)) (vp_in_nI (show (i + 2) < L by omega) (by omega)) d_L_law_291 ?_
          rw [nI_clamp (show (i + 2) < 2 ^ 31 by omega)]
          refine lv_if_eq (tgt := 299) hx hb d_L_law_292 (by decide) (fun c2 => ?_) (fun c2 => ?_)
          · refine lv_iconst (v := 0) hx hb d_L_law_299 (by decide) ?_
            refine mu_i (wr := [(x, .inr (0, [.ref d1, .ref v1, .ref o1, .ref t1, .long ns, .int (nI B)])), (d1, .inr (1, [.ref d2, .long sd, .int k, .int (nI n), .int fb])), (d2, .inl (G.2.1, 16, .inr (.inl f))), (v1, .inr (2, [.ref v2, .ref v3, .int (nI q)])), (v2, .inl (G.2.2.1, 100, .inl g)), (v3, .inl (G.2.2.2, 100, .inl h)), (o1, .inr (1, [.ref o2, .long sO, .int kO, .int (nI nO), .int bO])), (o2, .inl (G.2.1, 16, .inr (.inl fO))), (t1, .inr (1, [.ref t2, .long sT, .int kT, .int (nI nT), .int bT])), (t2, .inl (G.2.1, 16, .inr (.inl fT)))]) (wn := [(x, .inr (0, [.ref d1, .ref v1, .ref o1, .ref t1, .long ns, .int (nI B)])), (d1, .inr (1, [.ref d2, .long sd, .int k, .int (nI n), .int fb])), (d2, .inl (G.2.1, 16, .inr (.inl f))), (v1, .inr (2, [.ref v2, .ref v3, .int (nI q)])), (v2, .inl (G.2.2.1, 100, .inl g)), (v3, .inl (G.2.2.2, 100, .inl h)), (o1, .inr (1, [.ref o2, .long sO, .int kO, .int (nI nO), .int bO])), (o2, .inl (G.2.1, 16, .inr (.inl fO))), (t1, .inr (1, [.ref t2, .long sT, .int kT, .int (nI nT), .int bT])), (t2, .inl (G.2.1, 16, .inr (.inl fT))), (mm, .inr (3, [.int 0, .long ns, .long sdM, .int (nI n), .int kM, .int (nI B), .int (nI q), .ref w1, .ref w2, .ref w3])), (w1, .inl (G.2.2.1, 100, .inl g)), (w2, .inl (G.2.2.2, 100, .inl h)), (w3, .inl (G.2.2.1, 10, .inl ink0))]) (ru_V (b := mm) (As := [.int (xs (i + 1)), .int 0]) (rest := [.int (-14)]) ⟨hx, hb, hml, hown, ht⟩ hKN (c_M_verdict_room l G _ mm w1 w2 w3 ns sdM n kM (nI B) q g h ink0 (xs (i + 1)) 0 (hP.sub [10, 11, 12, 13] rfl) ((hD.sub (ws' := [(mm, .inr (3, [.int 0, .long ns, .long sdM, .int (nI n), .int kM, .int (nI B), .int (nI q), .ref w1, .ref w2, .ref w3])), (w1, .inl (G.2.2.1, 100, .inl g)), (w2, .inl (G.2.2.2, 100, .inl h)), (w3, .inl (G.2.2.1, 10, .inl ink0))]) [10, 11, 12, 13] (by decide) rfl).weaken (fun _ _ _ _ => trivial)) hn hq hvdM hpo (show nI q = 100 from by rw [hq1]; rfl)) kc_L_46 ⟨rfl, rfl⟩ ⟨Nat.le_of_ble_eq_true rfl, Nat.le_of_ble_eq_true rfl⟩ (va_recv hK hP (ci := 3) (q0 := 10) rfl rfl) rfl hl.1 rfl (Nat.le_of_ble_eq_true rfl) d_L_law_300 ⟨Nat.le_of_ble_eq_true rfl, Nat.le_of_ble_eq_true rfl⟩) hP hD hS hA [10, 11, 12, 13] [0, 1, 2, 3, 4, 5, 6, 7, 8, 9] [0, 1, 2, 3, 4, 5, 6, 7, 8, 9, 10, 11, 12, 13] rfl rfl ⟨by decide, by decide, by decide⟩ (by decide) rfl rfl (fun H locs hP hD hS => ?_)
            refine lv_icmp_eq (tgt := 453) hx hb d_L_law_303 (by decide) (fun _ => ?_) (fun c3 => absurd (by decide) c3)
            exact next H locs ls ⟨d1, d2, v1, v2, v3, o1, t1, sd, k, n, fb, f, g, h, q, ns, B, o2, sO, kO, nO, bO, fO, t2, sT, kT, nT, bT, fT, w1, w2, w3, sdM, kM, hP, hD, hR, hnO, hnT⟩ hS (lv_sub hl [0, 1, 2, 3] rfl)
          · exact absurd c1 c2
        · refine lv_iconst (v := 1) hx hb d_L_law_273 (by decide) ?_
          refine lv_goto (tgt := 278) hx hb d_L_law_274 (by decide) ?_
          refine mu_i (wr := [(o1, .inr (1, [.ref o2, .long sO, .int kO, .int (nI nO), .int bO])), (o2, .inl (G.2.1, 16, .inr (.inl fO))), (t1, .inr (1, [.ref t2, .long sT, .int kT, .int (nI nT), .int bT])), (t2, .inl (G.2.1, 16, .inr (.inl fT))), (mm, .inr (3, [.int 0, .long ns, .long sdM, .int (nI n), .int kM, .int (nI B), .int (nI q), .ref w1, .ref w2, .ref w3])), (w1, .inl (G.2.2.1, 100, .inl g)), (w2, .inl (G.2.2.2, 100, .inl h)), (w3, .inl (G.2.2.1, 10, .inl ink0))]) (wn := [(x, .inr (0, [.ref d1, .ref v1, .ref o1, .ref t1, .long ns, .int (nI B)])), (d1, .inr (1, [.ref d2, .long sd, .int k, .int (nI n), .int fb])), (d2, .inl (G.2.1, 16, .inr (.inl f))), (v1, .inr (2, [.ref v2, .ref v3, .int (nI (tln g q (xs (i + 1))))])), (v2, .inl (G.2.2.1, 100, .inl (tlg g q (xs (i + 1))))), (v3, .inl (G.2.2.2, 100, .inl (tlh g h q (xs (i + 1)) 1))), (o1, .inr (1, [.ref o2, .long sO, .int kO, .int (nI nO), .int bO])), (o2, .inl (G.2.1, 16, .inr (.inl fO))), (t1, .inr (1, [.ref t2, .long sT, .int kT, .int (nI nT), .int bT])), (t2, .inl (G.2.1, 16, .inr (.inl fT))), (mm, .inr (3, [.int 0, .long ns, .long sdM, .int (nI n), .int kM, .int (nI B), .int (nI q), .ref w1, .ref w2, .ref w3])), (w1, .inl (G.2.2.1, 100, .inl g)), (w2, .inl (G.2.2.2, 100, .inl h)), (w3, .inl (G.2.2.1, 10, .inl ink0))]) (ru_V (b := x) (As := [.int (xs (i + 1)), .int 1]) (rest := []) ⟨hx, hb, hml, hown, ht⟩ hKN (c_P_verdict l G _ x d1 d2 v1 v2 v3 o1 t1 sd k n fb f g h q ns (nI B) (xs (i + 1)) 1 (hP.sub [0, 1, 2, 3, 4, 5] rfl) ((hD.sub (ws' := [(x, .inr (0, [.ref d1, .ref v1, .ref o1, .ref t1, .long ns, .int (nI B)])), (d1, .inr (1, [.ref d2, .long sd, .int k, .int (nI n), .int fb])), (d2, .inl (G.2.1, 16, .inr (.inl f))), (v1, .inr (2, [.ref v2, .ref v3, .int (nI q)])), (v2, .inl (G.2.2.1, 100, .inl g)), (v3, .inl (G.2.2.2, 100, .inl h))]) [0, 1, 2, 3, 4, 5] (by decide) rfl).weaken (fun _ _ _ _ => trivial)) hn hq hvd) kc_L_42 ⟨rfl, rfl⟩ ⟨Nat.le_of_ble_eq_true rfl, Nat.le_of_ble_eq_true rfl⟩ (va_recv hK hP (ci := 0) (q0 := 0) rfl rfl) rfl hl.1 rfl (Nat.le_of_ble_eq_true rfl) d_L_law_278 ⟨Nat.le_of_ble_eq_true rfl, Nat.le_of_ble_eq_true rfl⟩) hP hD hS hA [0, 1, 2, 3, 4, 5] [6, 7, 8, 9, 10, 11, 12, 13] [8, 9, 10, 11, 12, 13, 0, 1, 2, 3, 4, 5, 6, 7] rfl rfl ⟨by decide, by decide, by decide⟩ (by decide) rfl rfl (fun H locs hP hD hS => ?_)
          obtain ⟨e1, e2, e3, e4⟩ := tell_room (h := h) (y := 1) hv hq1
          rw [e2, e3, e4] at hP hD
          rw [show vdr g q (xs (i + 1)) = (-14) from by unfold vdr; rw [e1, if_pos rfl]]
          have hP : va_P G.1 classes [(x, .inr (0, [.ref d1, .ref v1, .ref o1, .ref t1, .long ns, .int (nI B)])), (d1, .inr (1, [.ref d2, .long sd, .int k, .int (nI n), .int fb])), (d2, .inl (G.2.1, 16, .inr (.inl f))), (v1, .inr (2, [.ref v2, .ref v3, .int (nI q)])), (v2, .inl (G.2.2.1, 100, .inl g)), (v3, .inl (G.2.2.2, 100, .inl h)), (o1, .inr (1, [.ref o2, .long sO, .int kO, .int (nI nO), .int bO])), (o2, .inl (G.2.1, 16, .inr (.inl fO))), (t1, .inr (1, [.ref t2, .long sT, .int kT, .int (nI nT), .int bT])), (t2, .inl (G.2.1, 16, .inr (.inl fT))), (mm, .inr (3, [.int 0, .long ns, .long sdM, .int (nI n), .int kM, .int (nI B), .int (nI q), .ref w1, .ref w2, .ref w3])), (w1, .inl (G.2.2.1, 100, .inl g)), (w2, .inl (G.2.2.2, 100, .inl h)), (w3, .inl (G.2.2.1, 10, .inl ink0))] H := hP
          have hD : va_D A [(x, .inr (0, [.ref d1, .ref v1, .ref o1, .ref t1, .long ns, .int (nI B)])), (d1, .inr (1, [.ref d2, .long sd, .int k, .int (nI n), .int fb])), (d2, .inl (G.2.1, 16, .inr (.inl f))), (v1, .inr (2, [.ref v2, .ref v3, .int (nI q)])), (v2, .inl (G.2.2.1, 100, .inl g)), (v3, .inl (G.2.2.2, 100, .inl h)), (o1, .inr (1, [.ref o2, .long sO, .int kO, .int (nI nO), .int bO])), (o2, .inl (G.2.1, 16, .inr (.inl fO))), (t1, .inr (1, [.ref t2, .long sT, .int kT, .int (nI nT), .int bT])), (t2, .inl (G.2.1, 16, .inr (.inl fT))), (mm, .inr (3, [.int 0, .long ns, .long sdM, .int (nI n), .int kM, .int (nI B), .int (nI q), .ref w1, .ref w2, .ref w3])), (w1, .inl (G.2.2.1, 100, .inl g)), (w2, .inl (G.2.2.2, 100, .inl h)), (w3, .inl (G.2.2.1, 10, .inl ink0))] := hD
          refine lv_aload_n hx hb d_L_law_281 rfl (lv_at hl 2 rfl) ?_
          refine lv_aload_n hx hb d_L_law_282 rfl (lv_at hl 0 rfl) ?_
          refine lv_iload_n hx hb d_L_law_283 rfl (lv_at hl 3 rfl) ?_
          refine lv_iconst (v := 1) hx hb d_L_law_284 (by decide) ?_
          refine lv_iadd hx hb d_L_law_285 ?_
          rw [show nI i + 1 = nI (i + 1) from nI_add i 1]
          refine va_sld hx hb hX hbl hbA hS (i := nI (i + 1)) (vp_in_nI (show (i + 1) < L by omega) (by omega)) d_L_law_286 ?_
          rw [nI_clamp (show (i + 1) < 2 ^ 31 by omega)]
          refine lv_aload_n hx hb d_L_law_287 rfl (lv_at hl 0 rfl) ?_
          refine lv_iload_n hx hb d_L_law_288 rfl (lv_at hl 3 rfl) ?_
          refine lv_iconst (v := 2) hx hb d_L_law_289 (by decide) ?_
          refine lv_iadd hx hb d_L_law_290 ?_
          rw [show nI i + 2 = nI (i + 2) from nI_add i 2]
          refine va_sld hx hb hX hbl hbA hS (i := nI (i + 2)) (vp_in_nI (show (i + 2) < L by omega) (by omega)) d_L_law_291 ?_
          rw [nI_clamp (show (i + 2) < 2 ^ 31 by omega)]
          refine lv_if_eq (tgt := 299) hx hb d_L_law_292 (by decide) (fun c4 => ?_) (fun c4 => ?_)
          · exact absurd c4 c1
          · refine lv_iconst (v := 1) hx hb d_L_law_295 (by decide) ?_
            refine lv_goto (tgt := 300) hx hb d_L_law_296 (by decide) ?_
            refine mu_i (wr := [(x, .inr (0, [.ref d1, .ref v1, .ref o1, .ref t1, .long ns, .int (nI B)])), (d1, .inr (1, [.ref d2, .long sd, .int k, .int (nI n), .int fb])), (d2, .inl (G.2.1, 16, .inr (.inl f))), (v1, .inr (2, [.ref v2, .ref v3, .int (nI q)])), (v2, .inl (G.2.2.1, 100, .inl g)), (v3, .inl (G.2.2.2, 100, .inl h)), (o1, .inr (1, [.ref o2, .long sO, .int kO, .int (nI nO), .int bO])), (o2, .inl (G.2.1, 16, .inr (.inl fO))), (t1, .inr (1, [.ref t2, .long sT, .int kT, .int (nI nT), .int bT])), (t2, .inl (G.2.1, 16, .inr (.inl fT)))]) (wn := [(x, .inr (0, [.ref d1, .ref v1, .ref o1, .ref t1, .long ns, .int (nI B)])), (d1, .inr (1, [.ref d2, .long sd, .int k, .int (nI n), .int fb])), (d2, .inl (G.2.1, 16, .inr (.inl f))), (v1, .inr (2, [.ref v2, .ref v3, .int (nI q)])), (v2, .inl (G.2.2.1, 100, .inl g)), (v3, .inl (G.2.2.2, 100, .inl h)), (o1, .inr (1, [.ref o2, .long sO, .int kO, .int (nI nO), .int bO])), (o2, .inl (G.2.1, 16, .inr (.inl fO))), (t1, .inr (1, [.ref t2, .long sT, .int kT, .int (nI nT), .int bT])), (t2, .inl (G.2.1, 16, .inr (.inl fT))), (mm, .inr (3, [.int 0, .long ns, .long sdM, .int (nI n), .int kM, .int (nI B), .int (nI q), .ref w1, .ref w2, .ref w3])), (w1, .inl (G.2.2.1, 100, .inl g)), (w2, .inl (G.2.2.2, 100, .inl h)), (w3, .inl (G.2.2.1, 10, .inl ink0))]) (ru_V (b := mm) (As := [.int (xs (i + 1)), .int 1]) (rest := [.int (-14)]) ⟨hx, hb, hml, hown, ht⟩ hKN (c_M_verdict_room l G _ mm w1 w2 w3 ns sdM n kM (nI B) q g h ink0 (xs (i + 1)) 1 (hP.sub [10, 11, 12, 13] rfl) ((hD.sub (ws' := [(mm, .inr (3, [.int 0, .long ns, .long sdM, .int (nI n), .int kM, .int (nI B), .int (nI q), .ref w1, .ref w2, .ref w3])), (w1, .inl (G.2.2.1, 100, .inl g)), (w2, .inl (G.2.2.2, 100, .inl h)), (w3, .inl (G.2.2.1, 10, .inl ink0))]) [10, 11, 12, 13] (by decide) rfl).weaken (fun _ _ _ _ => trivial)) hn hq hvdM hpo (show nI q = 100 from by rw [hq1]; rfl)) kc_L_46 ⟨rfl, rfl⟩ ⟨Nat.le_of_ble_eq_true rfl, Nat.le_of_ble_eq_true rfl⟩ (va_recv hK hP (ci := 3) (q0 := 10) rfl rfl) rfl hl.1 rfl (Nat.le_of_ble_eq_true rfl) d_L_law_300 ⟨Nat.le_of_ble_eq_true rfl, Nat.le_of_ble_eq_true rfl⟩) hP hD hS hA [10, 11, 12, 13] [0, 1, 2, 3, 4, 5, 6, 7, 8, 9] [0, 1, 2, 3, 4, 5, 6, 7, 8, 9, 10, 11, 12, 13] rfl rfl ⟨by decide, by decide, by decide⟩ (by decide) rfl rfl (fun H locs hP hD hS => ?_)
            refine lv_icmp_eq (tgt := 453) hx hb d_L_law_303 (by decide) (fun _ => ?_) (fun c5 => absurd (by decide) c5)
            exact next H locs ls ⟨d1, d2, v1, v2, v3, o1, t1, sd, k, n, fb, f, g, h, q, ns, B, o2, sO, kO, nO, bO, fO, t2, sT, kT, nT, bT, fT, w1, w2, w3, sdM, kM, hP, hD, hR, hnO, hnT⟩ hS (lv_sub hl [0, 1, 2, 3] rfl)
      · have hq2 : q < 100 := by omega
        refine lv_aload_n hx hb d_L_law_259 rfl (lv_at hl 1 rfl) ?_
        refine lv_aload_n hx hb d_L_law_260 rfl (lv_at hl 0 rfl) ?_
        refine lv_iload_n hx hb d_L_law_261 rfl (lv_at hl 3 rfl) ?_
        refine lv_iconst (v := 1) hx hb d_L_law_262 (by decide) ?_
        refine lv_iadd hx hb d_L_law_263 ?_
        rw [show nI i + 1 = nI (i + 1) from nI_add i 1]
        refine va_sld hx hb hX hbl hbA hS (i := nI (i + 1)) (vp_in_nI (show (i + 1) < L by omega) (by omega)) d_L_law_264 ?_
        rw [nI_clamp (show (i + 1) < 2 ^ 31 by omega)]
        refine lv_aload_n hx hb d_L_law_265 rfl (lv_at hl 0 rfl) ?_
        refine lv_iload_n hx hb d_L_law_266 rfl (lv_at hl 3 rfl) ?_
        refine lv_iconst (v := 2) hx hb d_L_law_267 (by decide) ?_
        refine lv_iadd hx hb d_L_law_268 ?_
        rw [show nI i + 2 = nI (i + 2) from nI_add i 2]
        refine va_sld hx hb hX hbl hbA hS (i := nI (i + 2)) (vp_in_nI (show (i + 2) < L by omega) (by omega)) d_L_law_269 ?_
        rw [nI_clamp (show (i + 2) < 2 ^ 31 by omega)]
        refine lv_if_eq (tgt := 277) hx hb d_L_law_270 (by decide) (fun c6 => ?_) (fun c6 => ?_)
        · refine lv_iconst (v := 0) hx hb d_L_law_277 (by decide) ?_
          refine mu_i (wr := [(o1, .inr (1, [.ref o2, .long sO, .int kO, .int (nI nO), .int bO])), (o2, .inl (G.2.1, 16, .inr (.inl fO))), (t1, .inr (1, [.ref t2, .long sT, .int kT, .int (nI nT), .int bT])), (t2, .inl (G.2.1, 16, .inr (.inl fT))), (mm, .inr (3, [.int 0, .long ns, .long sdM, .int (nI n), .int kM, .int (nI B), .int (nI q), .ref w1, .ref w2, .ref w3])), (w1, .inl (G.2.2.1, 100, .inl g)), (w2, .inl (G.2.2.2, 100, .inl h)), (w3, .inl (G.2.2.1, 10, .inl ink0))]) (wn := [(x, .inr (0, [.ref d1, .ref v1, .ref o1, .ref t1, .long ns, .int (nI B)])), (d1, .inr (1, [.ref d2, .long sd, .int k, .int (nI n), .int fb])), (d2, .inl (G.2.1, 16, .inr (.inl f))), (v1, .inr (2, [.ref v2, .ref v3, .int (nI (tln g q (xs (i + 1))))])), (v2, .inl (G.2.2.1, 100, .inl (tlg g q (xs (i + 1))))), (v3, .inl (G.2.2.2, 100, .inl (tlh g h q (xs (i + 1)) 0))), (o1, .inr (1, [.ref o2, .long sO, .int kO, .int (nI nO), .int bO])), (o2, .inl (G.2.1, 16, .inr (.inl fO))), (t1, .inr (1, [.ref t2, .long sT, .int kT, .int (nI nT), .int bT])), (t2, .inl (G.2.1, 16, .inr (.inl fT))), (mm, .inr (3, [.int 0, .long ns, .long sdM, .int (nI n), .int kM, .int (nI B), .int (nI q), .ref w1, .ref w2, .ref w3])), (w1, .inl (G.2.2.1, 100, .inl g)), (w2, .inl (G.2.2.2, 100, .inl h)), (w3, .inl (G.2.2.1, 10, .inl ink0))]) (ru_V (b := x) (As := [.int (xs (i + 1)), .int 0]) (rest := []) ⟨hx, hb, hml, hown, ht⟩ hKN (c_P_verdict l G _ x d1 d2 v1 v2 v3 o1 t1 sd k n fb f g h q ns (nI B) (xs (i + 1)) 0 (hP.sub [0, 1, 2, 3, 4, 5] rfl) ((hD.sub (ws' := [(x, .inr (0, [.ref d1, .ref v1, .ref o1, .ref t1, .long ns, .int (nI B)])), (d1, .inr (1, [.ref d2, .long sd, .int k, .int (nI n), .int fb])), (d2, .inl (G.2.1, 16, .inr (.inl f))), (v1, .inr (2, [.ref v2, .ref v3, .int (nI q)])), (v2, .inl (G.2.2.1, 100, .inl g)), (v3, .inl (G.2.2.2, 100, .inl h))]) [0, 1, 2, 3, 4, 5] (by decide) rfl).weaken (fun _ _ _ _ => trivial)) hn hq hvd) kc_L_42 ⟨rfl, rfl⟩ ⟨Nat.le_of_ble_eq_true rfl, Nat.le_of_ble_eq_true rfl⟩ (va_recv hK hP (ci := 0) (q0 := 0) rfl rfl) rfl hl.1 rfl (Nat.le_of_ble_eq_true rfl) d_L_law_278 ⟨Nat.le_of_ble_eq_true rfl, Nat.le_of_ble_eq_true rfl⟩) hP hD hS hA [0, 1, 2, 3, 4, 5] [6, 7, 8, 9, 10, 11, 12, 13] [8, 9, 10, 11, 12, 13, 0, 1, 2, 3, 4, 5, 6, 7] rfl rfl ⟨by decide, by decide, by decide⟩ (by decide) rfl rfl (fun H locs hP hD hS => ?_)
          obtain ⟨e1, e2, e3, e4⟩ := tell_new (h := h) (y := 0) hv hq2
          rw [e2, e3, e4] at hP hD
          rw [show vdr g q (xs (i + 1)) = (nI (q + 1)) from by unfold vdr; rw [e1, if_neg (show ¬ (1 : Int32) = 0 by decide), e4]]
          have hP : va_P G.1 classes [(x, .inr (0, [.ref d1, .ref v1, .ref o1, .ref t1, .long ns, .int (nI B)])), (d1, .inr (1, [.ref d2, .long sd, .int k, .int (nI n), .int fb])), (d2, .inl (G.2.1, 16, .inr (.inl f))), (v1, .inr (2, [.ref v2, .ref v3, .int (nI (q + 1))])), (v2, .inl (G.2.2.1, 100, .inl (upd g q (xs (i + 1))))), (v3, .inl (G.2.2.2, 100, .inl (upd h q (vp_nar .boolean 0)))), (o1, .inr (1, [.ref o2, .long sO, .int kO, .int (nI nO), .int bO])), (o2, .inl (G.2.1, 16, .inr (.inl fO))), (t1, .inr (1, [.ref t2, .long sT, .int kT, .int (nI nT), .int bT])), (t2, .inl (G.2.1, 16, .inr (.inl fT))), (mm, .inr (3, [.int 0, .long ns, .long sdM, .int (nI n), .int kM, .int (nI B), .int (nI q), .ref w1, .ref w2, .ref w3])), (w1, .inl (G.2.2.1, 100, .inl g)), (w2, .inl (G.2.2.2, 100, .inl h)), (w3, .inl (G.2.2.1, 10, .inl ink0))] H := hP
          have hD : va_D A [(x, .inr (0, [.ref d1, .ref v1, .ref o1, .ref t1, .long ns, .int (nI B)])), (d1, .inr (1, [.ref d2, .long sd, .int k, .int (nI n), .int fb])), (d2, .inl (G.2.1, 16, .inr (.inl f))), (v1, .inr (2, [.ref v2, .ref v3, .int (nI (q + 1))])), (v2, .inl (G.2.2.1, 100, .inl (upd g q (xs (i + 1))))), (v3, .inl (G.2.2.2, 100, .inl (upd h q (vp_nar .boolean 0)))), (o1, .inr (1, [.ref o2, .long sO, .int kO, .int (nI nO), .int bO])), (o2, .inl (G.2.1, 16, .inr (.inl fO))), (t1, .inr (1, [.ref t2, .long sT, .int kT, .int (nI nT), .int bT])), (t2, .inl (G.2.1, 16, .inr (.inl fT))), (mm, .inr (3, [.int 0, .long ns, .long sdM, .int (nI n), .int kM, .int (nI B), .int (nI q), .ref w1, .ref w2, .ref w3])), (w1, .inl (G.2.2.1, 100, .inl g)), (w2, .inl (G.2.2.2, 100, .inl h)), (w3, .inl (G.2.2.1, 10, .inl ink0))] := hD
          refine lv_aload_n hx hb d_L_law_281 rfl (lv_at hl 2 rfl) ?_
          refine lv_aload_n hx hb d_L_law_282 rfl (lv_at hl 0 rfl) ?_
          refine lv_iload_n hx hb d_L_law_283 rfl (lv_at hl 3 rfl) ?_
          refine lv_iconst (v := 1) hx hb d_L_law_284 (by decide) ?_
          refine lv_iadd hx hb d_L_law_285 ?_
          rw [show nI i + 1 = nI (i + 1) from nI_add i 1]
          refine va_sld hx hb hX hbl hbA hS (i := nI (i + 1)) (vp_in_nI (show (i + 1) < L by omega) (by omega)) d_L_law_286 ?_
          rw [nI_clamp (show (i + 1) < 2 ^ 31 by omega)]
          refine lv_aload_n hx hb d_L_law_287 rfl (lv_at hl 0 rfl) ?_
          refine lv_iload_n hx hb d_L_law_288 rfl (lv_at hl 3 rfl) ?_
          refine lv_iconst (v := 2) hx hb d_L_law_289 (by decide) ?_
          refine lv_iadd hx hb d_L_law_290 ?_
          rw [show nI i + 2 = nI (i + 2) from nI_add i 2]
          refine va_sld hx hb hX hbl hbA hS (i := nI (i + 2)) (vp_in_nI (show (i + 2) < L by omega) (by omega)) d_L_law_291 ?_
          rw [nI_clamp (show (i + 2) < 2 ^ 31 by omega)]
          refine lv_if_eq (tgt := 299) hx hb d_L_law_292 (by decide) (fun c7 => ?_) (fun c7 => ?_)
          · refine lv_iconst (v := 0) hx hb d_L_law_299 (by decide) ?_
            refine mu_i (wr := [(x, .inr (0, [.ref d1, .ref v1, .ref o1, .ref t1, .long ns, .int (nI B)])), (d1, .inr (1, [.ref d2, .long sd, .int k, .int (nI n), .int fb])), (d2, .inl (G.2.1, 16, .inr (.inl f))), (v1, .inr (2, [.ref v2, .ref v3, .int (nI (q + 1))])), (v2, .inl (G.2.2.1, 100, .inl (upd g q (xs (i + 1))))), (v3, .inl (G.2.2.2, 100, .inl (upd h q (vp_nar .boolean 0)))), (o1, .inr (1, [.ref o2, .long sO, .int kO, .int (nI nO), .int bO])), (o2, .inl (G.2.1, 16, .inr (.inl fO))), (t1, .inr (1, [.ref t2, .long sT, .int kT, .int (nI nT), .int bT])), (t2, .inl (G.2.1, 16, .inr (.inl fT)))]) (wn := [(x, .inr (0, [.ref d1, .ref v1, .ref o1, .ref t1, .long ns, .int (nI B)])), (d1, .inr (1, [.ref d2, .long sd, .int k, .int (nI n), .int fb])), (d2, .inl (G.2.1, 16, .inr (.inl f))), (v1, .inr (2, [.ref v2, .ref v3, .int (nI (q + 1))])), (v2, .inl (G.2.2.1, 100, .inl (upd g q (xs (i + 1))))), (v3, .inl (G.2.2.2, 100, .inl (upd h q (vp_nar .boolean 0)))), (o1, .inr (1, [.ref o2, .long sO, .int kO, .int (nI nO), .int bO])), (o2, .inl (G.2.1, 16, .inr (.inl fO))), (t1, .inr (1, [.ref t2, .long sT, .int kT, .int (nI nT), .int bT])), (t2, .inl (G.2.1, 16, .inr (.inl fT))), (mm, .inr (3, [.int 0, .long ns, .long sdM, .int (nI n), .int kM, .int (nI B), .int (nI (q + 1)), .ref w1, .ref w2, .ref w3])), (w1, .inl (G.2.2.1, 100, .inl (upd g q (xs (i + 1))))), (w2, .inl (G.2.2.2, 100, .inl (upd h q (vp_nar .boolean 0)))), (w3, .inl (G.2.2.1, 10, .inl ink0))]) (ru_V (b := mm) (As := [.int (xs (i + 1)), .int 0]) (rest := [.int (nI (q + 1))]) ⟨hx, hb, hml, hown, ht⟩ hKN (c_M_verdict_new l G _ mm w1 w2 w3 ns sdM n kM (nI B) q g h ink0 (xs (i + 1)) 0 (hP.sub [10, 11, 12, 13] rfl) ((hD.sub (ws' := [(mm, .inr (3, [.int 0, .long ns, .long sdM, .int (nI n), .int kM, .int (nI B), .int (nI q), .ref w1, .ref w2, .ref w3])), (w1, .inl (G.2.2.1, 100, .inl g)), (w2, .inl (G.2.2.2, 100, .inl h)), (w3, .inl (G.2.2.1, 10, .inl ink0))]) [10, 11, 12, 13] (by decide) rfl).weaken (fun _ _ _ _ => trivial)) hn hq hvdM hpo (show ¬ nI q = 100 from fun z => absurd ((nI_eq (b := 100) (by omega) (by omega)).mp z) (by omega)) hq2) kc_L_46 ⟨rfl, rfl⟩ ⟨Nat.le_of_ble_eq_true rfl, Nat.le_of_ble_eq_true rfl⟩ (va_recv hK hP (ci := 3) (q0 := 10) rfl rfl) rfl hl.1 rfl (Nat.le_of_ble_eq_true rfl) d_L_law_300 ⟨Nat.le_of_ble_eq_true rfl, Nat.le_of_ble_eq_true rfl⟩) hP hD hS hA [10, 11, 12, 13] [0, 1, 2, 3, 4, 5, 6, 7, 8, 9] [0, 1, 2, 3, 4, 5, 6, 7, 8, 9, 10, 11, 12, 13] rfl rfl ⟨by decide, by decide, by decide⟩ (by decide) rfl rfl (fun H locs hP hD hS => ?_)
            refine lv_icmp_eq (tgt := 453) hx hb d_L_law_303 (by decide) (fun c8 => ?_) (fun c8 => ?_)
            · exact next H locs ls ⟨d1, d2, v1, v2, v3, o1, t1, sd, k, n, fb, f, (upd g q (xs (i + 1))), (upd h q (vp_nar .boolean 0)), (q + 1), ns, B, o2, sO, kO, nO, bO, fO, t2, sT, kT, nT, bT, fT, w1, w2, w3, sdM, kM, hP, hD, ⟨hn, by omega, hd.new hno, nz_new hz (vd_0 hvd), hB, hk⟩, hnO, hnT⟩ hS (lv_sub hl [0, 1, 2, 3] rfl)
            · exact absurd rfl c8
          · exact absurd c6 c7
        · refine lv_iconst (v := 1) hx hb d_L_law_273 (by decide) ?_
          refine lv_goto (tgt := 278) hx hb d_L_law_274 (by decide) ?_
          refine mu_i (wr := [(o1, .inr (1, [.ref o2, .long sO, .int kO, .int (nI nO), .int bO])), (o2, .inl (G.2.1, 16, .inr (.inl fO))), (t1, .inr (1, [.ref t2, .long sT, .int kT, .int (nI nT), .int bT])), (t2, .inl (G.2.1, 16, .inr (.inl fT))), (mm, .inr (3, [.int 0, .long ns, .long sdM, .int (nI n), .int kM, .int (nI B), .int (nI q), .ref w1, .ref w2, .ref w3])), (w1, .inl (G.2.2.1, 100, .inl g)), (w2, .inl (G.2.2.2, 100, .inl h)), (w3, .inl (G.2.2.1, 10, .inl ink0))]) (wn := [(x, .inr (0, [.ref d1, .ref v1, .ref o1, .ref t1, .long ns, .int (nI B)])), (d1, .inr (1, [.ref d2, .long sd, .int k, .int (nI n), .int fb])), (d2, .inl (G.2.1, 16, .inr (.inl f))), (v1, .inr (2, [.ref v2, .ref v3, .int (nI (tln g q (xs (i + 1))))])), (v2, .inl (G.2.2.1, 100, .inl (tlg g q (xs (i + 1))))), (v3, .inl (G.2.2.2, 100, .inl (tlh g h q (xs (i + 1)) 1))), (o1, .inr (1, [.ref o2, .long sO, .int kO, .int (nI nO), .int bO])), (o2, .inl (G.2.1, 16, .inr (.inl fO))), (t1, .inr (1, [.ref t2, .long sT, .int kT, .int (nI nT), .int bT])), (t2, .inl (G.2.1, 16, .inr (.inl fT))), (mm, .inr (3, [.int 0, .long ns, .long sdM, .int (nI n), .int kM, .int (nI B), .int (nI q), .ref w1, .ref w2, .ref w3])), (w1, .inl (G.2.2.1, 100, .inl g)), (w2, .inl (G.2.2.2, 100, .inl h)), (w3, .inl (G.2.2.1, 10, .inl ink0))]) (ru_V (b := x) (As := [.int (xs (i + 1)), .int 1]) (rest := []) ⟨hx, hb, hml, hown, ht⟩ hKN (c_P_verdict l G _ x d1 d2 v1 v2 v3 o1 t1 sd k n fb f g h q ns (nI B) (xs (i + 1)) 1 (hP.sub [0, 1, 2, 3, 4, 5] rfl) ((hD.sub (ws' := [(x, .inr (0, [.ref d1, .ref v1, .ref o1, .ref t1, .long ns, .int (nI B)])), (d1, .inr (1, [.ref d2, .long sd, .int k, .int (nI n), .int fb])), (d2, .inl (G.2.1, 16, .inr (.inl f))), (v1, .inr (2, [.ref v2, .ref v3, .int (nI q)])), (v2, .inl (G.2.2.1, 100, .inl g)), (v3, .inl (G.2.2.2, 100, .inl h))]) [0, 1, 2, 3, 4, 5] (by decide) rfl).weaken (fun _ _ _ _ => trivial)) hn hq hvd) kc_L_42 ⟨rfl, rfl⟩ ⟨Nat.le_of_ble_eq_true rfl, Nat.le_of_ble_eq_true rfl⟩ (va_recv hK hP (ci := 0) (q0 := 0) rfl rfl) rfl hl.1 rfl (Nat.le_of_ble_eq_true rfl) d_L_law_278 ⟨Nat.le_of_ble_eq_true rfl, Nat.le_of_ble_eq_true rfl⟩) hP hD hS hA [0, 1, 2, 3, 4, 5] [6, 7, 8, 9, 10, 11, 12, 13] [8, 9, 10, 11, 12, 13, 0, 1, 2, 3, 4, 5, 6, 7] rfl rfl ⟨by decide, by decide, by decide⟩ (by decide) rfl rfl (fun H locs hP hD hS => ?_)
          obtain ⟨e1, e2, e3, e4⟩ := tell_new (h := h) (y := 1) hv hq2
          rw [e2, e3, e4] at hP hD
          rw [show vdr g q (xs (i + 1)) = (nI (q + 1)) from by unfold vdr; rw [e1, if_neg (show ¬ (1 : Int32) = 0 by decide), e4]]
          have hP : va_P G.1 classes [(x, .inr (0, [.ref d1, .ref v1, .ref o1, .ref t1, .long ns, .int (nI B)])), (d1, .inr (1, [.ref d2, .long sd, .int k, .int (nI n), .int fb])), (d2, .inl (G.2.1, 16, .inr (.inl f))), (v1, .inr (2, [.ref v2, .ref v3, .int (nI (q + 1))])), (v2, .inl (G.2.2.1, 100, .inl (upd g q (xs (i + 1))))), (v3, .inl (G.2.2.2, 100, .inl (upd h q (vp_nar .boolean 1)))), (o1, .inr (1, [.ref o2, .long sO, .int kO, .int (nI nO), .int bO])), (o2, .inl (G.2.1, 16, .inr (.inl fO))), (t1, .inr (1, [.ref t2, .long sT, .int kT, .int (nI nT), .int bT])), (t2, .inl (G.2.1, 16, .inr (.inl fT))), (mm, .inr (3, [.int 0, .long ns, .long sdM, .int (nI n), .int kM, .int (nI B), .int (nI q), .ref w1, .ref w2, .ref w3])), (w1, .inl (G.2.2.1, 100, .inl g)), (w2, .inl (G.2.2.2, 100, .inl h)), (w3, .inl (G.2.2.1, 10, .inl ink0))] H := hP
          have hD : va_D A [(x, .inr (0, [.ref d1, .ref v1, .ref o1, .ref t1, .long ns, .int (nI B)])), (d1, .inr (1, [.ref d2, .long sd, .int k, .int (nI n), .int fb])), (d2, .inl (G.2.1, 16, .inr (.inl f))), (v1, .inr (2, [.ref v2, .ref v3, .int (nI (q + 1))])), (v2, .inl (G.2.2.1, 100, .inl (upd g q (xs (i + 1))))), (v3, .inl (G.2.2.2, 100, .inl (upd h q (vp_nar .boolean 1)))), (o1, .inr (1, [.ref o2, .long sO, .int kO, .int (nI nO), .int bO])), (o2, .inl (G.2.1, 16, .inr (.inl fO))), (t1, .inr (1, [.ref t2, .long sT, .int kT, .int (nI nT), .int bT])), (t2, .inl (G.2.1, 16, .inr (.inl fT))), (mm, .inr (3, [.int 0, .long ns, .long sdM, .int (nI n), .int kM, .int (nI B), .int (nI q), .ref w1, .ref w2, .ref w3])), (w1, .inl (G.2.2.1, 100, .inl g)), (w2, .inl (G.2.2.2, 100, .inl h)), (w3, .inl (G.2.2.1, 10, .inl ink0))] := hD
          refine lv_aload_n hx hb d_L_law_281 rfl (lv_at hl 2 rfl) ?_
          refine lv_aload_n hx hb d_L_law_282 rfl (lv_at hl 0 rfl) ?_
          refine lv_iload_n hx hb d_L_law_283 rfl (lv_at hl 3 rfl) ?_
          refine lv_iconst (v := 1) hx hb d_L_law_284 (by decide) ?_
          refine lv_iadd hx hb d_L_law_285 ?_
          rw [show nI i + 1 = nI (i + 1) from nI_add i 1]
          refine va_sld hx hb hX hbl hbA hS (i := nI (i + 1)) (vp_in_nI (show (i + 1) < L by omega) (by omega)) d_L_law_286 ?_
          rw [nI_clamp (show (i + 1) < 2 ^ 31 by omega)]
          refine lv_aload_n hx hb d_L_law_287 rfl (lv_at hl 0 rfl) ?_
          refine lv_iload_n hx hb d_L_law_288 rfl (lv_at hl 3 rfl) ?_
          refine lv_iconst (v := 2) hx hb d_L_law_289 (by decide) ?_
          refine lv_iadd hx hb d_L_law_290 ?_
          rw [show nI i + 2 = nI (i + 2) from nI_add i 2]
          refine va_sld hx hb hX hbl hbA hS (i := nI (i + 2)) (vp_in_nI (show (i + 2) < L by omega) (by omega)) d_L_law_291 ?_
          rw [nI_clamp (show (i + 2) < 2 ^ 31 by omega)]
          refine lv_if_eq (tgt := 299) hx hb d_L_law_292 (by decide) (fun c9 => ?_) (fun c9 => ?_)
          · exact absurd c9 c6
          · refine lv_iconst (v := 1) hx hb d_L_law_295 (by decide) ?_
            refine lv_goto (tgt := 300) hx hb d_L_law_296 (by decide) ?_
            refine mu_i (wr := [(x, .inr (0, [.ref d1, .ref v1, .ref o1, .ref t1, .long ns, .int (nI B)])), (d1, .inr (1, [.ref d2, .long sd, .int k, .int (nI n), .int fb])), (d2, .inl (G.2.1, 16, .inr (.inl f))), (v1, .inr (2, [.ref v2, .ref v3, .int (nI (q + 1))])), (v2, .inl (G.2.2.1, 100, .inl (upd g q (xs (i + 1))))), (v3, .inl (G.2.2.2, 100, .inl (upd h q (vp_nar .boolean 1)))), (o1, .inr (1, [.ref o2, .long sO, .int kO, .int (nI nO), .int bO])), (o2, .inl (G.2.1, 16, .inr (.inl fO))), (t1, .inr (1, [.ref t2, .long sT, .int kT, .int (nI nT), .int bT])), (t2, .inl (G.2.1, 16, .inr (.inl fT)))]) (wn := [(x, .inr (0, [.ref d1, .ref v1, .ref o1, .ref t1, .long ns, .int (nI B)])), (d1, .inr (1, [.ref d2, .long sd, .int k, .int (nI n), .int fb])), (d2, .inl (G.2.1, 16, .inr (.inl f))), (v1, .inr (2, [.ref v2, .ref v3, .int (nI (q + 1))])), (v2, .inl (G.2.2.1, 100, .inl (upd g q (xs (i + 1))))), (v3, .inl (G.2.2.2, 100, .inl (upd h q (vp_nar .boolean 1)))), (o1, .inr (1, [.ref o2, .long sO, .int kO, .int (nI nO), .int bO])), (o2, .inl (G.2.1, 16, .inr (.inl fO))), (t1, .inr (1, [.ref t2, .long sT, .int kT, .int (nI nT), .int bT])), (t2, .inl (G.2.1, 16, .inr (.inl fT))), (mm, .inr (3, [.int 0, .long ns, .long sdM, .int (nI n), .int kM, .int (nI B), .int (nI (q + 1)), .ref w1, .ref w2, .ref w3])), (w1, .inl (G.2.2.1, 100, .inl (upd g q (xs (i + 1))))), (w2, .inl (G.2.2.2, 100, .inl (upd h q (vp_nar .boolean 1)))), (w3, .inl (G.2.2.1, 10, .inl ink0))]) (ru_V (b := mm) (As := [.int (xs (i + 1)), .int 1]) (rest := [.int (nI (q + 1))]) ⟨hx, hb, hml, hown, ht⟩ hKN (c_M_verdict_new l G _ mm w1 w2 w3 ns sdM n kM (nI B) q g h ink0 (xs (i + 1)) 1 (hP.sub [10, 11, 12, 13] rfl) ((hD.sub (ws' := [(mm, .inr (3, [.int 0, .long ns, .long sdM, .int (nI n), .int kM, .int (nI B), .int (nI q), .ref w1, .ref w2, .ref w3])), (w1, .inl (G.2.2.1, 100, .inl g)), (w2, .inl (G.2.2.2, 100, .inl h)), (w3, .inl (G.2.2.1, 10, .inl ink0))]) [10, 11, 12, 13] (by decide) rfl).weaken (fun _ _ _ _ => trivial)) hn hq hvdM hpo (show ¬ nI q = 100 from fun z => absurd ((nI_eq (b := 100) (by omega) (by omega)).mp z) (by omega)) hq2) kc_L_46 ⟨rfl, rfl⟩ ⟨Nat.le_of_ble_eq_true rfl, Nat.le_of_ble_eq_true rfl⟩ (va_recv hK hP (ci := 3) (q0 := 10) rfl rfl) rfl hl.1 rfl (Nat.le_of_ble_eq_true rfl) d_L_law_300 ⟨Nat.le_of_ble_eq_true rfl, Nat.le_of_ble_eq_true rfl⟩) hP hD hS hA [10, 11, 12, 13] [0, 1, 2, 3, 4, 5, 6, 7, 8, 9] [0, 1, 2, 3, 4, 5, 6, 7, 8, 9, 10, 11, 12, 13] rfl rfl ⟨by decide, by decide, by decide⟩ (by decide) rfl rfl (fun H locs hP hD hS => ?_)
            refine lv_icmp_eq (tgt := 453) hx hb d_L_law_303 (by decide) (fun c10 => ?_) (fun c10 => ?_)
            · exact next H locs ls ⟨d1, d2, v1, v2, v3, o1, t1, sd, k, n, fb, f, (upd g q (xs (i + 1))), (upd h q (vp_nar .boolean 1)), (q + 1), ns, B, o2, sO, kO, nO, bO, fO, t2, sT, kT, nT, bT, fT, w1, w2, w3, sdM, kM, hP, hD, ⟨hn, by omega, hd.new hno, nz_new hz (vd_0 hvd), hB, hk⟩, hnO, hnT⟩ hS (lv_sub hl [0, 1, 2, 3] rfl)
            · exact absurd rfl c10
    · refine lv_aload_n hx hb d_L_law_259 rfl (lv_at hl 1 rfl) ?_
      refine lv_aload_n hx hb d_L_law_260 rfl (lv_at hl 0 rfl) ?_
      refine lv_iload_n hx hb d_L_law_261 rfl (lv_at hl 3 rfl) ?_
      refine lv_iconst (v := 1) hx hb d_L_law_262 (by decide) ?_
      refine lv_iadd hx hb d_L_law_263 ?_
      rw [show nI i + 1 = nI (i + 1) from nI_add i 1]
      refine va_sld hx hb hX hbl hbA hS (i := nI (i + 1)) (vp_in_nI (show (i + 1) < L by omega) (by omega)) d_L_law_264 ?_
      rw [nI_clamp (show (i + 1) < 2 ^ 31 by omega)]
      refine lv_aload_n hx hb d_L_law_265 rfl (lv_at hl 0 rfl) ?_
      refine lv_iload_n hx hb d_L_law_266 rfl (lv_at hl 3 rfl) ?_
      refine lv_iconst (v := 2) hx hb d_L_law_267 (by decide) ?_
      refine lv_iadd hx hb d_L_law_268 ?_
      rw [show nI i + 2 = nI (i + 2) from nI_add i 2]
      refine va_sld hx hb hX hbl hbA hS (i := nI (i + 2)) (vp_in_nI (show (i + 2) < L by omega) (by omega)) d_L_law_269 ?_
      rw [nI_clamp (show (i + 2) < 2 ^ 31 by omega)]
      refine lv_if_eq (tgt := 277) hx hb d_L_law_270 (by decide) (fun c11 => ?_) (fun c11 => ?_)
      · refine lv_iconst (v := 0) hx hb d_L_law_277 (by decide) ?_
        refine mu_i (wr := [(o1, .inr (1, [.ref o2, .long sO, .int kO, .int (nI nO), .int bO])), (o2, .inl (G.2.1, 16, .inr (.inl fO))), (t1, .inr (1, [.ref t2, .long sT, .int kT, .int (nI nT), .int bT])), (t2, .inl (G.2.1, 16, .inr (.inl fT))), (mm, .inr (3, [.int 0, .long ns, .long sdM, .int (nI n), .int kM, .int (nI B), .int (nI q), .ref w1, .ref w2, .ref w3])), (w1, .inl (G.2.2.1, 100, .inl g)), (w2, .inl (G.2.2.2, 100, .inl h)), (w3, .inl (G.2.2.1, 10, .inl ink0))]) (wn := [(x, .inr (0, [.ref d1, .ref v1, .ref o1, .ref t1, .long ns, .int (nI B)])), (d1, .inr (1, [.ref d2, .long sd, .int k, .int (nI n), .int fb])), (d2, .inl (G.2.1, 16, .inr (.inl f))), (v1, .inr (2, [.ref v2, .ref v3, .int (nI (tln g q (xs (i + 1))))])), (v2, .inl (G.2.2.1, 100, .inl (tlg g q (xs (i + 1))))), (v3, .inl (G.2.2.2, 100, .inl (tlh g h q (xs (i + 1)) 0))), (o1, .inr (1, [.ref o2, .long sO, .int kO, .int (nI nO), .int bO])), (o2, .inl (G.2.1, 16, .inr (.inl fO))), (t1, .inr (1, [.ref t2, .long sT, .int kT, .int (nI nT), .int bT])), (t2, .inl (G.2.1, 16, .inr (.inl fT))), (mm, .inr (3, [.int 0, .long ns, .long sdM, .int (nI n), .int kM, .int (nI B), .int (nI q), .ref w1, .ref w2, .ref w3])), (w1, .inl (G.2.2.1, 100, .inl g)), (w2, .inl (G.2.2.2, 100, .inl h)), (w3, .inl (G.2.2.1, 10, .inl ink0))]) (ru_V (b := x) (As := [.int (xs (i + 1)), .int 0]) (rest := []) ⟨hx, hb, hml, hown, ht⟩ hKN (c_P_verdict l G _ x d1 d2 v1 v2 v3 o1 t1 sd k n fb f g h q ns (nI B) (xs (i + 1)) 0 (hP.sub [0, 1, 2, 3, 4, 5] rfl) ((hD.sub (ws' := [(x, .inr (0, [.ref d1, .ref v1, .ref o1, .ref t1, .long ns, .int (nI B)])), (d1, .inr (1, [.ref d2, .long sd, .int k, .int (nI n), .int fb])), (d2, .inl (G.2.1, 16, .inr (.inl f))), (v1, .inr (2, [.ref v2, .ref v3, .int (nI q)])), (v2, .inl (G.2.2.1, 100, .inl g)), (v3, .inl (G.2.2.2, 100, .inl h))]) [0, 1, 2, 3, 4, 5] (by decide) rfl).weaken (fun _ _ _ _ => trivial)) hn hq hvd) kc_L_42 ⟨rfl, rfl⟩ ⟨Nat.le_of_ble_eq_true rfl, Nat.le_of_ble_eq_true rfl⟩ (va_recv hK hP (ci := 0) (q0 := 0) rfl rfl) rfl hl.1 rfl (Nat.le_of_ble_eq_true rfl) d_L_law_278 ⟨Nat.le_of_ble_eq_true rfl, Nat.le_of_ble_eq_true rfl⟩) hP hD hS hA [0, 1, 2, 3, 4, 5] [6, 7, 8, 9, 10, 11, 12, 13] [8, 9, 10, 11, 12, 13, 0, 1, 2, 3, 4, 5, 6, 7] rfl rfl ⟨by decide, by decide, by decide⟩ (by decide) rfl rfl (fun H locs hP hD hS => ?_)
        obtain ⟨e1, e2, e3, e4⟩ := tell_old (h := h) (y := 0) hq hv
        rw [e2, e3, e4] at hP hD
        rw [show vdr g q (xs (i + 1)) = (nI q) from by unfold vdr; rw [e1, if_neg (show ¬ (1 : Int32) = 0 by decide), e4]]
        have hP : va_P G.1 classes [(x, .inr (0, [.ref d1, .ref v1, .ref o1, .ref t1, .long ns, .int (nI B)])), (d1, .inr (1, [.ref d2, .long sd, .int k, .int (nI n), .int fb])), (d2, .inl (G.2.1, 16, .inr (.inl f))), (v1, .inr (2, [.ref v2, .ref v3, .int (nI q)])), (v2, .inl (G.2.2.1, 100, .inl g)), (v3, .inl (G.2.2.2, 100, .inl (upd h (vf g (xs (i + 1)) q 0) (vp_nar .boolean 0)))), (o1, .inr (1, [.ref o2, .long sO, .int kO, .int (nI nO), .int bO])), (o2, .inl (G.2.1, 16, .inr (.inl fO))), (t1, .inr (1, [.ref t2, .long sT, .int kT, .int (nI nT), .int bT])), (t2, .inl (G.2.1, 16, .inr (.inl fT))), (mm, .inr (3, [.int 0, .long ns, .long sdM, .int (nI n), .int kM, .int (nI B), .int (nI q), .ref w1, .ref w2, .ref w3])), (w1, .inl (G.2.2.1, 100, .inl g)), (w2, .inl (G.2.2.2, 100, .inl h)), (w3, .inl (G.2.2.1, 10, .inl ink0))] H := hP
        have hD : va_D A [(x, .inr (0, [.ref d1, .ref v1, .ref o1, .ref t1, .long ns, .int (nI B)])), (d1, .inr (1, [.ref d2, .long sd, .int k, .int (nI n), .int fb])), (d2, .inl (G.2.1, 16, .inr (.inl f))), (v1, .inr (2, [.ref v2, .ref v3, .int (nI q)])), (v2, .inl (G.2.2.1, 100, .inl g)), (v3, .inl (G.2.2.2, 100, .inl (upd h (vf g (xs (i + 1)) q 0) (vp_nar .boolean 0)))), (o1, .inr (1, [.ref o2, .long sO, .int kO, .int (nI nO), .int bO])), (o2, .inl (G.2.1, 16, .inr (.inl fO))), (t1, .inr (1, [.ref t2, .long sT, .int kT, .int (nI nT), .int bT])), (t2, .inl (G.2.1, 16, .inr (.inl fT))), (mm, .inr (3, [.int 0, .long ns, .long sdM, .int (nI n), .int kM, .int (nI B), .int (nI q), .ref w1, .ref w2, .ref w3])), (w1, .inl (G.2.2.1, 100, .inl g)), (w2, .inl (G.2.2.2, 100, .inl h)), (w3, .inl (G.2.2.1, 10, .inl ink0))] := hD
        refine lv_aload_n hx hb d_L_law_281 rfl (lv_at hl 2 rfl) ?_
        refine lv_aload_n hx hb d_L_law_282 rfl (lv_at hl 0 rfl) ?_
        refine lv_iload_n hx hb d_L_law_283 rfl (lv_at hl 3 rfl) ?_
        refine lv_iconst (v := 1) hx hb d_L_law_284 (by decide) ?_
        refine lv_iadd hx hb d_L_law_285 ?_
        rw [show nI i + 1 = nI (i + 1) from nI_add i 1]
        refine va_sld hx hb hX hbl hbA hS (i := nI (i + 1)) (vp_in_nI (show (i + 1) < L by omega) (by omega)) d_L_law_286 ?_
        rw [nI_clamp (show (i + 1) < 2 ^ 31 by omega)]
        refine lv_aload_n hx hb d_L_law_287 rfl (lv_at hl 0 rfl) ?_
        refine lv_iload_n hx hb d_L_law_288 rfl (lv_at hl 3 rfl) ?_
        refine lv_iconst (v := 2) hx hb d_L_law_289 (by decide) ?_
        refine lv_iadd hx hb d_L_law_290 ?_
        rw [show nI i + 2 = nI (i + 2) from nI_add i 2]
        refine va_sld hx hb hX hbl hbA hS (i := nI (i + 2)) (vp_in_nI (show (i + 2) < L by omega) (by omega)) d_L_law_291 ?_
        rw [nI_clamp (show (i + 2) < 2 ^ 31 by omega)]
        refine lv_if_eq (tgt := 299) hx hb d_L_law_292 (by decide) (fun c12 => ?_) (fun c12 => ?_)
        · refine lv_iconst (v := 0) hx hb d_L_law_299 (by decide) ?_
          refine mu_i (wr := [(x, .inr (0, [.ref d1, .ref v1, .ref o1, .ref t1, .long ns, .int (nI B)])), (d1, .inr (1, [.ref d2, .long sd, .int k, .int (nI n), .int fb])), (d2, .inl (G.2.1, 16, .inr (.inl f))), (v1, .inr (2, [.ref v2, .ref v3, .int (nI q)])), (v2, .inl (G.2.2.1, 100, .inl g)), (v3, .inl (G.2.2.2, 100, .inl (upd h (vf g (xs (i + 1)) q 0) (vp_nar .boolean 0)))), (o1, .inr (1, [.ref o2, .long sO, .int kO, .int (nI nO), .int bO])), (o2, .inl (G.2.1, 16, .inr (.inl fO))), (t1, .inr (1, [.ref t2, .long sT, .int kT, .int (nI nT), .int bT])), (t2, .inl (G.2.1, 16, .inr (.inl fT)))]) (wn := [(x, .inr (0, [.ref d1, .ref v1, .ref o1, .ref t1, .long ns, .int (nI B)])), (d1, .inr (1, [.ref d2, .long sd, .int k, .int (nI n), .int fb])), (d2, .inl (G.2.1, 16, .inr (.inl f))), (v1, .inr (2, [.ref v2, .ref v3, .int (nI q)])), (v2, .inl (G.2.2.1, 100, .inl g)), (v3, .inl (G.2.2.2, 100, .inl (upd h (vf g (xs (i + 1)) q 0) (vp_nar .boolean 0)))), (o1, .inr (1, [.ref o2, .long sO, .int kO, .int (nI nO), .int bO])), (o2, .inl (G.2.1, 16, .inr (.inl fO))), (t1, .inr (1, [.ref t2, .long sT, .int kT, .int (nI nT), .int bT])), (t2, .inl (G.2.1, 16, .inr (.inl fT))), (mm, .inr (3, [.int 0, .long ns, .long sdM, .int (nI n), .int kM, .int (nI B), .int (nI q), .ref w1, .ref w2, .ref w3])), (w1, .inl (G.2.2.1, 100, .inl (upd g (vf g (xs (i + 1)) q 0) (xs (i + 1))))), (w2, .inl (G.2.2.2, 100, .inl (upd h (vf g (xs (i + 1)) q 0) (vp_nar .boolean 0)))), (w3, .inl (G.2.2.1, 10, .inl ink0))]) (ru_V (b := mm) (As := [.int (xs (i + 1)), .int 0]) (rest := [.int (nI q)]) ⟨hx, hb, hml, hown, ht⟩ hKN (c_M_verdict_old l G _ mm w1 w2 w3 ns sdM n kM (nI B) q g h ink0 (xs (i + 1)) 0 (vf g (xs (i + 1)) q 0) (hP.sub [10, 11, 12, 13] rfl) ((hD.sub (ws' := [(mm, .inr (3, [.int 0, .long ns, .long sdM, .int (nI n), .int kM, .int (nI B), .int (nI q), .ref w1, .ref w2, .ref w3])), (w1, .inl (G.2.2.1, 100, .inl g)), (w2, .inl (G.2.2.2, 100, .inl h)), (w3, .inl (G.2.2.1, 10, .inl ink0))]) [10, 11, 12, 13] (by decide) rfl).weaken (fun _ _ _ _ => trivial)) hn hq hvdM hv hpo) kc_L_46 ⟨rfl, rfl⟩ ⟨Nat.le_of_ble_eq_true rfl, Nat.le_of_ble_eq_true rfl⟩ (va_recv hK hP (ci := 3) (q0 := 10) rfl rfl) rfl hl.1 rfl (Nat.le_of_ble_eq_true rfl) d_L_law_300 ⟨Nat.le_of_ble_eq_true rfl, Nat.le_of_ble_eq_true rfl⟩) hP hD hS hA [10, 11, 12, 13] [0, 1, 2, 3, 4, 5, 6, 7, 8, 9] [0, 1, 2, 3, 4, 5, 6, 7, 8, 9, 10, 11, 12, 13] rfl rfl ⟨by decide, by decide, by decide⟩ (by decide) rfl rfl (fun H locs hP hD hS => ?_)
          rw [upd_same hg] at hP hD
          refine lv_icmp_eq (tgt := 453) hx hb d_L_law_303 (by decide) (fun c13 => ?_) (fun c13 => ?_)
          · exact next H locs ls ⟨d1, d2, v1, v2, v3, o1, t1, sd, k, n, fb, f, g, (upd h (vf g (xs (i + 1)) q 0) (vp_nar .boolean 0)), q, ns, B, o2, sO, kO, nO, bO, fO, t2, sT, kT, nT, bT, fT, w1, w2, w3, sdM, kM, hP, hD, ⟨hn, hq, hd, hz, hB, hk⟩, hnO, hnT⟩ hS (lv_sub hl [0, 1, 2, 3] rfl)
          · exact absurd rfl c13
        · exact absurd c11 c12
      · refine lv_iconst (v := 1) hx hb d_L_law_273 (by decide) ?_
        refine lv_goto (tgt := 278) hx hb d_L_law_274 (by decide) ?_
        refine mu_i (wr := [(o1, .inr (1, [.ref o2, .long sO, .int kO, .int (nI nO), .int bO])), (o2, .inl (G.2.1, 16, .inr (.inl fO))), (t1, .inr (1, [.ref t2, .long sT, .int kT, .int (nI nT), .int bT])), (t2, .inl (G.2.1, 16, .inr (.inl fT))), (mm, .inr (3, [.int 0, .long ns, .long sdM, .int (nI n), .int kM, .int (nI B), .int (nI q), .ref w1, .ref w2, .ref w3])), (w1, .inl (G.2.2.1, 100, .inl g)), (w2, .inl (G.2.2.2, 100, .inl h)), (w3, .inl (G.2.2.1, 10, .inl ink0))]) (wn := [(x, .inr (0, [.ref d1, .ref v1, .ref o1, .ref t1, .long ns, .int (nI B)])), (d1, .inr (1, [.ref d2, .long sd, .int k, .int (nI n), .int fb])), (d2, .inl (G.2.1, 16, .inr (.inl f))), (v1, .inr (2, [.ref v2, .ref v3, .int (nI (tln g q (xs (i + 1))))])), (v2, .inl (G.2.2.1, 100, .inl (tlg g q (xs (i + 1))))), (v3, .inl (G.2.2.2, 100, .inl (tlh g h q (xs (i + 1)) 1))), (o1, .inr (1, [.ref o2, .long sO, .int kO, .int (nI nO), .int bO])), (o2, .inl (G.2.1, 16, .inr (.inl fO))), (t1, .inr (1, [.ref t2, .long sT, .int kT, .int (nI nT), .int bT])), (t2, .inl (G.2.1, 16, .inr (.inl fT))), (mm, .inr (3, [.int 0, .long ns, .long sdM, .int (nI n), .int kM, .int (nI B), .int (nI q), .ref w1, .ref w2, .ref w3])), (w1, .inl (G.2.2.1, 100, .inl g)), (w2, .inl (G.2.2.2, 100, .inl h)), (w3, .inl (G.2.2.1, 10, .inl ink0))]) (ru_V (b := x) (As := [.int (xs (i + 1)), .int 1]) (rest := []) ⟨hx, hb, hml, hown, ht⟩ hKN (c_P_verdict l G _ x d1 d2 v1 v2 v3 o1 t1 sd k n fb f g h q ns (nI B) (xs (i + 1)) 1 (hP.sub [0, 1, 2, 3, 4, 5] rfl) ((hD.sub (ws' := [(x, .inr (0, [.ref d1, .ref v1, .ref o1, .ref t1, .long ns, .int (nI B)])), (d1, .inr (1, [.ref d2, .long sd, .int k, .int (nI n), .int fb])), (d2, .inl (G.2.1, 16, .inr (.inl f))), (v1, .inr (2, [.ref v2, .ref v3, .int (nI q)])), (v2, .inl (G.2.2.1, 100, .inl g)), (v3, .inl (G.2.2.2, 100, .inl h))]) [0, 1, 2, 3, 4, 5] (by decide) rfl).weaken (fun _ _ _ _ => trivial)) hn hq hvd) kc_L_42 ⟨rfl, rfl⟩ ⟨Nat.le_of_ble_eq_true rfl, Nat.le_of_ble_eq_true rfl⟩ (va_recv hK hP (ci := 0) (q0 := 0) rfl rfl) rfl hl.1 rfl (Nat.le_of_ble_eq_true rfl) d_L_law_278 ⟨Nat.le_of_ble_eq_true rfl, Nat.le_of_ble_eq_true rfl⟩) hP hD hS hA [0, 1, 2, 3, 4, 5] [6, 7, 8, 9, 10, 11, 12, 13] [8, 9, 10, 11, 12, 13, 0, 1, 2, 3, 4, 5, 6, 7] rfl rfl ⟨by decide, by decide, by decide⟩ (by decide) rfl rfl (fun H locs hP hD hS => ?_)
        obtain ⟨e1, e2, e3, e4⟩ := tell_old (h := h) (y := 1) hq hv
        rw [e2, e3, e4] at hP hD
        rw [show vdr g q (xs (i + 1)) = (nI q) from by unfold vdr; rw [e1, if_neg (show ¬ (1 : Int32) = 0 by decide), e4]]
        have hP : va_P G.1 classes [(x, .inr (0, [.ref d1, .ref v1, .ref o1, .ref t1, .long ns, .int (nI B)])), (d1, .inr (1, [.ref d2, .long sd, .int k, .int (nI n), .int fb])), (d2, .inl (G.2.1, 16, .inr (.inl f))), (v1, .inr (2, [.ref v2, .ref v3, .int (nI q)])), (v2, .inl (G.2.2.1, 100, .inl g)), (v3, .inl (G.2.2.2, 100, .inl (upd h (vf g (xs (i + 1)) q 0) (vp_nar .boolean 1)))), (o1, .inr (1, [.ref o2, .long sO, .int kO, .int (nI nO), .int bO])), (o2, .inl (G.2.1, 16, .inr (.inl fO))), (t1, .inr (1, [.ref t2, .long sT, .int kT, .int (nI nT), .int bT])), (t2, .inl (G.2.1, 16, .inr (.inl fT))), (mm, .inr (3, [.int 0, .long ns, .long sdM, .int (nI n), .int kM, .int (nI B), .int (nI q), .ref w1, .ref w2, .ref w3])), (w1, .inl (G.2.2.1, 100, .inl g)), (w2, .inl (G.2.2.2, 100, .inl h)), (w3, .inl (G.2.2.1, 10, .inl ink0))] H := hP
        have hD : va_D A [(x, .inr (0, [.ref d1, .ref v1, .ref o1, .ref t1, .long ns, .int (nI B)])), (d1, .inr (1, [.ref d2, .long sd, .int k, .int (nI n), .int fb])), (d2, .inl (G.2.1, 16, .inr (.inl f))), (v1, .inr (2, [.ref v2, .ref v3, .int (nI q)])), (v2, .inl (G.2.2.1, 100, .inl g)), (v3, .inl (G.2.2.2, 100, .inl (upd h (vf g (xs (i + 1)) q 0) (vp_nar .boolean 1)))), (o1, .inr (1, [.ref o2, .long sO, .int kO, .int (nI nO), .int bO])), (o2, .inl (G.2.1, 16, .inr (.inl fO))), (t1, .inr (1, [.ref t2, .long sT, .int kT, .int (nI nT), .int bT])), (t2, .inl (G.2.1, 16, .inr (.inl fT))), (mm, .inr (3, [.int 0, .long ns, .long sdM, .int (nI n), .int kM, .int (nI B), .int (nI q), .ref w1, .ref w2, .ref w3])), (w1, .inl (G.2.2.1, 100, .inl g)), (w2, .inl (G.2.2.2, 100, .inl h)), (w3, .inl (G.2.2.1, 10, .inl ink0))] := hD
        refine lv_aload_n hx hb d_L_law_281 rfl (lv_at hl 2 rfl) ?_
        refine lv_aload_n hx hb d_L_law_282 rfl (lv_at hl 0 rfl) ?_
        refine lv_iload_n hx hb d_L_law_283 rfl (lv_at hl 3 rfl) ?_
        refine lv_iconst (v := 1) hx hb d_L_law_284 (by decide) ?_
        refine lv_iadd hx hb d_L_law_285 ?_
        rw [show nI i + 1 = nI (i + 1) from nI_add i 1]
        refine va_sld hx hb hX hbl hbA hS (i := nI (i + 1)) (vp_in_nI (show (i + 1) < L by omega) (by omega)) d_L_law_286 ?_
        rw [nI_clamp (show (i + 1) < 2 ^ 31 by omega)]
        refine lv_aload_n hx hb d_L_law_287 rfl (lv_at hl 0 rfl) ?_
        refine lv_iload_n hx hb d_L_law_288 rfl (lv_at hl 3 rfl) ?_
        refine lv_iconst (v := 2) hx hb d_L_law_289 (by decide) ?_
        refine lv_iadd hx hb d_L_law_290 ?_
        rw [show nI i + 2 = nI (i + 2) from nI_add i 2]
        refine va_sld hx hb hX hbl hbA hS (i := nI (i + 2)) (vp_in_nI (show (i + 2) < L by omega) (by omega)) d_L_law_291 ?_
        rw [nI_clamp (show (i + 2) < 2 ^ 31 by omega)]
        refine lv_if_eq (tgt := 299) hx hb d_L_law_292 (by decide) (fun c14 => ?_) (fun c14 => ?_)
        · exact absurd c14 c11
        · refine lv_iconst (v := 1) hx hb d_L_law_295 (by decide) ?_
          refine lv_goto (tgt := 300) hx hb d_L_law_296 (by decide) ?_
          refine mu_i (wr := [(x, .inr (0, [.ref d1, .ref v1, .ref o1, .ref t1, .long ns, .int (nI B)])), (d1, .inr (1, [.ref d2, .long sd, .int k, .int (nI n), .int fb])), (d2, .inl (G.2.1, 16, .inr (.inl f))), (v1, .inr (2, [.ref v2, .ref v3, .int (nI q)])), (v2, .inl (G.2.2.1, 100, .inl g)), (v3, .inl (G.2.2.2, 100, .inl (upd h (vf g (xs (i + 1)) q 0) (vp_nar .boolean 1)))), (o1, .inr (1, [.ref o2, .long sO, .int kO, .int (nI nO), .int bO])), (o2, .inl (G.2.1, 16, .inr (.inl fO))), (t1, .inr (1, [.ref t2, .long sT, .int kT, .int (nI nT), .int bT])), (t2, .inl (G.2.1, 16, .inr (.inl fT)))]) (wn := [(x, .inr (0, [.ref d1, .ref v1, .ref o1, .ref t1, .long ns, .int (nI B)])), (d1, .inr (1, [.ref d2, .long sd, .int k, .int (nI n), .int fb])), (d2, .inl (G.2.1, 16, .inr (.inl f))), (v1, .inr (2, [.ref v2, .ref v3, .int (nI q)])), (v2, .inl (G.2.2.1, 100, .inl g)), (v3, .inl (G.2.2.2, 100, .inl (upd h (vf g (xs (i + 1)) q 0) (vp_nar .boolean 1)))), (o1, .inr (1, [.ref o2, .long sO, .int kO, .int (nI nO), .int bO])), (o2, .inl (G.2.1, 16, .inr (.inl fO))), (t1, .inr (1, [.ref t2, .long sT, .int kT, .int (nI nT), .int bT])), (t2, .inl (G.2.1, 16, .inr (.inl fT))), (mm, .inr (3, [.int 0, .long ns, .long sdM, .int (nI n), .int kM, .int (nI B), .int (nI q), .ref w1, .ref w2, .ref w3])), (w1, .inl (G.2.2.1, 100, .inl (upd g (vf g (xs (i + 1)) q 0) (xs (i + 1))))), (w2, .inl (G.2.2.2, 100, .inl (upd h (vf g (xs (i + 1)) q 0) (vp_nar .boolean 1)))), (w3, .inl (G.2.2.1, 10, .inl ink0))]) (ru_V (b := mm) (As := [.int (xs (i + 1)), .int 1]) (rest := [.int (nI q)]) ⟨hx, hb, hml, hown, ht⟩ hKN (c_M_verdict_old l G _ mm w1 w2 w3 ns sdM n kM (nI B) q g h ink0 (xs (i + 1)) 1 (vf g (xs (i + 1)) q 0) (hP.sub [10, 11, 12, 13] rfl) ((hD.sub (ws' := [(mm, .inr (3, [.int 0, .long ns, .long sdM, .int (nI n), .int kM, .int (nI B), .int (nI q), .ref w1, .ref w2, .ref w3])), (w1, .inl (G.2.2.1, 100, .inl g)), (w2, .inl (G.2.2.2, 100, .inl h)), (w3, .inl (G.2.2.1, 10, .inl ink0))]) [10, 11, 12, 13] (by decide) rfl).weaken (fun _ _ _ _ => trivial)) hn hq hvdM hv hpo) kc_L_46 ⟨rfl, rfl⟩ ⟨Nat.le_of_ble_eq_true rfl, Nat.le_of_ble_eq_true rfl⟩ (va_recv hK hP (ci := 3) (q0 := 10) rfl rfl) rfl hl.1 rfl (Nat.le_of_ble_eq_true rfl) d_L_law_300 ⟨Nat.le_of_ble_eq_true rfl, Nat.le_of_ble_eq_true rfl⟩) hP hD hS hA [10, 11, 12, 13] [0, 1, 2, 3, 4, 5, 6, 7, 8, 9] [0, 1, 2, 3, 4, 5, 6, 7, 8, 9, 10, 11, 12, 13] rfl rfl ⟨by decide, by decide, by decide⟩ (by decide) rfl rfl (fun H locs hP hD hS => ?_)
          rw [upd_same hg] at hP hD
          refine lv_icmp_eq (tgt := 453) hx hb d_L_law_303 (by decide) (fun c15 => ?_) (fun c15 => ?_)
          · exact next H locs ls ⟨d1, d2, v1, v2, v3, o1, t1, sd, k, n, fb, f, g, (upd h (vf g (xs (i + 1)) q 0) (vp_nar .boolean 1)), q, ns, B, o2, sO, kO, nO, bO, fO, t2, sT, kT, nT, bT, fT, w1, w2, w3, sdM, kM, hP, hD, ⟨hn, hq, hd, hz, hB, hk⟩, hnO, hnT⟩ hS (lv_sub hl [0, 1, 2, 3] rfl)
          · exact absurd rfl c15
  · have hvdM : ¬ mvd n (xs (i + 1)) = 0 := by rw [vd_eq hn]; exact hvd
    refine lv_aload_n hx hb d_L_law_259 rfl (lv_at hl 1 rfl) ?_
    refine lv_aload_n hx hb d_L_law_260 rfl (lv_at hl 0 rfl) ?_
    refine lv_iload_n hx hb d_L_law_261 rfl (lv_at hl 3 rfl) ?_
    refine lv_iconst (v := 1) hx hb d_L_law_262 (by decide) ?_
    refine lv_iadd hx hb d_L_law_263 ?_
    rw [show nI i + 1 = nI (i + 1) from nI_add i 1]
    refine va_sld hx hb hX hbl hbA hS (i := nI (i + 1)) (vp_in_nI (show (i + 1) < L by omega) (by omega)) d_L_law_264 ?_
    rw [nI_clamp (show (i + 1) < 2 ^ 31 by omega)]
    refine lv_aload_n hx hb d_L_law_265 rfl (lv_at hl 0 rfl) ?_
    refine lv_iload_n hx hb d_L_law_266 rfl (lv_at hl 3 rfl) ?_
    refine lv_iconst (v := 2) hx hb d_L_law_267 (by decide) ?_
    refine lv_iadd hx hb d_L_law_268 ?_
    rw [show nI i + 2 = nI (i + 2) from nI_add i 2]
    refine va_sld hx hb hX hbl hbA hS (i := nI (i + 2)) (vp_in_nI (show (i + 2) < L by omega) (by omega)) d_L_law_269 ?_
    rw [nI_clamp (show (i + 2) < 2 ^ 31 by omega)]
    refine lv_if_eq (tgt := 277) hx hb d_L_law_270 (by decide) (fun c16 => ?_) (fun c16 => ?_)
    · refine lv_iconst (v := 0) hx hb d_L_law_277 (by decide) ?_
      refine pr_i (ru_V (b := x) (As := [.int (xs (i + 1)), .int 0]) (rest := []) ⟨hx, hb, hml, hown, ht⟩ hKN (c_P_verdict_no l G _ x d1 d2 v1 v2 v3 o1 t1 sd k n fb f g h q ns (nI B) (xs (i + 1)) 0 (hP.sub [0, 1, 2, 3, 4, 5] rfl) hn hq hvd) kc_L_42 ⟨rfl, rfl⟩ ⟨Nat.le_of_ble_eq_true rfl, Nat.le_of_ble_eq_true rfl⟩ (va_recv hK hP (ci := 0) (q0 := 0) rfl rfl) rfl hl.1 rfl (Nat.le_of_ble_eq_true rfl) d_L_law_278 ⟨Nat.le_of_ble_eq_true rfl, Nat.le_of_ble_eq_true rfl⟩) ?_
      refine lv_aload_n hx hb d_L_law_281 rfl (lv_at hl 2 rfl) ?_
      refine lv_aload_n hx hb d_L_law_282 rfl (lv_at hl 0 rfl) ?_
      refine lv_iload_n hx hb d_L_law_283 rfl (lv_at hl 3 rfl) ?_
      refine lv_iconst (v := 1) hx hb d_L_law_284 (by decide) ?_
      refine lv_iadd hx hb d_L_law_285 ?_
      rw [show nI i + 1 = nI (i + 1) from nI_add i 1]
      refine va_sld hx hb hX hbl hbA hS (i := nI (i + 1)) (vp_in_nI (show (i + 1) < L by omega) (by omega)) d_L_law_286 ?_
      rw [nI_clamp (show (i + 1) < 2 ^ 31 by omega)]
      refine lv_aload_n hx hb d_L_law_287 rfl (lv_at hl 0 rfl) ?_
      refine lv_iload_n hx hb d_L_law_288 rfl (lv_at hl 3 rfl) ?_
      refine lv_iconst (v := 2) hx hb d_L_law_289 (by decide) ?_
      refine lv_iadd hx hb d_L_law_290 ?_
      rw [show nI i + 2 = nI (i + 2) from nI_add i 2]
      refine va_sld hx hb hX hbl hbA hS (i := nI (i + 2)) (vp_in_nI (show (i + 2) < L by omega) (by omega)) d_L_law_291 ?_
      rw [nI_clamp (show (i + 2) < 2 ^ 31 by omega)]
      refine lv_if_eq (tgt := 299) hx hb d_L_law_292 (by decide) (fun c17 => ?_) (fun c17 => ?_)
      · refine lv_iconst (v := 0) hx hb d_L_law_299 (by decide) ?_
        refine mu_i (wr := [(x, .inr (0, [.ref d1, .ref v1, .ref o1, .ref t1, .long ns, .int (nI B)])), (d1, .inr (1, [.ref d2, .long sd, .int k, .int (nI n), .int fb])), (d2, .inl (G.2.1, 16, .inr (.inl f))), (v1, .inr (2, [.ref v2, .ref v3, .int (nI q)])), (v2, .inl (G.2.2.1, 100, .inl g)), (v3, .inl (G.2.2.2, 100, .inl h)), (o1, .inr (1, [.ref o2, .long sO, .int kO, .int (nI nO), .int bO])), (o2, .inl (G.2.1, 16, .inr (.inl fO))), (t1, .inr (1, [.ref t2, .long sT, .int kT, .int (nI nT), .int bT])), (t2, .inl (G.2.1, 16, .inr (.inl fT)))]) (wn := [(x, .inr (0, [.ref d1, .ref v1, .ref o1, .ref t1, .long ns, .int (nI B)])), (d1, .inr (1, [.ref d2, .long sd, .int k, .int (nI n), .int fb])), (d2, .inl (G.2.1, 16, .inr (.inl f))), (v1, .inr (2, [.ref v2, .ref v3, .int (nI q)])), (v2, .inl (G.2.2.1, 100, .inl g)), (v3, .inl (G.2.2.2, 100, .inl h)), (o1, .inr (1, [.ref o2, .long sO, .int kO, .int (nI nO), .int bO])), (o2, .inl (G.2.1, 16, .inr (.inl fO))), (t1, .inr (1, [.ref t2, .long sT, .int kT, .int (nI nT), .int bT])), (t2, .inl (G.2.1, 16, .inr (.inl fT))), (mm, .inr (3, [.int 0, .long ns, .long sdM, .int (nI n), .int kM, .int (nI B), .int (nI q), .ref w1, .ref w2, .ref w3])), (w1, .inl (G.2.2.1, 100, .inl g)), (w2, .inl (G.2.2.2, 100, .inl h)), (w3, .inl (G.2.2.1, 10, .inl ink0))]) (ru_V (b := mm) (As := [.int (xs (i + 1)), .int 0]) (rest := [.int (vdc n (xs (i + 1)))]) ⟨hx, hb, hml, hown, ht⟩ hKN (c_M_verdict_no l G _ mm w1 w2 w3 ns sdM n kM (nI B) q g h ink0 (xs (i + 1)) 0 (hP.sub [10, 11, 12, 13] rfl) ((hD.sub (ws' := [(mm, .inr (3, [.int 0, .long ns, .long sdM, .int (nI n), .int kM, .int (nI B), .int (nI q), .ref w1, .ref w2, .ref w3])), (w1, .inl (G.2.2.1, 100, .inl g)), (w2, .inl (G.2.2.2, 100, .inl h)), (w3, .inl (G.2.2.1, 10, .inl ink0))]) [10, 11, 12, 13] (by decide) rfl).weaken (fun _ _ _ _ => trivial)) hn hq hvdM) kc_L_46 ⟨rfl, rfl⟩ ⟨Nat.le_of_ble_eq_true rfl, Nat.le_of_ble_eq_true rfl⟩ (va_recv hK hP (ci := 3) (q0 := 10) rfl rfl) rfl hl.1 rfl (Nat.le_of_ble_eq_true rfl) d_L_law_300 ⟨Nat.le_of_ble_eq_true rfl, Nat.le_of_ble_eq_true rfl⟩) hP hD hS hA [10, 11, 12, 13] [0, 1, 2, 3, 4, 5, 6, 7, 8, 9] [0, 1, 2, 3, 4, 5, 6, 7, 8, 9, 10, 11, 12, 13] rfl rfl ⟨by decide, by decide, by decide⟩ (by decide) rfl rfl (fun H locs hP hD hS => ?_)
        refine lv_icmp_eq (tgt := 453) hx hb d_L_law_303 (by decide) (fun c18 => ?_) (fun c18 => ?_)
        · exact next H locs ls ⟨d1, d2, v1, v2, v3, o1, t1, sd, k, n, fb, f, g, h, q, ns, B, o2, sO, kO, nO, bO, fO, t2, sT, kT, nT, bT, fT, w1, w2, w3, sdM, kM, hP, hD, hR, hnO, hnT⟩ hS (lv_sub hl [0, 1, 2, 3] rfl)
        · exact absurd (vd_eq hn (xs (i + 1))).symm c18
      · exact absurd c16 c17
    · refine lv_iconst (v := 1) hx hb d_L_law_273 (by decide) ?_
      refine lv_goto (tgt := 278) hx hb d_L_law_274 (by decide) ?_
      refine pr_i (ru_V (b := x) (As := [.int (xs (i + 1)), .int 1]) (rest := []) ⟨hx, hb, hml, hown, ht⟩ hKN (c_P_verdict_no l G _ x d1 d2 v1 v2 v3 o1 t1 sd k n fb f g h q ns (nI B) (xs (i + 1)) 1 (hP.sub [0, 1, 2, 3, 4, 5] rfl) hn hq hvd) kc_L_42 ⟨rfl, rfl⟩ ⟨Nat.le_of_ble_eq_true rfl, Nat.le_of_ble_eq_true rfl⟩ (va_recv hK hP (ci := 0) (q0 := 0) rfl rfl) rfl hl.1 rfl (Nat.le_of_ble_eq_true rfl) d_L_law_278 ⟨Nat.le_of_ble_eq_true rfl, Nat.le_of_ble_eq_true rfl⟩) ?_
      refine lv_aload_n hx hb d_L_law_281 rfl (lv_at hl 2 rfl) ?_
      refine lv_aload_n hx hb d_L_law_282 rfl (lv_at hl 0 rfl) ?_
      refine lv_iload_n hx hb d_L_law_283 rfl (lv_at hl 3 rfl) ?_
      refine lv_iconst (v := 1) hx hb d_L_law_284 (by decide) ?_
      refine lv_iadd hx hb d_L_law_285 ?_
      rw [show nI i + 1 = nI (i + 1) from nI_add i 1]
      refine va_sld hx hb hX hbl hbA hS (i := nI (i + 1)) (vp_in_nI (show (i + 1) < L by omega) (by omega)) d_L_law_286 ?_
      rw [nI_clamp (show (i + 1) < 2 ^ 31 by omega)]
      refine lv_aload_n hx hb d_L_law_287 rfl (lv_at hl 0 rfl) ?_
      refine lv_iload_n hx hb d_L_law_288 rfl (lv_at hl 3 rfl) ?_
      refine lv_iconst (v := 2) hx hb d_L_law_289 (by decide) ?_
      refine lv_iadd hx hb d_L_law_290 ?_
      rw [show nI i + 2 = nI (i + 2) from nI_add i 2]
      refine va_sld hx hb hX hbl hbA hS (i := nI (i + 2)) (vp_in_nI (show (i + 2) < L by omega) (by omega)) d_L_law_291 ?_
      rw [nI_clamp (show (i + 2) < 2 ^ 31 by omega)]
      refine lv_if_eq (tgt := 299) hx hb d_L_law_292 (by decide) (fun c19 => ?_) (fun c19 => ?_)
      · exact absurd c19 c16
      · refine lv_iconst (v := 1) hx hb d_L_law_295 (by decide) ?_
        refine lv_goto (tgt := 300) hx hb d_L_law_296 (by decide) ?_
        refine mu_i (wr := [(x, .inr (0, [.ref d1, .ref v1, .ref o1, .ref t1, .long ns, .int (nI B)])), (d1, .inr (1, [.ref d2, .long sd, .int k, .int (nI n), .int fb])), (d2, .inl (G.2.1, 16, .inr (.inl f))), (v1, .inr (2, [.ref v2, .ref v3, .int (nI q)])), (v2, .inl (G.2.2.1, 100, .inl g)), (v3, .inl (G.2.2.2, 100, .inl h)), (o1, .inr (1, [.ref o2, .long sO, .int kO, .int (nI nO), .int bO])), (o2, .inl (G.2.1, 16, .inr (.inl fO))), (t1, .inr (1, [.ref t2, .long sT, .int kT, .int (nI nT), .int bT])), (t2, .inl (G.2.1, 16, .inr (.inl fT)))]) (wn := [(x, .inr (0, [.ref d1, .ref v1, .ref o1, .ref t1, .long ns, .int (nI B)])), (d1, .inr (1, [.ref d2, .long sd, .int k, .int (nI n), .int fb])), (d2, .inl (G.2.1, 16, .inr (.inl f))), (v1, .inr (2, [.ref v2, .ref v3, .int (nI q)])), (v2, .inl (G.2.2.1, 100, .inl g)), (v3, .inl (G.2.2.2, 100, .inl h)), (o1, .inr (1, [.ref o2, .long sO, .int kO, .int (nI nO), .int bO])), (o2, .inl (G.2.1, 16, .inr (.inl fO))), (t1, .inr (1, [.ref t2, .long sT, .int kT, .int (nI nT), .int bT])), (t2, .inl (G.2.1, 16, .inr (.inl fT))), (mm, .inr (3, [.int 0, .long ns, .long sdM, .int (nI n), .int kM, .int (nI B), .int (nI q), .ref w1, .ref w2, .ref w3])), (w1, .inl (G.2.2.1, 100, .inl g)), (w2, .inl (G.2.2.2, 100, .inl h)), (w3, .inl (G.2.2.1, 10, .inl ink0))]) (ru_V (b := mm) (As := [.int (xs (i + 1)), .int 1]) (rest := [.int (vdc n (xs (i + 1)))]) ⟨hx, hb, hml, hown, ht⟩ hKN (c_M_verdict_no l G _ mm w1 w2 w3 ns sdM n kM (nI B) q g h ink0 (xs (i + 1)) 1 (hP.sub [10, 11, 12, 13] rfl) ((hD.sub (ws' := [(mm, .inr (3, [.int 0, .long ns, .long sdM, .int (nI n), .int kM, .int (nI B), .int (nI q), .ref w1, .ref w2, .ref w3])), (w1, .inl (G.2.2.1, 100, .inl g)), (w2, .inl (G.2.2.2, 100, .inl h)), (w3, .inl (G.2.2.1, 10, .inl ink0))]) [10, 11, 12, 13] (by decide) rfl).weaken (fun _ _ _ _ => trivial)) hn hq hvdM) kc_L_46 ⟨rfl, rfl⟩ ⟨Nat.le_of_ble_eq_true rfl, Nat.le_of_ble_eq_true rfl⟩ (va_recv hK hP (ci := 3) (q0 := 10) rfl rfl) rfl hl.1 rfl (Nat.le_of_ble_eq_true rfl) d_L_law_300 ⟨Nat.le_of_ble_eq_true rfl, Nat.le_of_ble_eq_true rfl⟩) hP hD hS hA [10, 11, 12, 13] [0, 1, 2, 3, 4, 5, 6, 7, 8, 9] [0, 1, 2, 3, 4, 5, 6, 7, 8, 9, 10, 11, 12, 13] rfl rfl ⟨by decide, by decide, by decide⟩ (by decide) rfl rfl (fun H locs hP hD hS => ?_)
        refine lv_icmp_eq (tgt := 453) hx hb d_L_law_303 (by decide) (fun c20 => ?_) (fun c20 => ?_)
        · exact next H locs ls ⟨d1, d2, v1, v2, v3, o1, t1, sd, k, n, fb, f, g, h, q, ns, B, o2, sO, kO, nO, bO, fO, t2, sT, kT, nT, bT, fT, w1, w2, w3, sdM, kM, hP, hD, hR, hnO, hnT⟩ hS (lv_sub hl [0, 1, 2, 3] rfl)
        · exact absurd (vd_eq hn (xs (i + 1))).symm c20
set_option maxHeartbeats 4000000 in
set_option maxRecDepth 100000 in
theorem law_case5 {p : Program} {l : Launch} {e : Env} {s : State} {m : MethodId} {below : List Frame} {meth : Method} {c : Code} {b L : Nat} {xs : Nat → Int32} {G : GT} {A : Nat → Prop} {tt : Nat} (hL : L ≤ 2561) (C : LC p s m meth c b L xs G A tt) {i x mm : Nat} (hi : i + 5 ≤ L) {H : Heap} {locs : List Loc} {ls : Array Slot} (hW : Wd G A x mm H) (hS : va_S A s.heap H locs) (hl : lv_has ls 4 [(0, .ref b), (1, .ref x), (2, .ref mm), (3, .int (nI i))])
    (next : ∀ (H : Heap) (locs : List Loc) (ls : Array Slot), Wd G A x mm H → va_S A s.heap H locs → lv_has ls 4 [(0, .ref b), (1, .ref x), (2, .ref mm), (3, .int (nI i))] → W p l e room_1 s m #[Value.ref b] below meth c H locs 14 492 (lw_Z below #[Value.ref b] s) (F0 m 453 ls [])) : W p l e room_1 s m #[Value.ref b] below meth c H locs 14 492 (lw_Z below #[Value.ref b] s) (F0 m 308 ls []) := by
  obtain ⟨hx, hb, hr, hml, hown, ht, hKN, hX, hbl, hlocks, hA, hbA, hZ, hT⟩ := C
  have hK := hKN.1
  obtain ⟨d1, d2, v1, v2, v3, o1, t1, sd, k, n, fb, f, g, h, q, ns, B, o2, sO, kO, nO, bO, fO, t2, sT, kT, nT, bT, fT, w1, w2, w3, sdM, kM, hP, hD, hR, hnO, hnT⟩ := hW
  obtain ⟨hn, hq, hd, hz, hB, hk⟩ := id hR
  by_cases hE : n = 0
  · have hE1 : ¬ fn_D_isEmpty n = 0 := fun z => (empty_iff hn).mp z hE
    have hE2 : nI n = 0 := by rw [hE]; rfl
    refine lv_aload_n hx hb d_L_law_308 rfl (lv_at hl 1 rfl) ?_
    refine pr_i (ru_V (b := x) (As := []) (rest := []) ⟨hx, hb, hml, hown, ht⟩ hKN (c_P_shorter_no l G _ x d1 d2 v1 v2 v3 o1 t1 sd k n fb f g h q ns (nI B) (hP.sub [0, 1, 2, 3, 4, 5] rfl) hn hq hE1) kc_L_47 ⟨rfl, rfl⟩ ⟨Nat.le_of_ble_eq_true rfl, Nat.le_of_ble_eq_true rfl⟩ (va_recv hK hP (ci := 0) (q0 := 0) rfl rfl) rfl hl.1 rfl (Nat.le_of_ble_eq_true rfl) d_L_law_309 ⟨Nat.le_of_ble_eq_true rfl, Nat.le_of_ble_eq_true rfl⟩) ?_
    refine lv_aload_n hx hb d_L_law_312 rfl (lv_at hl 2 rfl) ?_
    refine mu_i (wr := [(x, .inr (0, [.ref d1, .ref v1, .ref o1, .ref t1, .long ns, .int (nI B)])), (d1, .inr (1, [.ref d2, .long sd, .int k, .int (nI n), .int fb])), (d2, .inl (G.2.1, 16, .inr (.inl f))), (v1, .inr (2, [.ref v2, .ref v3, .int (nI q)])), (v2, .inl (G.2.2.1, 100, .inl g)), (v3, .inl (G.2.2.2, 100, .inl h)), (o1, .inr (1, [.ref o2, .long sO, .int kO, .int (nI nO), .int bO])), (o2, .inl (G.2.1, 16, .inr (.inl fO))), (t1, .inr (1, [.ref t2, .long sT, .int kT, .int (nI nT), .int bT])), (t2, .inl (G.2.1, 16, .inr (.inl fT)))]) (wn := [(x, .inr (0, [.ref d1, .ref v1, .ref o1, .ref t1, .long ns, .int (nI B)])), (d1, .inr (1, [.ref d2, .long sd, .int k, .int (nI n), .int fb])), (d2, .inl (G.2.1, 16, .inr (.inl f))), (v1, .inr (2, [.ref v2, .ref v3, .int (nI q)])), (v2, .inl (G.2.2.1, 100, .inl g)), (v3, .inl (G.2.2.2, 100, .inl h)), (o1, .inr (1, [.ref o2, .long sO, .int kO, .int (nI nO), .int bO])), (o2, .inl (G.2.1, 16, .inr (.inl fO))), (t1, .inr (1, [.ref t2, .long sT, .int kT, .int (nI nT), .int bT])), (t2, .inl (G.2.1, 16, .inr (.inl fT))), (mm, .inr (3, [.int 0, .long ns, .long sdM, .int (nI n), .int kM, .int (nI B), .int (nI q), .ref w1, .ref w2, .ref w3])), (w1, .inl (G.2.2.1, 100, .inl g)), (w2, .inl (G.2.2.2, 100, .inl h)), (w3, .inl (G.2.2.1, 10, .inl ink0))]) (ru_V (b := mm) (As := []) (rest := [.int (-13)]) ⟨hx, hb, hml, hown, ht⟩ hKN (c_M_shorter_no l G _ mm w1 w2 w3 ns sdM n kM (nI B) q g h ink0 (hP.sub [10, 11, 12, 13] rfl) ((hD.sub (ws' := [(mm, .inr (3, [.int 0, .long ns, .long sdM, .int (nI n), .int kM, .int (nI B), .int (nI q), .ref w1, .ref w2, .ref w3])), (w1, .inl (G.2.2.1, 100, .inl g)), (w2, .inl (G.2.2.2, 100, .inl h)), (w3, .inl (G.2.2.1, 10, .inl ink0))]) [10, 11, 12, 13] (by decide) rfl).weaken (fun _ _ _ _ => trivial)) hn hq hE2) kc_L_51 ⟨rfl, rfl⟩ ⟨Nat.le_of_ble_eq_true rfl, Nat.le_of_ble_eq_true rfl⟩ (va_recv hK hP (ci := 3) (q0 := 10) rfl rfl) rfl hl.1 rfl (Nat.le_of_ble_eq_true rfl) d_L_law_313 ⟨Nat.le_of_ble_eq_true rfl, Nat.le_of_ble_eq_true rfl⟩) hP hD hS hA [10, 11, 12, 13] [0, 1, 2, 3, 4, 5, 6, 7, 8, 9] [0, 1, 2, 3, 4, 5, 6, 7, 8, 9, 10, 11, 12, 13] rfl rfl ⟨by decide, by decide, by decide⟩ (by decide) rfl rfl (fun H locs hP hD hS => ?_)
    refine lv_icmp_eq (tgt := 453) hx hb d_L_law_316 (by decide) (fun _ => ?_) (fun c1 => absurd (by decide) c1)
    exact next H locs ls ⟨d1, d2, v1, v2, v3, o1, t1, sd, k, n, fb, f, g, h, q, ns, B, o2, sO, kO, nO, bO, fO, t2, sT, kT, nT, bT, fT, w1, w2, w3, sdM, kM, hP, hD, hR, hnO, hnT⟩ hS (lv_sub hl [0, 1, 2, 3] rfl)
  · have hE1 : fn_D_isEmpty n = 0 := (empty_iff hn).mpr hE
    have hE2 : ¬ nI n = 0 := nI_ne0 (by omega) (by omega)
    obtain ⟨t0, B2, hB2, es1, es2⟩ := sh_eq (h := h) hn hq hd hz
    have h6 := pw16' hn
    refine lv_aload_n hx hb d_L_law_308 rfl (lv_at hl 1 rfl) ?_
    refine mu_i (wr := [(o1, .inr (1, [.ref o2, .long sO, .int kO, .int (nI nO), .int bO])), (o2, .inl (G.2.1, 16, .inr (.inl fO))), (t1, .inr (1, [.ref t2, .long sT, .int kT, .int (nI nT), .int bT])), (t2, .inl (G.2.1, 16, .inr (.inl fT))), (mm, .inr (3, [.int 0, .long ns, .long sdM, .int (nI n), .int kM, .int (nI B), .int (nI q), .ref w1, .ref w2, .ref w3])), (w1, .inl (G.2.2.1, 100, .inl g)), (w2, .inl (G.2.2.2, 100, .inl h)), (w3, .inl (G.2.2.1, 10, .inl ink0))]) (wn := [(x, .inr (0, [.ref d1, .ref v1, .ref o1, .ref t1, .long ns, .int (shN n g h q)])), (d1, .inr (1, [.ref d2, .long sd, .int k, .int (nI n), .int fb])), (d2, .inl (G.2.1, 16, .inr (.inl f))), (v1, .inr (2, [.ref v2, .ref v3, .int (nI q)])), (v2, .inl (G.2.2.1, 100, .inl g)), (v3, .inl (G.2.2.2, 100, .inl h)), (o1, .inr (1, [.ref o2, .long sO, .int kO, .int (nI nO), .int bO])), (o2, .inl (G.2.1, 16, .inr (.inl fO))), (t1, .inr (1, [.ref t2, .long sT, .int kT, .int (nI nT), .int bT])), (t2, .inl (G.2.1, 16, .inr (.inl fT))), (mm, .inr (3, [.int 0, .long ns, .long sdM, .int (nI n), .int kM, .int (nI B), .int (nI q), .ref w1, .ref w2, .ref w3])), (w1, .inl (G.2.2.1, 100, .inl g)), (w2, .inl (G.2.2.2, 100, .inl h)), (w3, .inl (G.2.2.1, 10, .inl ink0))]) (ru_V (b := x) (As := []) (rest := []) ⟨hx, hb, hml, hown, ht⟩ hKN (c_P_shorter l G _ x d1 d2 v1 v2 v3 o1 t1 sd k n fb f g h q ns (nI B) (hP.sub [0, 1, 2, 3, 4, 5] rfl) ((hD.sub (ws' := [(x, .inr (0, [.ref d1, .ref v1, .ref o1, .ref t1, .long ns, .int (nI B)])), (d1, .inr (1, [.ref d2, .long sd, .int k, .int (nI n), .int fb])), (d2, .inl (G.2.1, 16, .inr (.inl f))), (v1, .inr (2, [.ref v2, .ref v3, .int (nI q)])), (v2, .inl (G.2.2.1, 100, .inl g)), (v3, .inl (G.2.2.2, 100, .inl h))]) [0, 1, 2, 3, 4, 5] (by decide) rfl).weaken (fun _ _ _ _ => trivial)) hn hq hE1) kc_L_47 ⟨rfl, rfl⟩ ⟨Nat.le_of_ble_eq_true rfl, Nat.le_of_ble_eq_true rfl⟩ (va_recv hK hP (ci := 0) (q0 := 0) rfl rfl) rfl hl.1 rfl (Nat.le_of_ble_eq_true rfl) d_L_law_309 ⟨Nat.le_of_ble_eq_true rfl, Nat.le_of_ble_eq_true rfl⟩) hP hD hS hA [0, 1, 2, 3, 4, 5] [6, 7, 8, 9, 10, 11, 12, 13] [8, 9, 10, 11, 12, 13, 0, 1, 2, 3, 4, 5, 6, 7] rfl rfl ⟨by decide, by decide, by decide⟩ (by decide) rfl rfl (fun H locs hP hD hS => ?_)
    rw [es1] at hP hD
    rw [es1]
    have hP : va_P G.1 classes [(x, .inr (0, [.ref d1, .ref v1, .ref o1, .ref t1, .long ns, .int (nI B2)])), (d1, .inr (1, [.ref d2, .long sd, .int k, .int (nI n), .int fb])), (d2, .inl (G.2.1, 16, .inr (.inl f))), (v1, .inr (2, [.ref v2, .ref v3, .int (nI q)])), (v2, .inl (G.2.2.1, 100, .inl g)), (v3, .inl (G.2.2.2, 100, .inl h)), (o1, .inr (1, [.ref o2, .long sO, .int kO, .int (nI nO), .int bO])), (o2, .inl (G.2.1, 16, .inr (.inl fO))), (t1, .inr (1, [.ref t2, .long sT, .int kT, .int (nI nT), .int bT])), (t2, .inl (G.2.1, 16, .inr (.inl fT))), (mm, .inr (3, [.int 0, .long ns, .long sdM, .int (nI n), .int kM, .int (nI B), .int (nI q), .ref w1, .ref w2, .ref w3])), (w1, .inl (G.2.2.1, 100, .inl g)), (w2, .inl (G.2.2.2, 100, .inl h)), (w3, .inl (G.2.2.1, 10, .inl ink0))] H := hP
    have hD : va_D A [(x, .inr (0, [.ref d1, .ref v1, .ref o1, .ref t1, .long ns, .int (nI B2)])), (d1, .inr (1, [.ref d2, .long sd, .int k, .int (nI n), .int fb])), (d2, .inl (G.2.1, 16, .inr (.inl f))), (v1, .inr (2, [.ref v2, .ref v3, .int (nI q)])), (v2, .inl (G.2.2.1, 100, .inl g)), (v3, .inl (G.2.2.2, 100, .inl h)), (o1, .inr (1, [.ref o2, .long sO, .int kO, .int (nI nO), .int bO])), (o2, .inl (G.2.1, 16, .inr (.inl fO))), (t1, .inr (1, [.ref t2, .long sT, .int kT, .int (nI nT), .int bT])), (t2, .inl (G.2.1, 16, .inr (.inl fT))), (mm, .inr (3, [.int 0, .long ns, .long sdM, .int (nI n), .int kM, .int (nI B), .int (nI q), .ref w1, .ref w2, .ref w3])), (w1, .inl (G.2.2.1, 100, .inl g)), (w2, .inl (G.2.2.2, 100, .inl h)), (w3, .inl (G.2.2.1, 10, .inl ink0))] := hD
    refine lv_aload_n hx hb d_L_law_312 rfl (lv_at hl 2 rfl) ?_
    refine mu_i (wr := [(x, .inr (0, [.ref d1, .ref v1, .ref o1, .ref t1, .long ns, .int (nI B2)])), (d1, .inr (1, [.ref d2, .long sd, .int k, .int (nI n), .int fb])), (d2, .inl (G.2.1, 16, .inr (.inl f))), (v1, .inr (2, [.ref v2, .ref v3, .int (nI q)])), (v2, .inl (G.2.2.1, 100, .inl g)), (v3, .inl (G.2.2.2, 100, .inl h)), (o1, .inr (1, [.ref o2, .long sO, .int kO, .int (nI nO), .int bO])), (o2, .inl (G.2.1, 16, .inr (.inl fO))), (t1, .inr (1, [.ref t2, .long sT, .int kT, .int (nI nT), .int bT])), (t2, .inl (G.2.1, 16, .inr (.inl fT)))]) (wn := [(x, .inr (0, [.ref d1, .ref v1, .ref o1, .ref t1, .long ns, .int (nI B2)])), (d1, .inr (1, [.ref d2, .long sd, .int k, .int (nI n), .int fb])), (d2, .inl (G.2.1, 16, .inr (.inl f))), (v1, .inr (2, [.ref v2, .ref v3, .int (nI q)])), (v2, .inl (G.2.2.1, 100, .inl g)), (v3, .inl (G.2.2.2, 100, .inl h)), (o1, .inr (1, [.ref o2, .long sO, .int kO, .int (nI nO), .int bO])), (o2, .inl (G.2.1, 16, .inr (.inl fO))), (t1, .inr (1, [.ref t2, .long sT, .int kT, .int (nI nT), .int bT])), (t2, .inl (G.2.1, 16, .inr (.inl fT))), (mm, .inr (3, [.int 0, .long ns, .long sdM, .int (nI n), .int kM, .int (nI B2), .int (nI q), .ref w1, .ref w2, .ref w3])), (w1, .inl (G.2.2.1, 100, .inl g)), (w2, .inl (G.2.2.2, 100, .inl h)), (w3, .inl (G.2.2.1, 10, .inl ink0))]) (ru_V (b := mm) (As := []) (rest := [.int (fn_J_bitCount (nI B2))]) ⟨hx, hb, hml, hown, ht⟩ hKN (c_M_shorter l G _ mm w1 w2 w3 ns sdM n kM (nI B) q g h ink0 t0 (nI B2) (hP.sub [10, 11, 12, 13] rfl) ((hD.sub (ws' := [(mm, .inr (3, [.int 0, .long ns, .long sdM, .int (nI n), .int kM, .int (nI B), .int (nI q), .ref w1, .ref w2, .ref w3])), (w1, .inl (G.2.2.1, 100, .inl g)), (w2, .inl (G.2.2.2, 100, .inl h)), (w3, .inl (G.2.2.1, 10, .inl ink0))]) [10, 11, 12, 13] (by decide) rfl).weaken (fun _ _ _ _ => trivial)) hn hq hE2 es2) kc_L_51 ⟨rfl, rfl⟩ ⟨Nat.le_of_ble_eq_true rfl, Nat.le_of_ble_eq_true rfl⟩ (va_recv hK hP (ci := 3) (q0 := 10) rfl rfl) rfl hl.1 rfl (Nat.le_of_ble_eq_true rfl) d_L_law_313 ⟨Nat.le_of_ble_eq_true rfl, Nat.le_of_ble_eq_true rfl⟩) hP hD hS hA [10, 11, 12, 13] [0, 1, 2, 3, 4, 5, 6, 7, 8, 9] [0, 1, 2, 3, 4, 5, 6, 7, 8, 9, 10, 11, 12, 13] rfl rfl ⟨by decide, by decide, by decide⟩ (by decide) rfl rfl (fun H locs hP hD hS => ?_)
    refine lv_icmp_eq (tgt := 453) hx hb d_L_law_316 (by decide) (fun c2 => ?_) (fun c2 => ?_)
    · exact next H locs ls ⟨d1, d2, v1, v2, v3, o1, t1, sd, k, n, fb, f, g, h, q, ns, B2, o2, sO, kO, nO, bO, fO, t2, sT, kT, nT, bT, fT, w1, w2, w3, sdM, kM, hP, hD, ⟨hn, hq, hd, hz, hB2, hk⟩, hnO, hnT⟩ hS (lv_sub hl [0, 1, 2, 3] rfl)
    · exact absurd (show fn_J_bitCount (nI B2) = co (nI B2) 16 from by rw [bc_pc (by omega), co_pc (by omega) 16 (Nat.le_refl _)]) c2
set_option maxHeartbeats 4000000 in
set_option maxRecDepth 100000 in
theorem law_case6 {p : Program} {l : Launch} {e : Env} {s : State} {m : MethodId} {below : List Frame} {meth : Method} {c : Code} {b L : Nat} {xs : Nat → Int32} {G : GT} {A : Nat → Prop} {tt : Nat} (hL : L ≤ 2561) (C : LC p s m meth c b L xs G A tt) {i x mm : Nat} (hi : i + 5 ≤ L) {H : Heap} {locs : List Loc} {ls : Array Slot} (hW : Wd G A x mm H) (hS : va_S A s.heap H locs) (hl : lv_has ls 4 [(0, .ref b), (1, .ref x), (2, .ref mm), (3, .int (nI i))])
    (next : ∀ (H : Heap) (locs : List Loc) (ls : Array Slot), Wd G A x mm H → va_S A s.heap H locs → lv_has ls 4 [(0, .ref b), (1, .ref x), (2, .ref mm), (3, .int (nI i))] → W p l e room_1 s m #[Value.ref b] below meth c H locs 14 492 (lw_Z below #[Value.ref b] s) (F0 m 453 ls [])) : W p l e room_1 s m #[Value.ref b] below meth c H locs 14 492 (lw_Z below #[Value.ref b] s) (F0 m 321 ls []) := by
  obtain ⟨hx, hb, hr, hml, hown, ht, hKN, hX, hbl, hlocks, hA, hbA, hZ, hT⟩ := C
  have hK := hKN.1
  obtain ⟨d1, d2, v1, v2, v3, o1, t1, sd, k, n, fb, f, g, h, q, ns, B, o2, sO, kO, nO, bO, fO, t2, sT, kT, nT, bT, fT, w1, w2, w3, sdM, kM, hP, hD, hR, hnO, hnT⟩ := hW
  obtain ⟨hn, hq, hd, hz, hB, hk⟩ := id hR
  refine lv_aload_n hx hb d_L_law_321 rfl (lv_at hl 1 rfl) ?_
  refine lv_aload_n hx hb d_L_law_322 rfl (lv_at hl 0 rfl) ?_
  refine lv_iload_n hx hb d_L_law_323 rfl (lv_at hl 3 rfl) ?_
  refine lv_iconst (v := 1) hx hb d_L_law_324 (by decide) ?_
  refine lv_iadd hx hb d_L_law_325 ?_
  rw [show nI i + 1 = nI (i + 1) from nI_add i 1]
  refine va_sld hx hb hX hbl hbA hS (i := nI (i + 1)) (vp_in_nI (show (i + 1) < L by omega) (by omega)) d_L_law_326 ?_
  rw [nI_clamp (show (i + 1) < 2 ^ 31 by omega)]
  refine pr_i (ru_V (b := x) (As := [.int (xs (i + 1))]) (rest := []) ⟨hx, hb, hml, hown, ht⟩ hKN (c_P_left l G _ x d1 d2 v1 v2 v3 o1 t1 sd k n fb f g h q ns (nI B) (xs (i + 1)) (hP.sub [0, 1, 2, 3, 4, 5] rfl) hn hq) kc_L_52 ⟨rfl, rfl⟩ ⟨Nat.le_of_ble_eq_true rfl, Nat.le_of_ble_eq_true rfl⟩ (va_recv hK hP (ci := 0) (q0 := 0) rfl rfl) rfl hl.1 rfl (Nat.le_of_ble_eq_true rfl) d_L_law_327 ⟨Nat.le_of_ble_eq_true rfl, Nat.le_of_ble_eq_true rfl⟩) ?_
  refine lv_aload_n hx hb d_L_law_330 rfl (lv_at hl 2 rfl) ?_
  refine lv_aload_n hx hb d_L_law_331 rfl (lv_at hl 0 rfl) ?_
  refine lv_iload_n hx hb d_L_law_332 rfl (lv_at hl 3 rfl) ?_
  refine lv_iconst (v := 1) hx hb d_L_law_333 (by decide) ?_
  refine lv_iadd hx hb d_L_law_334 ?_
  rw [show nI i + 1 = nI (i + 1) from nI_add i 1]
  refine va_sld hx hb hX hbl hbA hS (i := nI (i + 1)) (vp_in_nI (show (i + 1) < L by omega) (by omega)) d_L_law_335 ?_
  rw [nI_clamp (show (i + 1) < 2 ^ 31 by omega)]
  refine mu_i (wr := [(x, .inr (0, [.ref d1, .ref v1, .ref o1, .ref t1, .long ns, .int (nI B)])), (d1, .inr (1, [.ref d2, .long sd, .int k, .int (nI n), .int fb])), (d2, .inl (G.2.1, 16, .inr (.inl f))), (v1, .inr (2, [.ref v2, .ref v3, .int (nI q)])), (v2, .inl (G.2.2.1, 100, .inl g)), (v3, .inl (G.2.2.2, 100, .inl h)), (o1, .inr (1, [.ref o2, .long sO, .int kO, .int (nI nO), .int bO])), (o2, .inl (G.2.1, 16, .inr (.inl fO))), (t1, .inr (1, [.ref t2, .long sT, .int kT, .int (nI nT), .int bT])), (t2, .inl (G.2.1, 16, .inr (.inl fT)))]) (wn := [(x, .inr (0, [.ref d1, .ref v1, .ref o1, .ref t1, .long ns, .int (nI B)])), (d1, .inr (1, [.ref d2, .long sd, .int k, .int (nI n), .int fb])), (d2, .inl (G.2.1, 16, .inr (.inl f))), (v1, .inr (2, [.ref v2, .ref v3, .int (nI q)])), (v2, .inl (G.2.2.1, 100, .inl g)), (v3, .inl (G.2.2.2, 100, .inl h)), (o1, .inr (1, [.ref o2, .long sO, .int kO, .int (nI nO), .int bO])), (o2, .inl (G.2.1, 16, .inr (.inl fO))), (t1, .inr (1, [.ref t2, .long sT, .int kT, .int (nI nT), .int bT])), (t2, .inl (G.2.1, 16, .inr (.inl fT))), (mm, .inr (3, [.int 0, .long ns, .long sdM, .int (nI n), .int kM, .int (nI B), .int (nI q), .ref w1, .ref w2, .ref w3])), (w1, .inl (G.2.2.1, 100, .inl g)), (w2, .inl (G.2.2.2, 100, .inl h)), (w3, .inl (G.2.2.1, 10, .inl ink0))]) (ru_V (b := mm) (As := [.int (xs (i + 1))]) (rest := [.int (lf (nI B) (xs (i + 1)) 16 0 0)]) ⟨hx, hb, hml, hown, ht⟩ hKN (c_M_left l G _ mm w1 w2 w3 ns sdM n kM (nI B) q g h ink0 (xs (i + 1)) (hP.sub [10, 11, 12, 13] rfl) ((hD.sub (ws' := [(mm, .inr (3, [.int 0, .long ns, .long sdM, .int (nI n), .int kM, .int (nI B), .int (nI q), .ref w1, .ref w2, .ref w3])), (w1, .inl (G.2.2.1, 100, .inl g)), (w2, .inl (G.2.2.2, 100, .inl h)), (w3, .inl (G.2.2.1, 10, .inl ink0))]) [10, 11, 12, 13] (by decide) rfl).weaken (fun _ _ _ _ => trivial)) hn hq) kc_L_56 ⟨rfl, rfl⟩ ⟨Nat.le_of_ble_eq_true rfl, Nat.le_of_ble_eq_true rfl⟩ (va_recv hK hP (ci := 3) (q0 := 10) rfl rfl) rfl hl.1 rfl (Nat.le_of_ble_eq_true rfl) d_L_law_336 ⟨Nat.le_of_ble_eq_true rfl, Nat.le_of_ble_eq_true rfl⟩) hP hD hS hA [10, 11, 12, 13] [0, 1, 2, 3, 4, 5, 6, 7, 8, 9] [0, 1, 2, 3, 4, 5, 6, 7, 8, 9, 10, 11, 12, 13] rfl rfl ⟨by decide, by decide, by decide⟩ (by decide) rfl rfl (fun H locs hP hD hS => ?_)
  refine lv_icmp_eq (tgt := 453) hx hb d_L_law_339 (by decide) (fun c1 => ?_) (fun c1 => ?_)
  · exact next H locs ls ⟨d1, d2, v1, v2, v3, o1, t1, sd, k, n, fb, f, g, h, q, ns, B, o2, sO, kO, nO, bO, fO, t2, sT, kT, nT, bT, fT, w1, w2, w3, sdM, kM, hP, hD, hR, hnO, hnT⟩ hS (lv_sub hl [0, 1, 2, 3] rfl)
  · exact absurd (left_eq hn hB (xs (i + 1))) c1
set_option maxHeartbeats 4000000 in
set_option maxRecDepth 100000 in
theorem law_case7 {p : Program} {l : Launch} {e : Env} {s : State} {m : MethodId} {below : List Frame} {meth : Method} {c : Code} {b L : Nat} {xs : Nat → Int32} {G : GT} {A : Nat → Prop} {tt : Nat} (hL : L ≤ 2561) (C : LC p s m meth c b L xs G A tt) {i x mm : Nat} (hi : i + 5 ≤ L) {H : Heap} {locs : List Loc} {ls : Array Slot} (hW : Wd G A x mm H) (hS : va_S A s.heap H locs) (hl : lv_has ls 4 [(0, .ref b), (1, .ref x), (2, .ref mm), (3, .int (nI i))])
    (next : ∀ (H : Heap) (locs : List Loc) (ls : Array Slot), Wd G A x mm H → va_S A s.heap H locs → lv_has ls 4 [(0, .ref b), (1, .ref x), (2, .ref mm), (3, .int (nI i))] → W p l e room_1 s m #[Value.ref b] below meth c H locs 14 492 (lw_Z below #[Value.ref b] s) (F0 m 453 ls [])) : W p l e room_1 s m #[Value.ref b] below meth c H locs 14 492 (lw_Z below #[Value.ref b] s) (F0 m 344 ls []) := by
  obtain ⟨hx, hb, hr, hml, hown, ht, hKN, hX, hbl, hlocks, hA, hbA, hZ, hT⟩ := C
  have hK := hKN.1
  obtain ⟨d1, d2, v1, v2, v3, o1, t1, sd, k, n, fb, f, g, h, q, ns, B, o2, sO, kO, nO, bO, fO, t2, sT, kT, nT, bT, fT, w1, w2, w3, sdM, kM, hP, hD, hR, hnO, hnT⟩ := hW
  obtain ⟨hn, hq, hd, hz, hB, hk⟩ := id hR
  refine lv_aload_n hx hb d_L_law_344 rfl (lv_at hl 1 rfl) ?_
  refine pr_i (ru_V (b := x) (As := []) (rest := []) ⟨hx, hb, hml, hown, ht⟩ hKN (c_P_minimal l G _ x d1 d2 v1 v2 v3 o1 t1 sd k n fb f g h q ns (nI B) (hP.sub [0, 1, 2, 3, 4, 5] rfl) hn hq) kc_L_57 ⟨rfl, rfl⟩ ⟨Nat.le_of_ble_eq_true rfl, Nat.le_of_ble_eq_true rfl⟩ (va_recv hK hP (ci := 0) (q0 := 0) rfl rfl) rfl hl.1 rfl (Nat.le_of_ble_eq_true rfl) d_L_law_345 ⟨Nat.le_of_ble_eq_true rfl, Nat.le_of_ble_eq_true rfl⟩) ?_
  refine lv_aload_n hx hb d_L_law_348 rfl (lv_at hl 2 rfl) ?_
  refine mu_i (wr := [(x, .inr (0, [.ref d1, .ref v1, .ref o1, .ref t1, .long ns, .int (nI B)])), (d1, .inr (1, [.ref d2, .long sd, .int k, .int (nI n), .int fb])), (d2, .inl (G.2.1, 16, .inr (.inl f))), (v1, .inr (2, [.ref v2, .ref v3, .int (nI q)])), (v2, .inl (G.2.2.1, 100, .inl g)), (v3, .inl (G.2.2.2, 100, .inl h)), (o1, .inr (1, [.ref o2, .long sO, .int kO, .int (nI nO), .int bO])), (o2, .inl (G.2.1, 16, .inr (.inl fO))), (t1, .inr (1, [.ref t2, .long sT, .int kT, .int (nI nT), .int bT])), (t2, .inl (G.2.1, 16, .inr (.inl fT)))]) (wn := [(x, .inr (0, [.ref d1, .ref v1, .ref o1, .ref t1, .long ns, .int (nI B)])), (d1, .inr (1, [.ref d2, .long sd, .int k, .int (nI n), .int fb])), (d2, .inl (G.2.1, 16, .inr (.inl f))), (v1, .inr (2, [.ref v2, .ref v3, .int (nI q)])), (v2, .inl (G.2.2.1, 100, .inl g)), (v3, .inl (G.2.2.2, 100, .inl h)), (o1, .inr (1, [.ref o2, .long sO, .int kO, .int (nI nO), .int bO])), (o2, .inl (G.2.1, 16, .inr (.inl fO))), (t1, .inr (1, [.ref t2, .long sT, .int kT, .int (nI nT), .int bT])), (t2, .inl (G.2.1, 16, .inr (.inl fT))), (mm, .inr (3, [.int 0, .long ns, .long sdM, .int (nI n), .int kM, .int (nI B), .int (nI q), .ref w1, .ref w2, .ref w3])), (w1, .inl (G.2.2.1, 100, .inl g)), (w2, .inl (G.2.2.2, 100, .inl h)), (w3, .inl (G.2.2.1, 10, .inl ink0))]) (ru_V (b := mm) (As := []) (rest := [.int (mnm n g h q (nI B))]) ⟨hx, hb, hml, hown, ht⟩ hKN (c_M_minimal l G _ mm w1 w2 w3 ns sdM n kM (nI B) q g h ink0 (hP.sub [10, 11, 12, 13] rfl) ((hD.sub (ws' := [(mm, .inr (3, [.int 0, .long ns, .long sdM, .int (nI n), .int kM, .int (nI B), .int (nI q), .ref w1, .ref w2, .ref w3])), (w1, .inl (G.2.2.1, 100, .inl g)), (w2, .inl (G.2.2.2, 100, .inl h)), (w3, .inl (G.2.2.1, 10, .inl ink0))]) [10, 11, 12, 13] (by decide) rfl).weaken (fun _ _ _ _ => trivial)) hn hq) kc_L_61 ⟨rfl, rfl⟩ ⟨Nat.le_of_ble_eq_true rfl, Nat.le_of_ble_eq_true rfl⟩ (va_recv hK hP (ci := 3) (q0 := 10) rfl rfl) rfl hl.1 rfl (Nat.le_of_ble_eq_true rfl) d_L_law_349 ⟨Nat.le_of_ble_eq_true rfl, Nat.le_of_ble_eq_true rfl⟩) hP hD hS hA [10, 11, 12, 13] [0, 1, 2, 3, 4, 5, 6, 7, 8, 9] [0, 1, 2, 3, 4, 5, 6, 7, 8, 9, 10, 11, 12, 13] rfl rfl ⟨by decide, by decide, by decide⟩ (by decide) rfl rfl (fun H locs hP hD hS => ?_)
  refine lv_icmp_eq (tgt := 453) hx hb d_L_law_352 (by decide) (fun c1 => ?_) (fun c1 => ?_)
  · exact next H locs ls ⟨d1, d2, v1, v2, v3, o1, t1, sd, k, n, fb, f, g, h, q, ns, B, o2, sO, kO, nO, bO, fO, t2, sT, kT, nT, bT, fT, w1, w2, w3, sdM, kM, hP, hD, hR, hnO, hnT⟩ hS (lv_sub hl [0, 1, 2, 3] rfl)
  · exact absurd (minimal_eq hn hq hd hz hB) c1
set_option maxHeartbeats 4000000 in
set_option maxRecDepth 100000 in
theorem law_case8 {p : Program} {l : Launch} {e : Env} {s : State} {m : MethodId} {below : List Frame} {meth : Method} {c : Code} {b L : Nat} {xs : Nat → Int32} {G : GT} {A : Nat → Prop} {tt : Nat} (hL : L ≤ 2561) (C : LC p s m meth c b L xs G A tt) {i x mm : Nat} (hi : i + 5 ≤ L) {H : Heap} {locs : List Loc} {ls : Array Slot} (hW : Wd G A x mm H) (hS : va_S A s.heap H locs) (hl : lv_has ls 4 [(0, .ref b), (1, .ref x), (2, .ref mm), (3, .int (nI i))])
    (next : ∀ (H : Heap) (locs : List Loc) (ls : Array Slot), Wd G A x mm H → va_S A s.heap H locs → lv_has ls 4 [(0, .ref b), (1, .ref x), (2, .ref mm), (3, .int (nI i))] → W p l e room_1 s m #[Value.ref b] below meth c H locs 14 492 (lw_Z below #[Value.ref b] s) (F0 m 453 ls [])) : W p l e room_1 s m #[Value.ref b] below meth c H locs 14 492 (lw_Z below #[Value.ref b] s) (F0 m 357 ls []) := by
  obtain ⟨hx, hb, hr, hml, hown, ht, hKN, hX, hbl, hlocks, hA, hbA, hZ, hT⟩ := C
  have hK := hKN.1
  obtain ⟨d1, d2, v1, v2, v3, o1, t1, sd, k, n, fb, f, g, h, q, ns, B, o2, sO, kO, nO, bO, fO, t2, sT, kT, nT, bT, fT, w1, w2, w3, sdM, kM, hP, hD, hR, hnO, hnT⟩ := hW
  obtain ⟨hn, hq, hd, hz, hB, hk⟩ := id hR
  refine lv_aload_n hx hb d_L_law_357 rfl (lv_at hl 1 rfl) ?_
  refine lv_aload_n hx hb d_L_law_358 rfl (lv_at hl 0 rfl) ?_
  refine lv_iload_n hx hb d_L_law_359 rfl (lv_at hl 3 rfl) ?_
  refine lv_iconst (v := 1) hx hb d_L_law_360 (by decide) ?_
  refine lv_iadd hx hb d_L_law_361 ?_
  rw [show nI i + 1 = nI (i + 1) from nI_add i 1]
  refine va_sld hx hb hX hbl hbA hS (i := nI (i + 1)) (vp_in_nI (show (i + 1) < L by omega) (by omega)) d_L_law_362 ?_
  rw [nI_clamp (show (i + 1) < 2 ^ 31 by omega)]
  refine pr_i (ru_V (b := x) (As := [.int (xs (i + 1))]) (rest := []) ⟨hx, hb, hml, hown, ht⟩ hKN (c_P_faultless l G _ x d1 d2 v1 v2 v3 o1 t1 sd k n fb f g h q ns (nI B) (xs (i + 1)) (hP.sub [0, 1, 2, 3, 4, 5] rfl) hn hq) kc_L_62 ⟨rfl, rfl⟩ ⟨Nat.le_of_ble_eq_true rfl, Nat.le_of_ble_eq_true rfl⟩ (va_recv hK hP (ci := 0) (q0 := 0) rfl rfl) rfl hl.1 rfl (Nat.le_of_ble_eq_true rfl) d_L_law_363 ⟨Nat.le_of_ble_eq_true rfl, Nat.le_of_ble_eq_true rfl⟩) ?_
  refine lv_aload_n hx hb d_L_law_366 rfl (lv_at hl 2 rfl) ?_
  refine lv_aload_n hx hb d_L_law_367 rfl (lv_at hl 0 rfl) ?_
  refine lv_iload_n hx hb d_L_law_368 rfl (lv_at hl 3 rfl) ?_
  refine lv_iconst (v := 1) hx hb d_L_law_369 (by decide) ?_
  refine lv_iadd hx hb d_L_law_370 ?_
  rw [show nI i + 1 = nI (i + 1) from nI_add i 1]
  refine va_sld hx hb hX hbl hbA hS (i := nI (i + 1)) (vp_in_nI (show (i + 1) < L by omega) (by omega)) d_L_law_371 ?_
  rw [nI_clamp (show (i + 1) < 2 ^ 31 by omega)]
  refine mu_i (wr := [(x, .inr (0, [.ref d1, .ref v1, .ref o1, .ref t1, .long ns, .int (nI B)])), (d1, .inr (1, [.ref d2, .long sd, .int k, .int (nI n), .int fb])), (d2, .inl (G.2.1, 16, .inr (.inl f))), (v1, .inr (2, [.ref v2, .ref v3, .int (nI q)])), (v2, .inl (G.2.2.1, 100, .inl g)), (v3, .inl (G.2.2.2, 100, .inl h)), (o1, .inr (1, [.ref o2, .long sO, .int kO, .int (nI nO), .int bO])), (o2, .inl (G.2.1, 16, .inr (.inl fO))), (t1, .inr (1, [.ref t2, .long sT, .int kT, .int (nI nT), .int bT])), (t2, .inl (G.2.1, 16, .inr (.inl fT)))]) (wn := [(x, .inr (0, [.ref d1, .ref v1, .ref o1, .ref t1, .long ns, .int (nI B)])), (d1, .inr (1, [.ref d2, .long sd, .int k, .int (nI n), .int fb])), (d2, .inl (G.2.1, 16, .inr (.inl f))), (v1, .inr (2, [.ref v2, .ref v3, .int (nI q)])), (v2, .inl (G.2.2.1, 100, .inl g)), (v3, .inl (G.2.2.2, 100, .inl h)), (o1, .inr (1, [.ref o2, .long sO, .int kO, .int (nI nO), .int bO])), (o2, .inl (G.2.1, 16, .inr (.inl fO))), (t1, .inr (1, [.ref t2, .long sT, .int kT, .int (nI nT), .int bT])), (t2, .inl (G.2.1, 16, .inr (.inl fT))), (mm, .inr (3, [.int 0, .long ns, .long sdM, .int (nI n), .int kM, .int (nI B), .int (nI q), .ref w1, .ref w2, .ref w3])), (w1, .inl (G.2.2.1, 100, .inl g)), (w2, .inl (G.2.2.2, 100, .inl h)), (w3, .inl (G.2.2.1, 10, .inl ink0))]) (ru_V (b := mm) (As := [.int (xs (i + 1))]) (rest := [.int (fn_P_faultless k n fb (xs (i + 1)))]) ⟨hx, hb, hml, hown, ht⟩ hKN (c_M_faultless l G _ mm w1 w2 w3 ns sdM n kM (nI B) q g h ink0 (xs (i + 1)) (hP.sub [10, 11, 12, 13] rfl) ((hD.sub (ws' := [(mm, .inr (3, [.int 0, .long ns, .long sdM, .int (nI n), .int kM, .int (nI B), .int (nI q), .ref w1, .ref w2, .ref w3])), (w1, .inl (G.2.2.1, 100, .inl g)), (w2, .inl (G.2.2.2, 100, .inl h)), (w3, .inl (G.2.2.1, 10, .inl ink0))]) [10, 11, 12, 13] (by decide) rfl).weaken (fun _ _ _ _ => trivial)) hn hq) kc_L_66 ⟨rfl, rfl⟩ ⟨Nat.le_of_ble_eq_true rfl, Nat.le_of_ble_eq_true rfl⟩ (va_recv hK hP (ci := 3) (q0 := 10) rfl rfl) rfl hl.1 rfl (Nat.le_of_ble_eq_true rfl) d_L_law_372 ⟨Nat.le_of_ble_eq_true rfl, Nat.le_of_ble_eq_true rfl⟩) hP hD hS hA [10, 11, 12, 13] [0, 1, 2, 3, 4, 5, 6, 7, 8, 9] [0, 1, 2, 3, 4, 5, 6, 7, 8, 9, 10, 11, 12, 13] rfl rfl ⟨by decide, by decide, by decide⟩ (by decide) rfl rfl (fun H locs hP hD hS => ?_)
  refine lv_icmp_eq (tgt := 453) hx hb d_L_law_375 (by decide) (fun c1 => ?_) (fun c1 => ?_)
  · exact next H locs ls ⟨d1, d2, v1, v2, v3, o1, t1, sd, k, n, fb, f, g, h, q, ns, B, o2, sO, kO, nO, bO, fO, t2, sT, kT, nT, bT, fT, w1, w2, w3, sdM, kM, hP, hD, hR, hnO, hnT⟩ hS (lv_sub hl [0, 1, 2, 3] rfl)
  · exact absurd (rel_faultless hR (xs (i + 1))) c1
set_option maxHeartbeats 4000000 in
set_option maxRecDepth 100000 in
theorem law_case9 {p : Program} {l : Launch} {e : Env} {s : State} {m : MethodId} {below : List Frame} {meth : Method} {c : Code} {b L : Nat} {xs : Nat → Int32} {G : GT} {A : Nat → Prop} {tt : Nat} (hL : L ≤ 2561) (C : LC p s m meth c b L xs G A tt) {i x mm : Nat} (hi : i + 5 ≤ L) {H : Heap} {locs : List Loc} {ls : Array Slot} (hW : Wd G A x mm H) (hS : va_S A s.heap H locs) (hl : lv_has ls 4 [(0, .ref b), (1, .ref x), (2, .ref mm), (3, .int (nI i))])
    (next : ∀ (H : Heap) (locs : List Loc) (ls : Array Slot), Wd G A x mm H → va_S A s.heap H locs → lv_has ls 4 [(0, .ref b), (1, .ref x), (2, .ref mm), (3, .int (nI i))] → W p l e room_1 s m #[Value.ref b] below meth c H locs 14 492 (lw_Z below #[Value.ref b] s) (F0 m 453 ls [])) : W p l e room_1 s m #[Value.ref b] below meth c H locs 14 492 (lw_Z below #[Value.ref b] s) (F0 m 380 ls []) := by
  obtain ⟨hx, hb, hr, hml, hown, ht, hKN, hX, hbl, hlocks, hA, hbA, hZ, hT⟩ := C
  have hK := hKN.1
  obtain ⟨d1, d2, v1, v2, v3, o1, t1, sd, k, n, fb, f, g, h, q, ns, B, o2, sO, kO, nO, bO, fO, t2, sT, kT, nT, bT, fT, w1, w2, w3, sdM, kM, hP, hD, hR, hnO, hnT⟩ := hW
  obtain ⟨hn, hq, hd, hz, hB, hk⟩ := id hR
  by_cases hdr : fn_P_isDrawable (xs (i + 3)) (xs (i + 4)) = 0
  · have hdrM : mdr (xs (i + 3)) (xs (i + 4)) = 0 := by rw [dr_eq]; exact hdr
    refine lv_aload_n hx hb d_L_law_380 rfl (lv_at hl 1 rfl) ?_
    refine lv_aload_n hx hb d_L_law_381 rfl (lv_at hl 0 rfl) ?_
    refine lv_iload_n hx hb d_L_law_382 rfl (lv_at hl 3 rfl) ?_
    refine lv_iconst (v := 1) hx hb d_L_law_383 (by decide) ?_
    refine lv_iadd hx hb d_L_law_384 ?_
    rw [show nI i + 1 = nI (i + 1) from nI_add i 1]
    refine va_sld hx hb hX hbl hbA hS (i := nI (i + 1)) (vp_in_nI (show (i + 1) < L by omega) (by omega)) d_L_law_385 ?_
    rw [nI_clamp (show (i + 1) < 2 ^ 31 by omega)]
    refine lv_i2l hx hb d_L_law_386 rfl ?_
    refine lv_bipush (v := 32) hx hb d_L_law_387 (by decide) ?_
    refine lv_lshl hx hb d_L_law_389 rfl ?_
    refine lv_aload_n hx hb d_L_law_390 rfl (lv_at hl 0 rfl) ?_
    refine lv_iload_n hx hb d_L_law_391 rfl (lv_at hl 3 rfl) ?_
    refine lv_iconst (v := 2) hx hb d_L_law_392 (by decide) ?_
    refine lv_iadd hx hb d_L_law_393 ?_
    rw [show nI i + 2 = nI (i + 2) from nI_add i 2]
    refine va_sld hx hb hX hbl hbA hS (i := nI (i + 2)) (vp_in_nI (show (i + 2) < L by omega) (by omega)) d_L_law_394 ?_
    rw [nI_clamp (show (i + 2) < 2 ^ 31 by omega)]
    refine lv_i2l hx hb d_L_law_395 rfl ?_
    refine lv_ldc2 (v := 4294967295) hx hb hown (ht _ kl_L_21) d_L_law_396 ?_
    refine lv_land hx hb d_L_law_399 ?_
    refine lv_lor hx hb d_L_law_400 ?_
    refine lv_aload_n hx hb d_L_law_401 rfl (lv_at hl 0 rfl) ?_
    refine lv_iload_n hx hb d_L_law_402 rfl (lv_at hl 3 rfl) ?_
    refine lv_iconst (v := 3) hx hb d_L_law_403 (by decide) ?_
    refine lv_iadd hx hb d_L_law_404 ?_
    rw [show nI i + 3 = nI (i + 3) from nI_add i 3]
    refine va_sld hx hb hX hbl hbA hS (i := nI (i + 3)) (vp_in_nI (show (i + 3) < L by omega) (by omega)) d_L_law_405 ?_
    rw [nI_clamp (show (i + 3) < 2 ^ 31 by omega)]
    refine lv_aload_n hx hb d_L_law_406 rfl (lv_at hl 0 rfl) ?_
    refine lv_iload_n hx hb d_L_law_407 rfl (lv_at hl 3 rfl) ?_
    refine lv_iconst (v := 4) hx hb d_L_law_408 (by decide) ?_
    refine lv_iadd hx hb d_L_law_409 ?_
    rw [show nI i + 4 = nI (i + 4) from nI_add i 4]
    refine va_sld hx hb hX hbl hbA hS (i := nI (i + 4)) (vp_in_nI (show (i + 4) < L by omega) (by omega)) d_L_law_410 ?_
    rw [nI_clamp (show (i + 4) < 2 ^ 31 by omega)]
    refine pr_i (ru_V (b := x) (As := [.long ((((xs (i + 1)).toInt64) <<< ((32 : Int32).toInt64 &&& 63)) ||| (((xs (i + 2)).toInt64) &&& 4294967295)), .int (xs (i + 3)), .int (xs (i + 4))]) (rest := []) ⟨hx, hb, hml, hown, ht⟩ hKN (c_P_same_no l G _ x d1 d2 v1 v2 v3 o1 t1 sd k n fb f g h q ns (nI B) ((((xs (i + 1)).toInt64) <<< ((32 : Int32).toInt64 &&& 63)) ||| (((xs (i + 2)).toInt64) &&& 4294967295)) (xs (i + 3)) (xs (i + 4)) (hP.sub [0, 1, 2, 3, 4, 5] rfl) hn hq hdr) kc_L_67 ⟨rfl, rfl⟩ ⟨Nat.le_of_ble_eq_true rfl, Nat.le_of_ble_eq_true rfl⟩ (va_recv hK hP (ci := 0) (q0 := 0) rfl rfl) rfl hl.1 rfl (Nat.le_of_ble_eq_true rfl) d_L_law_411 ⟨Nat.le_of_ble_eq_true rfl, Nat.le_of_ble_eq_true rfl⟩) ?_
    refine lv_aload_n hx hb d_L_law_414 rfl (lv_at hl 2 rfl) ?_
    refine lv_aload_n hx hb d_L_law_415 rfl (lv_at hl 0 rfl) ?_
    refine lv_iload_n hx hb d_L_law_416 rfl (lv_at hl 3 rfl) ?_
    refine lv_iconst (v := 1) hx hb d_L_law_417 (by decide) ?_
    refine lv_iadd hx hb d_L_law_418 ?_
    rw [show nI i + 1 = nI (i + 1) from nI_add i 1]
    refine va_sld hx hb hX hbl hbA hS (i := nI (i + 1)) (vp_in_nI (show (i + 1) < L by omega) (by omega)) d_L_law_419 ?_
    rw [nI_clamp (show (i + 1) < 2 ^ 31 by omega)]
    refine lv_i2l hx hb d_L_law_420 rfl ?_
    refine lv_bipush (v := 32) hx hb d_L_law_421 (by decide) ?_
    refine lv_lshl hx hb d_L_law_423 rfl ?_
    refine lv_aload_n hx hb d_L_law_424 rfl (lv_at hl 0 rfl) ?_
    refine lv_iload_n hx hb d_L_law_425 rfl (lv_at hl 3 rfl) ?_
    refine lv_iconst (v := 2) hx hb d_L_law_426 (by decide) ?_
    refine lv_iadd hx hb d_L_law_427 ?_
    rw [show nI i + 2 = nI (i + 2) from nI_add i 2]
    refine va_sld hx hb hX hbl hbA hS (i := nI (i + 2)) (vp_in_nI (show (i + 2) < L by omega) (by omega)) d_L_law_428 ?_
    rw [nI_clamp (show (i + 2) < 2 ^ 31 by omega)]
    refine lv_i2l hx hb d_L_law_429 rfl ?_
    refine lv_ldc2 (v := 4294967295) hx hb hown (ht _ kl_L_21) d_L_law_430 ?_
    refine lv_land hx hb d_L_law_433 ?_
    refine lv_lor hx hb d_L_law_434 ?_
    refine lv_aload_n hx hb d_L_law_435 rfl (lv_at hl 0 rfl) ?_
    refine lv_iload_n hx hb d_L_law_436 rfl (lv_at hl 3 rfl) ?_
    refine lv_iconst (v := 3) hx hb d_L_law_437 (by decide) ?_
    refine lv_iadd hx hb d_L_law_438 ?_
    rw [show nI i + 3 = nI (i + 3) from nI_add i 3]
    refine va_sld hx hb hX hbl hbA hS (i := nI (i + 3)) (vp_in_nI (show (i + 3) < L by omega) (by omega)) d_L_law_439 ?_
    rw [nI_clamp (show (i + 3) < 2 ^ 31 by omega)]
    refine lv_aload_n hx hb d_L_law_440 rfl (lv_at hl 0 rfl) ?_
    refine lv_iload_n hx hb d_L_law_441 rfl (lv_at hl 3 rfl) ?_
    refine lv_iconst (v := 4) hx hb d_L_law_442 (by decide) ?_
    refine lv_iadd hx hb d_L_law_443 ?_
    rw [show nI i + 4 = nI (i + 4) from nI_add i 4]
    refine va_sld hx hb hX hbl hbA hS (i := nI (i + 4)) (vp_in_nI (show (i + 4) < L by omega) (by omega)) d_L_law_444 ?_
    rw [nI_clamp (show (i + 4) < 2 ^ 31 by omega)]
    refine mu_i (wr := [(x, .inr (0, [.ref d1, .ref v1, .ref o1, .ref t1, .long ns, .int (nI B)])), (d1, .inr (1, [.ref d2, .long sd, .int k, .int (nI n), .int fb])), (d2, .inl (G.2.1, 16, .inr (.inl f))), (v1, .inr (2, [.ref v2, .ref v3, .int (nI q)])), (v2, .inl (G.2.2.1, 100, .inl g)), (v3, .inl (G.2.2.2, 100, .inl h)), (o1, .inr (1, [.ref o2, .long sO, .int kO, .int (nI nO), .int bO])), (o2, .inl (G.2.1, 16, .inr (.inl fO))), (t1, .inr (1, [.ref t2, .long sT, .int kT, .int (nI nT), .int bT])), (t2, .inl (G.2.1, 16, .inr (.inl fT)))]) (wn := [(x, .inr (0, [.ref d1, .ref v1, .ref o1, .ref t1, .long ns, .int (nI B)])), (d1, .inr (1, [.ref d2, .long sd, .int k, .int (nI n), .int fb])), (d2, .inl (G.2.1, 16, .inr (.inl f))), (v1, .inr (2, [.ref v2, .ref v3, .int (nI q)])), (v2, .inl (G.2.2.1, 100, .inl g)), (v3, .inl (G.2.2.2, 100, .inl h)), (o1, .inr (1, [.ref o2, .long sO, .int kO, .int (nI nO), .int bO])), (o2, .inl (G.2.1, 16, .inr (.inl fO))), (t1, .inr (1, [.ref t2, .long sT, .int kT, .int (nI nT), .int bT])), (t2, .inl (G.2.1, 16, .inr (.inl fT))), (mm, .inr (3, [.int 0, .long ns, .long sdM, .int (nI n), .int kM, .int (nI B), .int (nI q), .ref w1, .ref w2, .ref w3])), (w1, .inl (G.2.2.1, 100, .inl g)), (w2, .inl (G.2.2.2, 100, .inl h)), (w3, .inl (G.2.2.1, 10, .inl ink0))]) (ru_V (b := mm) (As := [.long ((((xs (i + 1)).toInt64) <<< ((32 : Int32).toInt64 &&& 63)) ||| (((xs (i + 2)).toInt64) &&& 4294967295)), .int (xs (i + 3)), .int (xs (i + 4))]) (rest := [.int (0)]) ⟨hx, hb, hml, hown, ht⟩ hKN (c_M_same_no l G _ mm w1 w2 w3 ns sdM n kM (nI B) q g h ink0 ((((xs (i + 1)).toInt64) <<< ((32 : Int32).toInt64 &&& 63)) ||| (((xs (i + 2)).toInt64) &&& 4294967295)) (xs (i + 3)) (xs (i + 4)) (hP.sub [10, 11, 12, 13] rfl) ((hD.sub (ws' := [(mm, .inr (3, [.int 0, .long ns, .long sdM, .int (nI n), .int kM, .int (nI B), .int (nI q), .ref w1, .ref w2, .ref w3])), (w1, .inl (G.2.2.1, 100, .inl g)), (w2, .inl (G.2.2.2, 100, .inl h)), (w3, .inl (G.2.2.1, 10, .inl ink0))]) [10, 11, 12, 13] (by decide) rfl).weaken (fun _ _ _ _ => trivial)) hn hq hdrM) kc_L_71 ⟨rfl, rfl⟩ ⟨Nat.le_of_ble_eq_true rfl, Nat.le_of_ble_eq_true rfl⟩ (va_recv hK hP (ci := 3) (q0 := 10) rfl rfl) rfl hl.1 rfl (Nat.le_of_ble_eq_true rfl) d_L_law_445 ⟨Nat.le_of_ble_eq_true rfl, Nat.le_of_ble_eq_true rfl⟩) hP hD hS hA [10, 11, 12, 13] [0, 1, 2, 3, 4, 5, 6, 7, 8, 9] [0, 1, 2, 3, 4, 5, 6, 7, 8, 9, 10, 11, 12, 13] rfl rfl ⟨by decide, by decide, by decide⟩ (by decide) rfl rfl (fun H locs hP hD hS => ?_)
    refine lv_icmp_eq (tgt := 453) hx hb d_L_law_448 (by decide) (fun _ => ?_) (fun c1 => absurd (by decide) c1)
    exact next H locs ls ⟨d1, d2, v1, v2, v3, o1, t1, sd, k, n, fb, f, g, h, q, ns, B, o2, sO, kO, nO, bO, fO, t2, sT, kT, nT, bT, fT, w1, w2, w3, sdM, kM, hP, hD, hR, hnO, hnT⟩ hS (lv_sub hl [0, 1, 2, 3] rfl)
  · obtain ⟨z, hz16, ez, -, -⟩ := dr_get hdr
    have hdrM : ¬ mdr (xs (i + 3)) (xs (i + 4)) = 0 := by rw [dr_eq]; exact hdr
    rw [ez] at hdr hdrM
    refine lv_aload_n hx hb d_L_law_380 rfl (lv_at hl 1 rfl) ?_
    refine lv_aload_n hx hb d_L_law_381 rfl (lv_at hl 0 rfl) ?_
    refine lv_iload_n hx hb d_L_law_382 rfl (lv_at hl 3 rfl) ?_
    refine lv_iconst (v := 1) hx hb d_L_law_383 (by decide) ?_
    refine lv_iadd hx hb d_L_law_384 ?_
    rw [show nI i + 1 = nI (i + 1) from nI_add i 1]
    refine va_sld hx hb hX hbl hbA hS (i := nI (i + 1)) (vp_in_nI (show (i + 1) < L by omega) (by omega)) d_L_law_385 ?_
    rw [nI_clamp (show (i + 1) < 2 ^ 31 by omega)]
    refine lv_i2l hx hb d_L_law_386 rfl ?_
    refine lv_bipush (v := 32) hx hb d_L_law_387 (by decide) ?_
    refine lv_lshl hx hb d_L_law_389 rfl ?_
    refine lv_aload_n hx hb d_L_law_390 rfl (lv_at hl 0 rfl) ?_
    refine lv_iload_n hx hb d_L_law_391 rfl (lv_at hl 3 rfl) ?_
    refine lv_iconst (v := 2) hx hb d_L_law_392 (by decide) ?_
    refine lv_iadd hx hb d_L_law_393 ?_
    rw [show nI i + 2 = nI (i + 2) from nI_add i 2]
    refine va_sld hx hb hX hbl hbA hS (i := nI (i + 2)) (vp_in_nI (show (i + 2) < L by omega) (by omega)) d_L_law_394 ?_
    rw [nI_clamp (show (i + 2) < 2 ^ 31 by omega)]
    refine lv_i2l hx hb d_L_law_395 rfl ?_
    refine lv_ldc2 (v := 4294967295) hx hb hown (ht _ kl_L_21) d_L_law_396 ?_
    refine lv_land hx hb d_L_law_399 ?_
    refine lv_lor hx hb d_L_law_400 ?_
    refine lv_aload_n hx hb d_L_law_401 rfl (lv_at hl 0 rfl) ?_
    refine lv_iload_n hx hb d_L_law_402 rfl (lv_at hl 3 rfl) ?_
    refine lv_iconst (v := 3) hx hb d_L_law_403 (by decide) ?_
    refine lv_iadd hx hb d_L_law_404 ?_
    rw [show nI i + 3 = nI (i + 3) from nI_add i 3]
    refine va_sld hx hb hX hbl hbA hS (i := nI (i + 3)) (vp_in_nI (show (i + 3) < L by omega) (by omega)) d_L_law_405 ?_
    rw [nI_clamp (show (i + 3) < 2 ^ 31 by omega)]
    refine lv_aload_n hx hb d_L_law_406 rfl (lv_at hl 0 rfl) ?_
    refine lv_iload_n hx hb d_L_law_407 rfl (lv_at hl 3 rfl) ?_
    refine lv_iconst (v := 4) hx hb d_L_law_408 (by decide) ?_
    refine lv_iadd hx hb d_L_law_409 ?_
    rw [show nI i + 4 = nI (i + 4) from nI_add i 4]
    refine va_sld hx hb hX hbl hbA hS (i := nI (i + 4)) (vp_in_nI (show (i + 4) < L by omega) (by omega)) d_L_law_410 ?_
    rw [nI_clamp (show (i + 4) < 2 ^ 31 by omega)]
    rw [ez]
    refine mu_i (wr := [(mm, .inr (3, [.int 0, .long ns, .long sdM, .int (nI n), .int kM, .int (nI B), .int (nI q), .ref w1, .ref w2, .ref w3])), (w1, .inl (G.2.2.1, 100, .inl g)), (w2, .inl (G.2.2.2, 100, .inl h)), (w3, .inl (G.2.2.1, 10, .inl ink0))]) (wn := [(x, .inr (0, [.ref d1, .ref v1, .ref o1, .ref t1, .long ns, .int (nI B)])), (d1, .inr (1, [.ref d2, .long sd, .int k, .int (nI n), .int fb])), (d2, .inl (G.2.1, 16, .inr (.inl f))), (v1, .inr (2, [.ref v2, .ref v3, .int (nI q)])), (v2, .inl (G.2.2.1, 100, .inl g)), (v3, .inl (G.2.2.2, 100, .inl h)), (o1, .inr (1, [.ref o2, .long ns, .int (xs (i + 3)), .int (nI (z + 1)), .int (fbN (xs (i + 3)) (z + 1) (fl ns (xs (i + 3)) fO (z + 1)))])), (o2, .inl (G.2.1, 16, .inr (.inl (fl ns (xs (i + 3)) fO (z + 1))))), (t1, .inr (1, [.ref t2, .long ((((xs (i + 1)).toInt64) <<< ((32 : Int32).toInt64 &&& 63)) ||| (((xs (i + 2)).toInt64) &&& 4294967295)), .int (xs (i + 3)), .int (nI (z + 1)), .int (fbN (xs (i + 3)) (z + 1) (fl ((((xs (i + 1)).toInt64) <<< ((32 : Int32).toInt64 &&& 63)) ||| (((xs (i + 2)).toInt64) &&& 4294967295)) (xs (i + 3)) fT (z + 1)))])), (t2, .inl (G.2.1, 16, .inr (.inl (fl ((((xs (i + 1)).toInt64) <<< ((32 : Int32).toInt64 &&& 63)) ||| (((xs (i + 2)).toInt64) &&& 4294967295)) (xs (i + 3)) fT (z + 1))))), (mm, .inr (3, [.int 0, .long ns, .long sdM, .int (nI n), .int kM, .int (nI B), .int (nI q), .ref w1, .ref w2, .ref w3])), (w1, .inl (G.2.2.1, 100, .inl g)), (w2, .inl (G.2.2.2, 100, .inl h)), (w3, .inl (G.2.2.1, 10, .inl ink0))]) (ru_V (b := x) (As := [.long ((((xs (i + 1)).toInt64) <<< ((32 : Int32).toInt64 &&& 63)) ||| (((xs (i + 2)).toInt64) &&& 4294967295)), .int (xs (i + 3)), .int (nI z)]) (rest := []) ⟨hx, hb, hml, hown, ht⟩ hKN (c_P_same l G _ x d1 d2 v1 v2 v3 o1 t1 sd k n fb f g h q ns (nI B) o2 sO kO nO bO fO t2 sT kT nT bT fT ((((xs (i + 1)).toInt64) <<< ((32 : Int32).toInt64 &&& 63)) ||| (((xs (i + 2)).toInt64) &&& 4294967295)) (xs (i + 3)) z (hP.sub [0, 1, 2, 3, 4, 5, 6, 7, 8, 9] rfl) ((hD.sub (ws' := [(x, .inr (0, [.ref d1, .ref v1, .ref o1, .ref t1, .long ns, .int (nI B)])), (d1, .inr (1, [.ref d2, .long sd, .int k, .int (nI n), .int fb])), (d2, .inl (G.2.1, 16, .inr (.inl f))), (v1, .inr (2, [.ref v2, .ref v3, .int (nI q)])), (v2, .inl (G.2.2.1, 100, .inl g)), (v3, .inl (G.2.2.2, 100, .inl h)), (o1, .inr (1, [.ref o2, .long sO, .int kO, .int (nI nO), .int bO])), (o2, .inl (G.2.1, 16, .inr (.inl fO))), (t1, .inr (1, [.ref t2, .long sT, .int kT, .int (nI nT), .int bT])), (t2, .inl (G.2.1, 16, .inr (.inl fT)))]) [0, 1, 2, 3, 4, 5, 6, 7, 8, 9] (by decide) rfl).weaken (fun _ _ _ _ => trivial)) hn hq hnO hnT hdr hz16) kc_L_67 ⟨rfl, rfl⟩ ⟨Nat.le_of_ble_eq_true rfl, Nat.le_of_ble_eq_true rfl⟩ (va_recv hK hP (ci := 0) (q0 := 0) rfl rfl) rfl hl.1 rfl (Nat.le_of_ble_eq_true rfl) d_L_law_411 ⟨Nat.le_of_ble_eq_true rfl, Nat.le_of_ble_eq_true rfl⟩) hP hD hS hA [0, 1, 2, 3, 4, 5, 6, 7, 8, 9] [10, 11, 12, 13] [4, 5, 6, 7, 8, 9, 10, 11, 12, 13, 0, 1, 2, 3] rfl rfl ⟨by decide, by decide, by decide⟩ (by decide) rfl rfl (fun H locs hP hD hS => ?_)
    refine lv_aload_n hx hb d_L_law_414 rfl (lv_at hl 2 rfl) ?_
    refine lv_aload_n hx hb d_L_law_415 rfl (lv_at hl 0 rfl) ?_
    refine lv_iload_n hx hb d_L_law_416 rfl (lv_at hl 3 rfl) ?_
    refine lv_iconst (v := 1) hx hb d_L_law_417 (by decide) ?_
    refine lv_iadd hx hb d_L_law_418 ?_
    rw [show nI i + 1 = nI (i + 1) from nI_add i 1]
    refine va_sld hx hb hX hbl hbA hS (i := nI (i + 1)) (vp_in_nI (show (i + 1) < L by omega) (by omega)) d_L_law_419 ?_
    rw [nI_clamp (show (i + 1) < 2 ^ 31 by omega)]
    refine lv_i2l hx hb d_L_law_420 rfl ?_
    refine lv_bipush (v := 32) hx hb d_L_law_421 (by decide) ?_
    refine lv_lshl hx hb d_L_law_423 rfl ?_
    refine lv_aload_n hx hb d_L_law_424 rfl (lv_at hl 0 rfl) ?_
    refine lv_iload_n hx hb d_L_law_425 rfl (lv_at hl 3 rfl) ?_
    refine lv_iconst (v := 2) hx hb d_L_law_426 (by decide) ?_
    refine lv_iadd hx hb d_L_law_427 ?_
    rw [show nI i + 2 = nI (i + 2) from nI_add i 2]
    refine va_sld hx hb hX hbl hbA hS (i := nI (i + 2)) (vp_in_nI (show (i + 2) < L by omega) (by omega)) d_L_law_428 ?_
    rw [nI_clamp (show (i + 2) < 2 ^ 31 by omega)]
    refine lv_i2l hx hb d_L_law_429 rfl ?_
    refine lv_ldc2 (v := 4294967295) hx hb hown (ht _ kl_L_21) d_L_law_430 ?_
    refine lv_land hx hb d_L_law_433 ?_
    refine lv_lor hx hb d_L_law_434 ?_
    refine lv_aload_n hx hb d_L_law_435 rfl (lv_at hl 0 rfl) ?_
    refine lv_iload_n hx hb d_L_law_436 rfl (lv_at hl 3 rfl) ?_
    refine lv_iconst (v := 3) hx hb d_L_law_437 (by decide) ?_
    refine lv_iadd hx hb d_L_law_438 ?_
    rw [show nI i + 3 = nI (i + 3) from nI_add i 3]
    refine va_sld hx hb hX hbl hbA hS (i := nI (i + 3)) (vp_in_nI (show (i + 3) < L by omega) (by omega)) d_L_law_439 ?_
    rw [nI_clamp (show (i + 3) < 2 ^ 31 by omega)]
    refine lv_aload_n hx hb d_L_law_440 rfl (lv_at hl 0 rfl) ?_
    refine lv_iload_n hx hb d_L_law_441 rfl (lv_at hl 3 rfl) ?_
    refine lv_iconst (v := 4) hx hb d_L_law_442 (by decide) ?_
    refine lv_iadd hx hb d_L_law_443 ?_
    rw [show nI i + 4 = nI (i + 4) from nI_add i 4]
    refine va_sld hx hb hX hbl hbA hS (i := nI (i + 4)) (vp_in_nI (show (i + 4) < L by omega) (by omega)) d_L_law_444 ?_
    rw [nI_clamp (show (i + 4) < 2 ^ 31 by omega)]
    rw [ez]
    refine mu_i (wr := [(x, .inr (0, [.ref d1, .ref v1, .ref o1, .ref t1, .long ns, .int (nI B)])), (d1, .inr (1, [.ref d2, .long sd, .int k, .int (nI n), .int fb])), (d2, .inl (G.2.1, 16, .inr (.inl f))), (v1, .inr (2, [.ref v2, .ref v3, .int (nI q)])), (v2, .inl (G.2.2.1, 100, .inl g)), (v3, .inl (G.2.2.2, 100, .inl h)), (o1, .inr (1, [.ref o2, .long ns, .int (xs (i + 3)), .int (nI (z + 1)), .int (fbN (xs (i + 3)) (z + 1) (fl ns (xs (i + 3)) fO (z + 1)))])), (o2, .inl (G.2.1, 16, .inr (.inl (fl ns (xs (i + 3)) fO (z + 1))))), (t1, .inr (1, [.ref t2, .long ((((xs (i + 1)).toInt64) <<< ((32 : Int32).toInt64 &&& 63)) ||| (((xs (i + 2)).toInt64) &&& 4294967295)), .int (xs (i + 3)), .int (nI (z + 1)), .int (fbN (xs (i + 3)) (z + 1) (fl ((((xs (i + 1)).toInt64) <<< ((32 : Int32).toInt64 &&& 63)) ||| (((xs (i + 2)).toInt64) &&& 4294967295)) (xs (i + 3)) fT (z + 1)))])), (t2, .inl (G.2.1, 16, .inr (.inl (fl ((((xs (i + 1)).toInt64) <<< ((32 : Int32).toInt64 &&& 63)) ||| (((xs (i + 2)).toInt64) &&& 4294967295)) (xs (i + 3)) fT (z + 1)))))]) (wn := [(x, .inr (0, [.ref d1, .ref v1, .ref o1, .ref t1, .long ns, .int (nI B)])), (d1, .inr (1, [.ref d2, .long sd, .int k, .int (nI n), .int fb])), (d2, .inl (G.2.1, 16, .inr (.inl f))), (v1, .inr (2, [.ref v2, .ref v3, .int (nI q)])), (v2, .inl (G.2.2.1, 100, .inl g)), (v3, .inl (G.2.2.2, 100, .inl h)), (o1, .inr (1, [.ref o2, .long ns, .int (xs (i + 3)), .int (nI (z + 1)), .int (fbN (xs (i + 3)) (z + 1) (fl ns (xs (i + 3)) fO (z + 1)))])), (o2, .inl (G.2.1, 16, .inr (.inl (fl ns (xs (i + 3)) fO (z + 1))))), (t1, .inr (1, [.ref t2, .long ((((xs (i + 1)).toInt64) <<< ((32 : Int32).toInt64 &&& 63)) ||| (((xs (i + 2)).toInt64) &&& 4294967295)), .int (xs (i + 3)), .int (nI (z + 1)), .int (fbN (xs (i + 3)) (z + 1) (fl ((((xs (i + 1)).toInt64) <<< ((32 : Int32).toInt64 &&& 63)) ||| (((xs (i + 2)).toInt64) &&& 4294967295)) (xs (i + 3)) fT (z + 1)))])), (t2, .inl (G.2.1, 16, .inr (.inl (fl ((((xs (i + 1)).toInt64) <<< ((32 : Int32).toInt64 &&& 63)) ||| (((xs (i + 2)).toInt64) &&& 4294967295)) (xs (i + 3)) fT (z + 1))))), (mm, .inr (3, [.int 0, .long ns, .long sdM, .int (nI n), .int kM, .int (nI B), .int (nI q), .ref w1, .ref w2, .ref w3])), (w1, .inl (G.2.2.1, 100, .inl g)), (w2, .inl (G.2.2.2, 100, .inl h)), (w3, .inl (G.2.2.1, 10, .inl ink0))]) (ru_V (b := mm) (As := [.long ((((xs (i + 1)).toInt64) <<< ((32 : Int32).toInt64 &&& 63)) ||| (((xs (i + 2)).toInt64) &&& 4294967295)), .int (xs (i + 3)), .int (nI z)]) (rest := [.int (hsp (z + 1) (fbN (xs (i + 3)) (z + 1) (fl ns (xs (i + 3)) fO (z + 1))) (fl ns (xs (i + 3)) fO (z + 1)) (z + 1) (fbN (xs (i + 3)) (z + 1) (fl ((((xs (i + 1)).toInt64) <<< ((32 : Int32).toInt64 &&& 63)) ||| (((xs (i + 2)).toInt64) &&& 4294967295)) (xs (i + 3)) fT (z + 1))) (fl ((((xs (i + 1)).toInt64) <<< ((32 : Int32).toInt64 &&& 63)) ||| (((xs (i + 2)).toInt64) &&& 4294967295)) (xs (i + 3)) fT (z + 1)))]) ⟨hx, hb, hml, hown, ht⟩ hKN (c_M_same l G _ mm w1 w2 w3 ns sdM n kM (nI B) q g h ink0 ((((xs (i + 1)).toInt64) <<< ((32 : Int32).toInt64 &&& 63)) ||| (((xs (i + 2)).toInt64) &&& 4294967295)) (xs (i + 3)) z (hP.sub [10, 11, 12, 13] rfl) ((hD.sub (ws' := [(mm, .inr (3, [.int 0, .long ns, .long sdM, .int (nI n), .int kM, .int (nI B), .int (nI q), .ref w1, .ref w2, .ref w3])), (w1, .inl (G.2.2.1, 100, .inl g)), (w2, .inl (G.2.2.2, 100, .inl h)), (w3, .inl (G.2.2.1, 10, .inl ink0))]) [10, 11, 12, 13] (by decide) rfl).weaken (fun _ _ _ _ => trivial)) hn hq hdrM hz16) kc_L_71 ⟨rfl, rfl⟩ ⟨Nat.le_of_ble_eq_true rfl, Nat.le_of_ble_eq_true rfl⟩ (va_recv hK hP (ci := 3) (q0 := 10) rfl rfl) rfl hl.1 rfl (Nat.le_of_ble_eq_true rfl) d_L_law_445 ⟨Nat.le_of_ble_eq_true rfl, Nat.le_of_ble_eq_true rfl⟩) hP hD hS hA [10, 11, 12, 13] [0, 1, 2, 3, 4, 5, 6, 7, 8, 9] [0, 1, 2, 3, 4, 5, 6, 7, 8, 9, 10, 11, 12, 13] rfl rfl ⟨by decide, by decide, by decide⟩ (by decide) rfl rfl (fun H locs hP hD hS => ?_)
    refine lv_icmp_eq (tgt := 453) hx hb d_L_law_448 (by decide) (fun c2 => ?_) (fun c2 => ?_)
    · exact next H locs ls ⟨d1, d2, v1, v2, v3, o1, t1, sd, k, n, fb, f, g, h, q, ns, B, o2, ns, (xs (i + 3)), (z + 1), (fbN (xs (i + 3)) (z + 1) (fl ns (xs (i + 3)) fO (z + 1))), (fl ns (xs (i + 3)) fO (z + 1)), t2, (((xs (i + 1)).toInt64 <<< ((32 : Int32).toInt64 &&& 63)) ||| ((xs (i + 2)).toInt64 &&& 4294967295)), (xs (i + 3)), (z + 1), (fbN (xs (i + 3)) (z + 1) (fl (((xs (i + 1)).toInt64 <<< ((32 : Int32).toInt64 &&& 63)) ||| ((xs (i + 2)).toInt64 &&& 4294967295)) (xs (i + 3)) fT (z + 1))), (fl (((xs (i + 1)).toInt64 <<< ((32 : Int32).toInt64 &&& 63)) ||| ((xs (i + 2)).toInt64 &&& 4294967295)) (xs (i + 3)) fT (z + 1)), w1, w2, w3, sdM, kM, hP, hD, hR, (by omega), (by omega)⟩ hS (lv_sub hl [0, 1, 2, 3] rfl)
    · exact absurd (same_eq (n := z + 1) (by omega) (fun i hi => fl_at _ _ _ (z + 1) i hi) (fun i hi => fl_at _ _ _ (z + 1) i hi)) c2
end
