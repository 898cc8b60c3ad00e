section
-- ===== PART A: goes FIRST, ahead of the names: the tables' words, and 'selects' of the private methods out of them =====
/-- a private method of a class that the tables say can be made, by its rows of tables_1 -/
def lw_okq (q : MethodName × Nat) : Prop := (q.1.cls ≠ "java/lang/invoke/MethodHandle" ∧ q.1.cls ≠ "java/lang/invoke/VarHandle") ∧ Cond.instantiable q.1.cls q.2 ∈ tables_1 ∧ Cond.privateMethod q.1 ∈ tables_1 ∧ Cond.instanceMethod q.1 ∈ tables_1
theorem lw_p0 : lw_okq (⟨"PostDrawer$Drawing", "greaterHalf", "()I"⟩, 5) := ⟨⟨by decide +kernel, by decide +kernel⟩, List.mem_of_getElem? (i := 16) (by decide +kernel), List.mem_of_getElem? (i := 109) (by decide +kernel), List.mem_of_getElem? (i := 110) (by decide +kernel)⟩
theorem lw_p1 : lw_okq (⟨"PostDrawer$Drawing", "countAbove", "(I)I"⟩, 5) := ⟨⟨by decide +kernel, by decide +kernel⟩, List.mem_of_getElem? (i := 16) (by decide +kernel), List.mem_of_getElem? (i := 113) (by decide +kernel), List.mem_of_getElem? (i := 114) (by decide +kernel)⟩
theorem lw_p2 : lw_okq (⟨"PostDrawer$Drawing", "isAbove", "(II)Z"⟩, 5) := ⟨⟨by decide +kernel, by decide +kernel⟩, List.mem_of_getElem? (i := 16) (by decide +kernel), List.mem_of_getElem? (i := 117) (by decide +kernel), List.mem_of_getElem? (i := 118) (by decide +kernel)⟩
theorem lw_p3 : lw_okq (⟨"PostDrawer$Verdicts", "find", "(I)I"⟩, 3) := ⟨⟨by decide +kernel, by decide +kernel⟩, List.mem_of_getElem? (i := 43) (by decide +kernel), List.mem_of_getElem? (i := 178) (by decide +kernel), List.mem_of_getElem? (i := 179) (by decide +kernel)⟩
theorem lw_p4 : lw_okq (⟨"PostDrawer", "leaveOutAll", "()V"⟩, 6) := ⟨⟨by decide +kernel, by decide +kernel⟩, List.mem_of_getElem? (i := 8) (by decide +kernel), List.mem_of_getElem? (i := 190) (by decide +kernel), List.mem_of_getElem? (i := 191) (by decide +kernel)⟩
theorem lw_p5 : lw_okq (⟨"PostDrawer", "goThrough", "()V"⟩, 6) := ⟨⟨by decide +kernel, by decide +kernel⟩, List.mem_of_getElem? (i := 8) (by decide +kernel), List.mem_of_getElem? (i := 194) (by decide +kernel), List.mem_of_getElem? (i := 195) (by decide +kernel)⟩
theorem lw_p6 : lw_okq (⟨"PostDrawer", "canLeaveOut", "(I)Z"⟩, 6) := ⟨⟨by decide +kernel, by decide +kernel⟩, List.mem_of_getElem? (i := 8) (by decide +kernel), List.mem_of_getElem? (i := 198) (by decide +kernel), List.mem_of_getElem? (i := 199) (by decide +kernel)⟩
theorem lw_p7 : lw_okq (⟨"PostDrawerModel", "placeOf", "(I)I"⟩, 10) := ⟨⟨by decide +kernel, by decide +kernel⟩, List.mem_of_getElem? (i := 230) (by decide +kernel), List.mem_of_getElem? (i := 311) (by decide +kernel), List.mem_of_getElem? (i := 312) (by decide +kernel)⟩
theorem lw_p8 : lw_okq (⟨"PostDrawerModel", "stays", "(I)Z"⟩, 10) := ⟨⟨by decide +kernel, by decide +kernel⟩, List.mem_of_getElem? (i := 230) (by decide +kernel), List.mem_of_getElem? (i := 319) (by decide +kernel), List.mem_of_getElem? (i := 320) (by decide +kernel)⟩
theorem lw_p9 : lw_okq (⟨"PostDrawerModel", "without", "(II)I"⟩, 10) := ⟨⟨by decide +kernel, by decide +kernel⟩, List.mem_of_getElem? (i := 230) (by decide +kernel), List.mem_of_getElem? (i := 323) (by decide +kernel), List.mem_of_getElem? (i := 324) (by decide +kernel)⟩
def lw_privs_1 : List (MethodName × Nat) := [(⟨"PostDrawer$Drawing", "greaterHalf", "()I"⟩, 5), (⟨"PostDrawer$Drawing", "countAbove", "(I)I"⟩, 5), (⟨"PostDrawer$Drawing", "isAbove", "(II)Z"⟩, 5), (⟨"PostDrawer$Verdicts", "find", "(I)I"⟩, 3), (⟨"PostDrawer", "leaveOutAll", "()V"⟩, 6), (⟨"PostDrawer", "goThrough", "()V"⟩, 6), (⟨"PostDrawer", "canLeaveOut", "(I)Z"⟩, 6), (⟨"PostDrawerModel", "placeOf", "(I)I"⟩, 10), (⟨"PostDrawerModel", "stays", "(I)Z"⟩, 10), (⟨"PostDrawerModel", "without", "(II)I"⟩, 10)]
theorem lw_r1 : ∀ q ∈ lw_privs_1, lw_okq q := List.forall_mem_cons.mpr ⟨lw_p0, List.forall_mem_cons.mpr ⟨lw_p1, List.forall_mem_cons.mpr ⟨lw_p2, List.forall_mem_cons.mpr ⟨lw_p3, List.forall_mem_cons.mpr ⟨lw_p4, List.forall_mem_cons.mpr ⟨lw_p5, List.forall_mem_cons.mpr ⟨lw_p6, List.forall_mem_cons.mpr ⟨lw_p7, List.forall_mem_cons.mpr ⟨lw_p8, List.forall_mem_cons.mpr ⟨lw_p9, fun _ h => absurd h List.not_mem_nil⟩⟩⟩⟩⟩⟩⟩⟩⟩⟩
def lw_privs : List (MethodName × Nat) := lw_privs_1
def lw_tbl : List Cond := k2_sels lw_privs ++ tables_1
theorem lw_privs_ok : ∀ q ∈ lw_privs, lw_okq q := lw_r1
end
section
def R_P : String := "PostDrawer"
def F_P : u_T := fun k => match k with
  | 0 => ("PostDrawer", "drawn", "LPostDrawer$Drawing;", true)
  | 1 => ("PostDrawer", "verdicts", "LPostDrawer$Verdicts;", true)
  | 2 => ("PostDrawer", "ours", "LPostDrawer$Drawing;", true)
  | 3 => ("PostDrawer", "theirs", "LPostDrawer$Drawing;", true)
  | 4 => ("PostDrawer", "nextSeed", "J", false)
  | _ => ("PostDrawer", "leftBits", "I", false)
def t_P : Nat → FieldType := fun k => match k with
  | 0 => .object "PostDrawer$Drawing"
  | 1 => .object "PostDrawer$Verdicts"
  | 2 => .object "PostDrawer$Drawing"
  | 3 => .object "PostDrawer$Drawing"
  | 4 => .long
  | _ => .int
theorem n_P : ∀ a, a < 6 → ∀ b, b < 6 → a ≠ b → (F_P a).2.1 ≠ (F_P b).2.1 := by decide +kernel
theorem tk_P : ∀ k, k < 6 → parseFieldDescriptor (F_P k).2.2.1 = some (t_P k) := by decide +kernel
def R_D : String := "PostDrawer$Drawing"
def F_D : u_T := fun k => match k with
  | 0 => ("PostDrawer$Drawing", "numbers", "[J", true)
  | 1 => ("PostDrawer$Drawing", "seed", "J", false)
  | 2 => ("PostDrawer$Drawing", "kind", "I", false)
  | 3 => ("PostDrawer$Drawing", "count", "I", false)
  | _ => ("PostDrawer$Drawing", "faultBits", "I", false)
def t_D : Nat → FieldType := fun k => match k with
  | 0 => .array .long
  | 1 => .long
  | 2 => .int
  | 3 => .int
  | _ => .int
theorem n_D : ∀ a, a < 5 → ∀ b, b < 5 → a ≠ b → (F_D a).2.1 ≠ (F_D b).2.1 := by decide +kernel
theorem tk_D : ∀ k, k < 5 → parseFieldDescriptor (F_D k).2.2.1 = some (t_D k) := by decide +kernel
def R_V : String := "PostDrawer$Verdicts"
def F_V : u_T := fun k => match k with
  | 0 => ("PostDrawer$Verdicts", "sets", "[I", true)
  | 1 => ("PostDrawer$Verdicts", "stays", "[Z", true)
  | _ => ("PostDrawer$Verdicts", "count", "I", false)
def t_V : Nat → FieldType := fun k => match k with
  | 0 => .array .int
  | 1 => .array .boolean
  | _ => .int
theorem n_V : ∀ a, a < 3 → ∀ b, b < 3 → a ≠ b → (F_V a).2.1 ≠ (F_V b).2.1 := by decide +kernel
theorem tk_V : ∀ k, k < 3 → parseFieldDescriptor (F_V k).2.2.1 = some (t_V k) := by decide +kernel
def R_M : String := "PostDrawerModel"
def F_M : u_T := fun k => match k with
  | 0 => ("PostDrawerModel", "thrown", "I", false)
  | 1 => ("PostDrawerModel", "seed", "J", false)
  | 2 => ("PostDrawerModel", "drawnBy", "J", false)
  | 3 => ("PostDrawerModel", "parts", "I", false)
  | 4 => ("PostDrawerModel", "kind", "I", false)
  | 5 => ("PostDrawerModel", "leftBits", "I", false)
  | 6 => ("PostDrawerModel", "sets", "I", false)
  | 7 => ("PostDrawerModel", "set", "[I", true)
  | 8 => ("PostDrawerModel", "staying", "[Z", true)
  | _ => ("PostDrawerModel", "inks", "[I", true)
def t_M : Nat → FieldType := fun k => match k with
  | 0 => .int
  | 1 => .long
  | 2 => .long
  | 3 => .int
  | 4 => .int
  | 5 => .int
  | 6 => .int
  | 7 => .array .int
  | 8 => .array .boolean
  | _ => .array .int
theorem n_M : ∀ a, a < 10 → ∀ b, b < 10 → a ≠ b → (F_M a).2.1 ≠ (F_M b).2.1 := by decide +kernel
theorem tk_M : ∀ k, k < 10 → parseFieldDescriptor (F_M k).2.2.1 = some (t_M k) := by decide +kernel
def R_L : String := "PostDrawerLaw"
def R_J : String := "java/lang/Integer"
abbrev classes : List vw_C := [(R_P, F_P, 6), (R_D, F_D, 5), (R_V, F_V, 3), (R_M, F_M, 10)]
abbrev b_P_init : ByteArray := prog_1_method_1_code
def y_P_init : MethodName := ⟨R_P, "<init>", "(I)V"⟩
abbrev b_P_seed : ByteArray := prog_1_method_2_code
def y_P_seed : MethodName := ⟨R_P, "seed", "(J)J"⟩
abbrev b_P_draw : ByteArray := prog_1_method_3_code
def y_P_draw : MethodName := ⟨R_P, "draw", "(II)I"⟩
abbrev b_P_part : ByteArray := prog_1_method_4_code
def y_P_part : MethodName := ⟨R_P, "part", "(II)I"⟩
abbrev b_P_point : ByteArray := prog_1_method_5_code
def y_P_point : MethodName := ⟨R_P, "point", "(III)I"⟩
abbrev b_P_verdict : ByteArray := prog_1_method_6_code
def y_P_verdict : MethodName := ⟨R_P, "verdict", "(IZ)I"⟩
abbrev b_P_shorter : ByteArray := prog_1_method_7_code
def y_P_shorter : MethodName := ⟨R_P, "shorter", "()I"⟩
abbrev b_P_left : ByteArray := prog_1_method_8_code
def y_P_left : MethodName := ⟨R_P, "left", "(I)I"⟩
abbrev b_P_minimal : ByteArray := prog_1_method_9_code
def y_P_minimal : MethodName := ⟨R_P, "minimal", "()Z"⟩
abbrev b_P_faultless : ByteArray := prog_1_method_10_code
def y_P_faultless : MethodName := ⟨R_P, "faultless", "(I)Z"⟩
abbrev b_P_same : ByteArray := prog_1_method_11_code
def y_P_same : MethodName := ⟨R_P, "same", "(JII)Z"⟩
abbrev b_P_isDrawable : ByteArray := prog_1_method_12_code
def y_P_isDrawable : MethodName := ⟨R_P, "isDrawable", "(II)Z"⟩
abbrev b_P_leaveOutAll : ByteArray := prog_1_method_13_code
def y_P_leaveOutAll : MethodName := ⟨R_P, "leaveOutAll", "()V"⟩
abbrev b_P_goThrough : ByteArray := prog_1_method_14_code
def y_P_goThrough : MethodName := ⟨R_P, "goThrough", "()V"⟩
abbrev b_P_canLeaveOut : ByteArray := prog_1_method_15_code
def y_P_canLeaveOut : MethodName := ⟨R_P, "canLeaveOut", "(I)Z"⟩
abbrev b_P_isInked : ByteArray := prog_1_method_16_code
def y_P_isInked : MethodName := ⟨R_P, "isInked", "(III)Z"⟩
abbrev b_P_noise : ByteArray := prog_1_method_17_code
def y_P_noise : MethodName := ⟨R_P, "noise", "(JIII)I"⟩
abbrev b_P_number : ByteArray := prog_1_method_18_code
def y_P_number : MethodName := ⟨R_P, "number", "(JII)J"⟩
abbrev b_P_haveSameParts : ByteArray := prog_1_method_19_code
def y_P_haveSameParts : MethodName := ⟨R_P, "haveSameParts", "(LPostDrawer$Drawing;LPostDrawer$Drawing;)Z"⟩
abbrev b_D_init : ByteArray := prog_2_method_1_code
def y_D_init : MethodName := ⟨R_D, "<init>", "()V"⟩
abbrev b_D_fill : ByteArray := prog_2_method_2_code
def y_D_fill : MethodName := ⟨R_D, "fill", "(JII)V"⟩
abbrev b_D_isEmpty : ByteArray := prog_2_method_3_code
def y_D_isEmpty : MethodName := ⟨R_D, "isEmpty", "()Z"⟩
abbrev b_D_has : ByteArray := prog_2_method_4_code
def y_D_has : MethodName := ⟨R_D, "has", "(I)Z"⟩
abbrev b_D_allBits : ByteArray := prog_2_method_5_code
def y_D_allBits : MethodName := ⟨R_D, "allBits", "()I"⟩
abbrev b_D_hasFaults : ByteArray := prog_2_method_6_code
def y_D_hasFaults : MethodName := ⟨R_D, "hasFaults", "(I)Z"⟩
abbrev b_D_fact : ByteArray := prog_2_method_7_code
def y_D_fact : MethodName := ⟨R_D, "fact", "(II)I"⟩
abbrev b_D_greaterHalf : ByteArray := prog_2_method_8_code
def y_D_greaterHalf : MethodName := ⟨R_D, "greaterHalf", "()I"⟩
abbrev b_D_countAbove : ByteArray := prog_2_method_9_code
def y_D_countAbove : MethodName := ⟨R_D, "countAbove", "(I)I"⟩
abbrev b_D_isAbove : ByteArray := prog_2_method_10_code
def y_D_isAbove : MethodName := ⟨R_D, "isAbove", "(II)Z"⟩
abbrev b_V_init : ByteArray := prog_3_method_1_code
def y_V_init : MethodName := ⟨R_V, "<init>", "()V"⟩
abbrev b_V_forget : ByteArray := prog_3_method_2_code
def y_V_forget : MethodName := ⟨R_V, "forget", "()V"⟩
abbrev b_V_tell : ByteArray := prog_3_method_3_code
def y_V_tell : MethodName := ⟨R_V, "tell", "(IZ)Z"⟩
abbrev b_V_stayFor : ByteArray := prog_3_method_4_code
def y_V_stayFor : MethodName := ⟨R_V, "stayFor", "(I)Z"⟩
abbrev b_V_find : ByteArray := prog_3_method_5_code
def y_V_find : MethodName := ⟨R_V, "find", "(I)I"⟩
abbrev b_M_init : ByteArray := prog_5_method_1_code
def y_M_init : MethodName := ⟨R_M, "<init>", "(I)V"⟩
abbrev b_M_in : ByteArray := prog_5_method_3_code
def y_M_in : MethodName := ⟨R_M, "in", "(III)Z"⟩
abbrev b_M_number : ByteArray := prog_5_method_4_code
def y_M_number : MethodName := ⟨R_M, "number", "(JII)J"⟩
abbrev b_M_rest : ByteArray := prog_5_method_5_code
def y_M_rest : MethodName := ⟨R_M, "rest", "(JI)I"⟩
abbrev b_M_isLess : ByteArray := prog_5_method_6_code
def y_M_isLess : MethodName := ⟨R_M, "isLess", "(JJ)Z"⟩
abbrev b_M_fact : ByteArray := prog_5_method_7_code
def y_M_fact : MethodName := ⟨R_M, "fact", "(JI)I"⟩
abbrev b_M_hasFaults : ByteArray := prog_5_method_8_code
def y_M_hasFaults : MethodName := ⟨R_M, "hasFaults", "(JIII)Z"⟩
abbrev b_M_seed : ByteArray := prog_5_method_9_code
def y_M_seed : MethodName := ⟨R_M, "seed", "(J)J"⟩
abbrev b_M_draw : ByteArray := prog_5_method_10_code
def y_M_draw : MethodName := ⟨R_M, "draw", "(II)I"⟩
abbrev b_M_part : ByteArray := prog_5_method_11_code
def y_M_part : MethodName := ⟨R_M, "part", "(II)I"⟩
abbrev b_M_point : ByteArray := prog_5_method_12_code
def y_M_point : MethodName := ⟨R_M, "point", "(III)I"⟩
abbrev b_M_placeOf : ByteArray := prog_5_method_13_code
def y_M_placeOf : MethodName := ⟨R_M, "placeOf", "(I)I"⟩
abbrev b_M_stays : ByteArray := prog_5_method_14_code
def y_M_stays : MethodName := ⟨R_M, "stays", "(I)Z"⟩
abbrev b_M_verdict : ByteArray := prog_5_method_15_code
def y_M_verdict : MethodName := ⟨R_M, "verdict", "(IZ)I"⟩
abbrev b_M_countOf : ByteArray := prog_5_method_16_code
def y_M_countOf : MethodName := ⟨R_M, "countOf", "(I)I"⟩
abbrev b_M_without : ByteArray := prog_5_method_17_code
def y_M_without : MethodName := ⟨R_M, "without", "(II)I"⟩
abbrev b_M_shorter : ByteArray := prog_5_method_18_code
def y_M_shorter : MethodName := ⟨R_M, "shorter", "()I"⟩
abbrev b_M_left : ByteArray := prog_5_method_19_code
def y_M_left : MethodName := ⟨R_M, "left", "(I)I"⟩
abbrev b_M_minimal : ByteArray := prog_5_method_20_code
def y_M_minimal : MethodName := ⟨R_M, "minimal", "()Z"⟩
abbrev b_M_faultless : ByteArray := prog_5_method_21_code
def y_M_faultless : MethodName := ⟨R_M, "faultless", "(I)Z"⟩
abbrev b_M_same : ByteArray := prog_5_method_22_code
def y_M_same : MethodName := ⟨R_M, "same", "(JII)Z"⟩
abbrev b_L_cell : ByteArray := method_2_code
def y_L_cell : MethodName := ⟨R_L, "cell", "([II)I"⟩
abbrev b_J_bitCount : ByteArray := prog_6_method_49_code
def y_J_bitCount : MethodName := ⟨R_J, "bitCount", "(I)I"⟩
end
section
theorem d_P_init_0 : decode b_P_init 0 = .ok (.aload_n 0, 1) := by decide +kernel
theorem d_P_init_1 : decode b_P_init 1 = .ok (.invokespecial 1, 3) := by decide +kernel
theorem d_P_init_4 : decode b_P_init 4 = .ok (.aload_n 0, 1) := by decide +kernel
theorem d_P_init_5 : decode b_P_init 5 = .ok (.iload_n 1, 1) := by decide +kernel
theorem d_P_init_6 : decode b_P_init 6 = .ok (.i2l, 1) := by decide +kernel
theorem d_P_init_7 : decode b_P_init 7 = .ok (.putfield 7, 3) := by decide +kernel
theorem d_P_init_10 : decode b_P_init 10 = .ok (.aload_n 0, 1) := by decide +kernel
theorem d_P_init_11 : decode b_P_init 11 = .ok (.iconst 0, 1) := by decide +kernel
theorem d_P_init_12 : decode b_P_init 12 = .ok (.putfield 13, 3) := by decide +kernel
theorem d_P_init_15 : decode b_P_init 15 = .ok (.aload_n 0, 1) := by decide +kernel
theorem d_P_init_16 : decode b_P_init 16 = .ok (.new 17, 3) := by decide +kernel
theorem d_P_init_19 : decode b_P_init 19 = .ok (.dup, 1) := by decide +kernel
theorem d_P_init_20 : decode b_P_init 20 = .ok (.invokespecial 19, 3) := by decide +kernel
theorem d_P_init_23 : decode b_P_init 23 = .ok (.putfield 20, 3) := by decide +kernel
theorem d_P_init_26 : decode b_P_init 26 = .ok (.aload_n 0, 1) := by decide +kernel
theorem d_P_init_27 : decode b_P_init 27 = .ok (.new 17, 3) := by decide +kernel
theorem d_P_init_30 : decode b_P_init 30 = .ok (.dup, 1) := by decide +kernel
theorem d_P_init_31 : decode b_P_init 31 = .ok (.invokespecial 19, 3) := by decide +kernel
theorem d_P_init_34 : decode b_P_init 34 = .ok (.putfield 24, 3) := by decide +kernel
theorem d_P_init_37 : decode b_P_init 37 = .ok (.aload_n 0, 1) := by decide +kernel
theorem d_P_init_38 : decode b_P_init 38 = .ok (.new 17, 3) := by decide +kernel
theorem d_P_init_41 : decode b_P_init 41 = .ok (.dup, 1) := by decide +kernel
theorem d_P_init_42 : decode b_P_init 42 = .ok (.invokespecial 19, 3) := by decide +kernel
theorem d_P_init_45 : decode b_P_init 45 = .ok (.putfield 27, 3) := by decide +kernel
theorem d_P_init_48 : decode b_P_init 48 = .ok (.aload_n 0, 1) := by decide +kernel
theorem d_P_init_49 : decode b_P_init 49 = .ok (.new 30, 3) := by decide +kernel
theorem d_P_init_52 : decode b_P_init 52 = .ok (.dup, 1) := by decide +kernel
theorem d_P_init_53 : decode b_P_init 53 = .ok (.invokespecial 32, 3) := by decide +kernel
theorem d_P_init_56 : decode b_P_init 56 = .ok (.putfield 33, 3) := by decide +kernel
theorem d_P_init_59 : decode b_P_init 59 = .ok (.return_, 1) := by decide +kernel
theorem d_P_seed_0 : decode b_P_seed 0 = .ok (.aload_n 0, 1) := by decide +kernel
theorem d_P_seed_1 : decode b_P_seed 1 = .ok (.getfield 7, 3) := by decide +kernel
theorem d_P_seed_4 : decode b_P_seed 4 = .ok (.lstore_n 3, 1) := by decide +kernel
theorem d_P_seed_5 : decode b_P_seed 5 = .ok (.aload_n 0, 1) := by decide +kernel
theorem d_P_seed_6 : decode b_P_seed 6 = .ok (.lload_n 1, 1) := by decide +kernel
theorem d_P_seed_7 : decode b_P_seed 7 = .ok (.putfield 7, 3) := by decide +kernel
theorem d_P_seed_10 : decode b_P_seed 10 = .ok (.lload_n 3, 1) := by decide +kernel
theorem d_P_seed_11 : decode b_P_seed 11 = .ok (.lreturn, 1) := by decide +kernel
theorem d_P_draw_0 : decode b_P_draw 0 = .ok (.iload_n 1, 1) := by decide +kernel
theorem d_P_draw_1 : decode b_P_draw 1 = .ok (.iload_n 2, 1) := by decide +kernel
theorem d_P_draw_2 : decode b_P_draw 2 = .ok (.invokestatic 37, 3) := by decide +kernel
theorem d_P_draw_5 : decode b_P_draw 5 = .ok (.ifCond .ne 6, 3) := by decide +kernel
theorem d_P_draw_8 : decode b_P_draw 8 = .ok (.bipush (-12), 2) := by decide +kernel
theorem d_P_draw_10 : decode b_P_draw 10 = .ok (.ireturn, 1) := by decide +kernel
theorem d_P_draw_11 : decode b_P_draw 11 = .ok (.aload_n 0, 1) := by decide +kernel
theorem d_P_draw_12 : decode b_P_draw 12 = .ok (.getfield 20, 3) := by decide +kernel
theorem d_P_draw_15 : decode b_P_draw 15 = .ok (.aload_n 0, 1) := by decide +kernel
theorem d_P_draw_16 : decode b_P_draw 16 = .ok (.getfield 7, 3) := by decide +kernel
theorem d_P_draw_19 : decode b_P_draw 19 = .ok (.iload_n 1, 1) := by decide +kernel
theorem d_P_draw_20 : decode b_P_draw 20 = .ok (.iload_n 2, 1) := by decide +kernel
theorem d_P_draw_21 : decode b_P_draw 21 = .ok (.iconst 1, 1) := by decide +kernel
theorem d_P_draw_22 : decode b_P_draw 22 = .ok (.iadd, 1) := by decide +kernel
theorem d_P_draw_23 : decode b_P_draw 23 = .ok (.invokevirtual 41, 3) := by decide +kernel
theorem d_P_draw_26 : decode b_P_draw 26 = .ok (.aload_n 0, 1) := by decide +kernel
theorem d_P_draw_27 : decode b_P_draw 27 = .ok (.aload_n 0, 1) := by decide +kernel
theorem d_P_draw_28 : decode b_P_draw 28 = .ok (.getfield 20, 3) := by decide +kernel
theorem d_P_draw_31 : decode b_P_draw 31 = .ok (.invokevirtual 45, 3) := by decide +kernel
theorem d_P_draw_34 : decode b_P_draw 34 = .ok (.putfield 13, 3) := by decide +kernel
theorem d_P_draw_37 : decode b_P_draw 37 = .ok (.aload_n 0, 1) := by decide +kernel
theorem d_P_draw_38 : decode b_P_draw 38 = .ok (.getfield 33, 3) := by decide +kernel
theorem d_P_draw_41 : decode b_P_draw 41 = .ok (.invokevirtual 49, 3) := by decide +kernel
theorem d_P_draw_44 : decode b_P_draw 44 = .ok (.aload_n 0, 1) := by decide +kernel
theorem d_P_draw_45 : decode b_P_draw 45 = .ok (.getfield 20, 3) := by decide +kernel
theorem d_P_draw_48 : decode b_P_draw 48 = .ok (.getfield 52, 3) := by decide +kernel
theorem d_P_draw_51 : decode b_P_draw 51 = .ok (.ireturn, 1) := by decide +kernel
theorem d_P_part_0 : decode b_P_part 0 = .ok (.aload_n 0, 1) := by decide +kernel
theorem d_P_part_1 : decode b_P_part 1 = .ok (.getfield 20, 3) := by decide +kernel
theorem d_P_part_4 : decode b_P_part 4 = .ok (.iload_n 1, 1) := by decide +kernel
theorem d_P_part_5 : decode b_P_part 5 = .ok (.invokevirtual 55, 3) := by decide +kernel
theorem d_P_part_8 : decode b_P_part 8 = .ok (.ifCond .ne 5, 3) := by decide +kernel
theorem d_P_part_11 : decode b_P_part 11 = .ok (.iconst (-1), 1) := by decide +kernel
theorem d_P_part_12 : decode b_P_part 12 = .ok (.ireturn, 1) := by decide +kernel
theorem d_P_part_13 : decode b_P_part 13 = .ok (.iload_n 2, 1) := by decide +kernel
theorem d_P_part_14 : decode b_P_part 14 = .ok (.ifCond .lt 8, 3) := by decide +kernel
theorem d_P_part_17 : decode b_P_part 17 = .ok (.iload_n 2, 1) := by decide +kernel
theorem d_P_part_18 : decode b_P_part 18 = .ok (.iconst 4, 1) := by decide +kernel
theorem d_P_part_19 : decode b_P_part 19 = .ok (.if_icmp .le 6, 3) := by decide +kernel
theorem d_P_part_22 : decode b_P_part 22 = .ok (.bipush (-12), 2) := by decide +kernel
theorem d_P_part_24 : decode b_P_part 24 = .ok (.ireturn, 1) := by decide +kernel
theorem d_P_part_25 : decode b_P_part 25 = .ok (.iload_n 2, 1) := by decide +kernel
theorem d_P_part_26 : decode b_P_part 26 = .ok (.ifCond .ne 20, 3) := by decide +kernel
theorem d_P_part_29 : decode b_P_part 29 = .ok (.aload_n 0, 1) := by decide +kernel
theorem d_P_part_30 : decode b_P_part 30 = .ok (.getfield 20, 3) := by decide +kernel
theorem d_P_part_33 : decode b_P_part 33 = .ok (.iload_n 1, 1) := by decide +kernel
theorem d_P_part_34 : decode b_P_part 34 = .ok (.invokevirtual 59, 3) := by decide +kernel
theorem d_P_part_37 : decode b_P_part 37 = .ok (.ifCond .eq 7, 3) := by decide +kernel
theorem d_P_part_40 : decode b_P_part 40 = .ok (.iconst 1, 1) := by decide +kernel
theorem d_P_part_41 : decode b_P_part 41 = .ok (.goto 4, 3) := by decide +kernel
theorem d_P_part_44 : decode b_P_part 44 = .ok (.iconst 0, 1) := by decide +kernel
theorem d_P_part_45 : decode b_P_part 45 = .ok (.ireturn, 1) := by decide +kernel
theorem d_P_part_46 : decode b_P_part 46 = .ok (.aload_n 0, 1) := by decide +kernel
theorem d_P_part_47 : decode b_P_part 47 = .ok (.getfield 20, 3) := by decide +kernel
theorem d_P_part_50 : decode b_P_part 50 = .ok (.iload_n 1, 1) := by decide +kernel
theorem d_P_part_51 : decode b_P_part 51 = .ok (.iload_n 2, 1) := by decide +kernel
theorem d_P_part_52 : decode b_P_part 52 = .ok (.invokevirtual 62, 3) := by decide +kernel
theorem d_P_part_55 : decode b_P_part 55 = .ok (.ireturn, 1) := by decide +kernel
theorem d_P_point_0 : decode b_P_point 0 = .ok (.aload_n 0, 1) := by decide +kernel
theorem d_P_point_1 : decode b_P_point 1 = .ok (.getfield 20, 3) := by decide +kernel
theorem d_P_point_4 : decode b_P_point 4 = .ok (.getfield 66, 3) := by decide +kernel
theorem d_P_point_7 : decode b_P_point 7 = .ok (.iconst 1, 1) := by decide +kernel
theorem d_P_point_8 : decode b_P_point 8 = .ok (.if_icmp .ne 14, 3) := by decide +kernel
theorem d_P_point_11 : decode b_P_point 11 = .ok (.aload_n 0, 1) := by decide +kernel
theorem d_P_point_12 : decode b_P_point 12 = .ok (.getfield 20, 3) := by decide +kernel
theorem d_P_point_15 : decode b_P_point 15 = .ok (.iload_n 1, 1) := by decide +kernel
theorem d_P_point_16 : decode b_P_point 16 = .ok (.invokevirtual 55, 3) := by decide +kernel
theorem d_P_point_19 : decode b_P_point 19 = .ok (.ifCond .ne 5, 3) := by decide +kernel
theorem d_P_point_22 : decode b_P_point 22 = .ok (.iconst (-1), 1) := by decide +kernel
theorem d_P_point_23 : decode b_P_point 23 = .ok (.ireturn, 1) := by decide +kernel
theorem d_P_point_24 : decode b_P_point 24 = .ok (.iload_n 2, 1) := by decide +kernel
theorem d_P_point_25 : decode b_P_point 25 = .ok (.ifCond .lt 19, 3) := by decide +kernel
theorem d_P_point_28 : decode b_P_point 28 = .ok (.iload_n 2, 1) := by decide +kernel
theorem d_P_point_29 : decode b_P_point 29 = .ok (.bipush 12, 2) := by decide +kernel
theorem d_P_point_31 : decode b_P_point 31 = .ok (.if_icmp .ge 13, 3) := by decide +kernel
theorem d_P_point_34 : decode b_P_point 34 = .ok (.iload_n 3, 1) := by decide +kernel
theorem d_P_point_35 : decode b_P_point 35 = .ok (.ifCond .lt 9, 3) := by decide +kernel
theorem d_P_point_38 : decode b_P_point 38 = .ok (.iload_n 3, 1) := by decide +kernel
theorem d_P_point_39 : decode b_P_point 39 = .ok (.bipush 20, 2) := by decide +kernel
theorem d_P_point_41 : decode b_P_point 41 = .ok (.if_icmp .lt 5, 3) := by decide +kernel
theorem d_P_point_44 : decode b_P_point 44 = .ok (.iconst (-1), 1) := by decide +kernel
theorem d_P_point_45 : decode b_P_point 45 = .ok (.ireturn, 1) := by decide +kernel
theorem d_P_point_46 : decode b_P_point 46 = .ok (.aload_n 0, 1) := by decide +kernel
theorem d_P_point_47 : decode b_P_point 47 = .ok (.getfield 20, 3) := by decide +kernel
theorem d_P_point_50 : decode b_P_point 50 = .ok (.iload_n 1, 1) := by decide +kernel
theorem d_P_point_51 : decode b_P_point 51 = .ok (.iconst 1, 1) := by decide +kernel
theorem d_P_point_52 : decode b_P_point 52 = .ok (.invokevirtual 62, 3) := by decide +kernel
theorem d_P_point_55 : decode b_P_point 55 = .ok (.bipush 10, 2) := by decide +kernel
theorem d_P_point_57 : decode b_P_point 57 = .ok (.irem, 1) := by decide +kernel
theorem d_P_point_58 : decode b_P_point 58 = .ok (.iload_n 2, 1) := by decide +kernel
theorem d_P_point_59 : decode b_P_point 59 = .ok (.iload_n 3, 1) := by decide +kernel
theorem d_P_point_60 : decode b_P_point 60 = .ok (.invokestatic 69, 3) := by decide +kernel
theorem d_P_point_63 : decode b_P_point 63 = .ok (.ifCond .eq 8, 3) := by decide +kernel
theorem d_P_point_66 : decode b_P_point 66 = .ok (.bipush 40, 2) := by decide +kernel
theorem d_P_point_68 : decode b_P_point 68 = .ok (.goto 6, 3) := by decide +kernel
theorem d_P_point_71 : decode b_P_point 71 = .ok (.sipush 200, 3) := by decide +kernel
theorem d_P_point_74 : decode b_P_point 74 = .ok (.istore 4, 2) := by decide +kernel
theorem d_P_point_76 : decode b_P_point 76 = .ok (.iload 4, 2) := by decide +kernel
theorem d_P_point_78 : decode b_P_point 78 = .ok (.aload_n 0, 1) := by decide +kernel
theorem d_P_point_79 : decode b_P_point 79 = .ok (.getfield 20, 3) := by decide +kernel
theorem d_P_point_82 : decode b_P_point 82 = .ok (.getfield 73, 3) := by decide +kernel
theorem d_P_point_85 : decode b_P_point 85 = .ok (.iload_n 1, 1) := by decide +kernel
theorem d_P_point_86 : decode b_P_point 86 = .ok (.iload_n 2, 1) := by decide +kernel
theorem d_P_point_87 : decode b_P_point 87 = .ok (.iload_n 3, 1) := by decide +kernel
theorem d_P_point_88 : decode b_P_point 88 = .ok (.invokestatic 76, 3) := by decide +kernel
theorem d_P_point_91 : decode b_P_point 91 = .ok (.iadd, 1) := by decide +kernel
theorem d_P_point_92 : decode b_P_point 92 = .ok (.ireturn, 1) := by decide +kernel
theorem d_P_verdict_0 : decode b_P_verdict 0 = .ok (.aload_n 0, 1) := by decide +kernel
theorem d_P_verdict_1 : decode b_P_verdict 1 = .ok (.getfield 20, 3) := by decide +kernel
theorem d_P_verdict_4 : decode b_P_verdict 4 = .ok (.invokevirtual 80, 3) := by decide +kernel
theorem d_P_verdict_7 : decode b_P_verdict 7 = .ok (.ifCond .eq 6, 3) := by decide +kernel
theorem d_P_verdict_10 : decode b_P_verdict 10 = .ok (.bipush (-13), 2) := by decide +kernel
theorem d_P_verdict_12 : decode b_P_verdict 12 = .ok (.ireturn, 1) := by decide +kernel
theorem d_P_verdict_13 : decode b_P_verdict 13 = .ok (.iload_n 1, 1) := by decide +kernel
theorem d_P_verdict_14 : decode b_P_verdict 14 = .ok (.ifCond .eq 17, 3) := by decide +kernel
theorem d_P_verdict_17 : decode b_P_verdict 17 = .ok (.iload_n 1, 1) := by decide +kernel
theorem d_P_verdict_18 : decode b_P_verdict 18 = .ok (.aload_n 0, 1) := by decide +kernel
theorem d_P_verdict_19 : decode b_P_verdict 19 = .ok (.getfield 20, 3) := by decide +kernel
theorem d_P_verdict_22 : decode b_P_verdict 22 = .ok (.invokevirtual 45, 3) := by decide +kernel
theorem d_P_verdict_25 : decode b_P_verdict 25 = .ok (.iconst (-1), 1) := by decide +kernel
theorem d_P_verdict_26 : decode b_P_verdict 26 = .ok (.ixor, 1) := by decide +kernel
theorem d_P_verdict_27 : decode b_P_verdict 27 = .ok (.iand, 1) := by decide +kernel
theorem d_P_verdict_28 : decode b_P_verdict 28 = .ok (.ifCond .eq 6, 3) := by decide +kernel
theorem d_P_verdict_31 : decode b_P_verdict 31 = .ok (.bipush (-12), 2) := by decide +kernel
theorem d_P_verdict_33 : decode b_P_verdict 33 = .ok (.ireturn, 1) := by decide +kernel
theorem d_P_verdict_34 : decode b_P_verdict 34 = .ok (.aload_n 0, 1) := by decide +kernel
theorem d_P_verdict_35 : decode b_P_verdict 35 = .ok (.getfield 33, 3) := by decide +kernel
theorem d_P_verdict_38 : decode b_P_verdict 38 = .ok (.iload_n 1, 1) := by decide +kernel
theorem d_P_verdict_39 : decode b_P_verdict 39 = .ok (.iload_n 2, 1) := by decide +kernel
theorem d_P_verdict_40 : decode b_P_verdict 40 = .ok (.invokevirtual 84, 3) := by decide +kernel
theorem d_P_verdict_43 : decode b_P_verdict 43 = .ok (.ifCond .eq 13, 3) := by decide +kernel
theorem d_P_verdict_46 : decode b_P_verdict 46 = .ok (.aload_n 0, 1) := by decide +kernel
theorem d_P_verdict_47 : decode b_P_verdict 47 = .ok (.getfield 33, 3) := by decide +kernel
theorem d_P_verdict_50 : decode b_P_verdict 50 = .ok (.getfield 88, 3) := by decide +kernel
theorem d_P_verdict_53 : decode b_P_verdict 53 = .ok (.goto 5, 3) := by decide +kernel
theorem d_P_verdict_56 : decode b_P_verdict 56 = .ok (.bipush (-14), 2) := by decide +kernel
theorem d_P_verdict_58 : decode b_P_verdict 58 = .ok (.ireturn, 1) := by decide +kernel
theorem d_P_shorter_0 : decode b_P_shorter 0 = .ok (.aload_n 0, 1) := by decide +kernel
theorem d_P_shorter_1 : decode b_P_shorter 1 = .ok (.getfield 20, 3) := by decide +kernel
theorem d_P_shorter_4 : decode b_P_shorter 4 = .ok (.invokevirtual 80, 3) := by decide +kernel
theorem d_P_shorter_7 : decode b_P_shorter 7 = .ok (.ifCond .eq 6, 3) := by decide +kernel
theorem d_P_shorter_10 : decode b_P_shorter 10 = .ok (.bipush (-13), 2) := by decide +kernel
theorem d_P_shorter_12 : decode b_P_shorter 12 = .ok (.ireturn, 1) := by decide +kernel
theorem d_P_shorter_13 : decode b_P_shorter 13 = .ok (.aload_n 0, 1) := by decide +kernel
theorem d_P_shorter_14 : decode b_P_shorter 14 = .ok (.aload_n 0, 1) := by decide +kernel
theorem d_P_shorter_15 : decode b_P_shorter 15 = .ok (.getfield 20, 3) := by decide +kernel
theorem d_P_shorter_18 : decode b_P_shorter 18 = .ok (.invokevirtual 45, 3) := by decide +kernel
theorem d_P_shorter_21 : decode b_P_shorter 21 = .ok (.putfield 13, 3) := by decide +kernel
theorem d_P_shorter_24 : decode b_P_shorter 24 = .ok (.aload_n 0, 1) := by decide +kernel
theorem d_P_shorter_25 : decode b_P_shorter 25 = .ok (.getfield 33, 3) := by decide +kernel
theorem d_P_shorter_28 : decode b_P_shorter 28 = .ok (.aload_n 0, 1) := by decide +kernel
theorem d_P_shorter_29 : decode b_P_shorter 29 = .ok (.getfield 13, 3) := by decide +kernel
theorem d_P_shorter_32 : decode b_P_shorter 32 = .ok (.invokevirtual 89, 3) := by decide +kernel
theorem d_P_shorter_35 : decode b_P_shorter 35 = .ok (.ifCond .eq 7, 3) := by decide +kernel
theorem d_P_shorter_38 : decode b_P_shorter 38 = .ok (.aload_n 0, 1) := by decide +kernel
theorem d_P_shorter_39 : decode b_P_shorter 39 = .ok (.invokevirtual 92, 3) := by decide +kernel
theorem d_P_shorter_42 : decode b_P_shorter 42 = .ok (.aload_n 0, 1) := by decide +kernel
theorem d_P_shorter_43 : decode b_P_shorter 43 = .ok (.getfield 13, 3) := by decide +kernel
theorem d_P_shorter_46 : decode b_P_shorter 46 = .ok (.invokestatic 95, 3) := by decide +kernel
theorem d_P_shorter_49 : decode b_P_shorter 49 = .ok (.ireturn, 1) := by decide +kernel
theorem d_P_left_0 : decode b_P_left 0 = .ok (.iconst 0, 1) := by decide +kernel
theorem d_P_left_1 : decode b_P_left 1 = .ok (.istore_n 2, 1) := by decide +kernel
theorem d_P_left_2 : decode b_P_left 2 = .ok (.iconst 0, 1) := by decide +kernel
theorem d_P_left_3 : decode b_P_left 3 = .ok (.istore_n 3, 1) := by decide +kernel
theorem d_P_left_4 : decode b_P_left 4 = .ok (.iload_n 3, 1) := by decide +kernel
theorem d_P_left_5 : decode b_P_left 5 = .ok (.bipush 16, 2) := by decide +kernel
theorem d_P_left_7 : decode b_P_left 7 = .ok (.if_icmp .ge 30, 3) := by decide +kernel
theorem d_P_left_10 : decode b_P_left 10 = .ok (.aload_n 0, 1) := by decide +kernel
theorem d_P_left_11 : decode b_P_left 11 = .ok (.getfield 13, 3) := by decide +kernel
theorem d_P_left_14 : decode b_P_left 14 = .ok (.iconst 1, 1) := by decide +kernel
theorem d_P_left_15 : decode b_P_left 15 = .ok (.iload_n 3, 1) := by decide +kernel
theorem d_P_left_16 : decode b_P_left 16 = .ok (.ishl, 1) := by decide +kernel
theorem d_P_left_17 : decode b_P_left 17 = .ok (.iand, 1) := by decide +kernel
theorem d_P_left_18 : decode b_P_left 18 = .ok (.ifCond .eq 13, 3) := by decide +kernel
theorem d_P_left_21 : decode b_P_left 21 = .ok (.iload_n 2, 1) := by decide +kernel
theorem d_P_left_22 : decode b_P_left 22 = .ok (.iload_n 1, 1) := by decide +kernel
theorem d_P_left_23 : decode b_P_left 23 = .ok (.if_icmp .ne 5, 3) := by decide +kernel
theorem d_P_left_26 : decode b_P_left 26 = .ok (.iload_n 3, 1) := by decide +kernel
theorem d_P_left_27 : decode b_P_left 27 = .ok (.ireturn, 1) := by decide +kernel
theorem d_P_left_28 : decode b_P_left 28 = .ok (.iinc 2 1, 3) := by decide +kernel
theorem d_P_left_31 : decode b_P_left 31 = .ok (.iinc 3 1, 3) := by decide +kernel
theorem d_P_left_34 : decode b_P_left 34 = .ok (.goto (-30), 3) := by decide +kernel
theorem d_P_left_37 : decode b_P_left 37 = .ok (.iconst (-1), 1) := by decide +kernel
theorem d_P_left_38 : decode b_P_left 38 = .ok (.ireturn, 1) := by decide +kernel
theorem d_P_minimal_0 : decode b_P_minimal 0 = .ok (.aload_n 0, 1) := by decide +kernel
theorem d_P_minimal_1 : decode b_P_minimal 1 = .ok (.getfield 20, 3) := by decide +kernel
theorem d_P_minimal_4 : decode b_P_minimal 4 = .ok (.invokevirtual 80, 3) := by decide +kernel
theorem d_P_minimal_7 : decode b_P_minimal 7 = .ok (.ifCond .ne 17, 3) := by decide +kernel
theorem d_P_minimal_10 : decode b_P_minimal 10 = .ok (.aload_n 0, 1) := by decide +kernel
theorem d_P_minimal_11 : decode b_P_minimal 11 = .ok (.getfield 33, 3) := by decide +kernel
theorem d_P_minimal_14 : decode b_P_minimal 14 = .ok (.aload_n 0, 1) := by decide +kernel
theorem d_P_minimal_15 : decode b_P_minimal 15 = .ok (.getfield 13, 3) := by decide +kernel
theorem d_P_minimal_18 : decode b_P_minimal 18 = .ok (.invokevirtual 89, 3) := by decide +kernel
theorem d_P_minimal_21 : decode b_P_minimal 21 = .ok (.ifCond .ne 5, 3) := by decide +kernel
theorem d_P_minimal_24 : decode b_P_minimal 24 = .ok (.iconst 0, 1) := by decide +kernel
theorem d_P_minimal_25 : decode b_P_minimal 25 = .ok (.ireturn, 1) := by decide +kernel
theorem d_P_minimal_26 : decode b_P_minimal 26 = .ok (.iconst 0, 1) := by decide +kernel
theorem d_P_minimal_27 : decode b_P_minimal 27 = .ok (.istore_n 1, 1) := by decide +kernel
theorem d_P_minimal_28 : decode b_P_minimal 28 = .ok (.iload_n 1, 1) := by decide +kernel
theorem d_P_minimal_29 : decode b_P_minimal 29 = .ok (.bipush 16, 2) := by decide +kernel
theorem d_P_minimal_31 : decode b_P_minimal 31 = .ok (.if_icmp .ge 19, 3) := by decide +kernel
theorem d_P_minimal_34 : decode b_P_minimal 34 = .ok (.aload_n 0, 1) := by decide +kernel
theorem d_P_minimal_35 : decode b_P_minimal 35 = .ok (.iload_n 1, 1) := by decide +kernel
theorem d_P_minimal_36 : decode b_P_minimal 36 = .ok (.invokevirtual 101, 3) := by decide +kernel
theorem d_P_minimal_39 : decode b_P_minimal 39 = .ok (.ifCond .eq 5, 3) := by decide +kernel
theorem d_P_minimal_42 : decode b_P_minimal 42 = .ok (.iconst 0, 1) := by decide +kernel
theorem d_P_minimal_43 : decode b_P_minimal 43 = .ok (.ireturn, 1) := by decide +kernel
theorem d_P_minimal_44 : decode b_P_minimal 44 = .ok (.iinc 1 1, 3) := by decide +kernel
theorem d_P_minimal_47 : decode b_P_minimal 47 = .ok (.goto (-19), 3) := by decide +kernel
theorem d_P_minimal_50 : decode b_P_minimal 50 = .ok (.iconst 1, 1) := by decide +kernel
theorem d_P_minimal_51 : decode b_P_minimal 51 = .ok (.ireturn, 1) := by decide +kernel
theorem d_P_faultless_0 : decode b_P_faultless 0 = .ok (.aload_n 0, 1) := by decide +kernel
theorem d_P_faultless_1 : decode b_P_faultless 1 = .ok (.getfield 20, 3) := by decide +kernel
theorem d_P_faultless_4 : decode b_P_faultless 4 = .ok (.getfield 66, 3) := by decide +kernel
theorem d_P_faultless_7 : decode b_P_faultless 7 = .ok (.iconst 3, 1) := by decide +kernel
theorem d_P_faultless_8 : decode b_P_faultless 8 = .ok (.if_icmp .ne 29, 3) := by decide +kernel
theorem d_P_faultless_11 : decode b_P_faultless 11 = .ok (.aload_n 0, 1) := by decide +kernel
theorem d_P_faultless_12 : decode b_P_faultless 12 = .ok (.getfield 20, 3) := by decide +kernel
theorem d_P_faultless_15 : decode b_P_faultless 15 = .ok (.iload_n 1, 1) := by decide +kernel
theorem d_P_faultless_16 : decode b_P_faultless 16 = .ok (.invokevirtual 55, 3) := by decide +kernel
theorem d_P_faultless_19 : decode b_P_faultless 19 = .ok (.ifCond .eq 18, 3) := by decide +kernel
theorem d_P_faultless_22 : decode b_P_faultless 22 = .ok (.aload_n 0, 1) := by decide +kernel
theorem d_P_faultless_23 : decode b_P_faultless 23 = .ok (.getfield 20, 3) := by decide +kernel
theorem d_P_faultless_26 : decode b_P_faultless 26 = .ok (.iload_n 1, 1) := by decide +kernel
theorem d_P_faultless_27 : decode b_P_faultless 27 = .ok (.invokevirtual 59, 3) := by decide +kernel
theorem d_P_faultless_30 : decode b_P_faultless 30 = .ok (.ifCond .ne 7, 3) := by decide +kernel
theorem d_P_faultless_33 : decode b_P_faultless 33 = .ok (.iconst 1, 1) := by decide +kernel
theorem d_P_faultless_34 : decode b_P_faultless 34 = .ok (.goto 4, 3) := by decide +kernel
theorem d_P_faultless_37 : decode b_P_faultless 37 = .ok (.iconst 0, 1) := by decide +kernel
theorem d_P_faultless_38 : decode b_P_faultless 38 = .ok (.ireturn, 1) := by decide +kernel
theorem d_P_same_0 : decode b_P_same 0 = .ok (.iload_n 3, 1) := by decide +kernel
theorem d_P_same_1 : decode b_P_same 1 = .ok (.iload 4, 2) := by decide +kernel
theorem d_P_same_3 : decode b_P_same 3 = .ok (.invokestatic 37, 3) := by decide +kernel
theorem d_P_same_6 : decode b_P_same 6 = .ok (.ifCond .ne 5, 3) := by decide +kernel
theorem d_P_same_9 : decode b_P_same 9 = .ok (.iconst 0, 1) := by decide +kernel
theorem d_P_same_10 : decode b_P_same 10 = .ok (.ireturn, 1) := by decide +kernel
theorem d_P_same_11 : decode b_P_same 11 = .ok (.aload_n 0, 1) := by decide +kernel
theorem d_P_same_12 : decode b_P_same 12 = .ok (.getfield 24, 3) := by decide +kernel
theorem d_P_same_15 : decode b_P_same 15 = .ok (.aload_n 0, 1) := by decide +kernel
theorem d_P_same_16 : decode b_P_same 16 = .ok (.getfield 7, 3) := by decide +kernel
theorem d_P_same_19 : decode b_P_same 19 = .ok (.iload_n 3, 1) := by decide +kernel
theorem d_P_same_20 : decode b_P_same 20 = .ok (.iload 4, 2) := by decide +kernel
theorem d_P_same_22 : decode b_P_same 22 = .ok (.iconst 1, 1) := by decide +kernel
theorem d_P_same_23 : decode b_P_same 23 = .ok (.iadd, 1) := by decide +kernel
theorem d_P_same_24 : decode b_P_same 24 = .ok (.invokevirtual 41, 3) := by decide +kernel
theorem d_P_same_27 : decode b_P_same 27 = .ok (.aload_n 0, 1) := by decide +kernel
theorem d_P_same_28 : decode b_P_same 28 = .ok (.getfield 27, 3) := by decide +kernel
theorem d_P_same_31 : decode b_P_same 31 = .ok (.lload_n 1, 1) := by decide +kernel
theorem d_P_same_32 : decode b_P_same 32 = .ok (.iload_n 3, 1) := by decide +kernel
theorem d_P_same_33 : decode b_P_same 33 = .ok (.iload 4, 2) := by decide +kernel
theorem d_P_same_35 : decode b_P_same 35 = .ok (.iconst 1, 1) := by decide +kernel
theorem d_P_same_36 : decode b_P_same 36 = .ok (.iadd, 1) := by decide +kernel
theorem d_P_same_37 : decode b_P_same 37 = .ok (.invokevirtual 41, 3) := by decide +kernel
theorem d_P_same_40 : decode b_P_same 40 = .ok (.aload_n 0, 1) := by decide +kernel
theorem d_P_same_41 : decode b_P_same 41 = .ok (.getfield 24, 3) := by decide +kernel
theorem d_P_same_44 : decode b_P_same 44 = .ok (.aload_n 0, 1) := by decide +kernel
theorem d_P_same_45 : decode b_P_same 45 = .ok (.getfield 27, 3) := by decide +kernel
theorem d_P_same_48 : decode b_P_same 48 = .ok (.invokestatic 104, 3) := by decide +kernel
theorem d_P_same_51 : decode b_P_same 51 = .ok (.ireturn, 1) := by decide +kernel
theorem d_P_isDrawable_0 : decode b_P_isDrawable 0 = .ok (.iload_n 0, 1) := by decide +kernel
theorem d_P_isDrawable_1 : decode b_P_isDrawable 1 = .ok (.ifCond .lt 22, 3) := by decide +kernel
theorem d_P_isDrawable_4 : decode b_P_isDrawable 4 = .ok (.iload_n 0, 1) := by decide +kernel
theorem d_P_isDrawable_5 : decode b_P_isDrawable 5 = .ok (.iconst 4, 1) := by decide +kernel
theorem d_P_isDrawable_6 : decode b_P_isDrawable 6 = .ok (.if_icmp .gt 17, 3) := by decide +kernel
theorem d_P_isDrawable_9 : decode b_P_isDrawable 9 = .ok (.iload_n 1, 1) := by decide +kernel
theorem d_P_isDrawable_10 : decode b_P_isDrawable 10 = .ok (.ifCond .lt 13, 3) := by decide +kernel
theorem d_P_isDrawable_13 : decode b_P_isDrawable 13 = .ok (.iload_n 1, 1) := by decide +kernel
theorem d_P_isDrawable_14 : decode b_P_isDrawable 14 = .ok (.bipush 16, 2) := by decide +kernel
theorem d_P_isDrawable_16 : decode b_P_isDrawable 16 = .ok (.if_icmp .ge 7, 3) := by decide +kernel
theorem d_P_isDrawable_19 : decode b_P_isDrawable 19 = .ok (.iconst 1, 1) := by decide +kernel
theorem d_P_isDrawable_20 : decode b_P_isDrawable 20 = .ok (.goto 4, 3) := by decide +kernel
theorem d_P_isDrawable_23 : decode b_P_isDrawable 23 = .ok (.iconst 0, 1) := by decide +kernel
theorem d_P_isDrawable_24 : decode b_P_isDrawable 24 = .ok (.ireturn, 1) := by decide +kernel
theorem d_P_leaveOutAll_0 : decode b_P_leaveOutAll 0 = .ok (.iconst 0, 1) := by decide +kernel
theorem d_P_leaveOutAll_1 : decode b_P_leaveOutAll 1 = .ok (.istore_n 1, 1) := by decide +kernel
theorem d_P_leaveOutAll_2 : decode b_P_leaveOutAll 2 = .ok (.iload_n 1, 1) := by decide +kernel
theorem d_P_leaveOutAll_3 : decode b_P_leaveOutAll 3 = .ok (.bipush 16, 2) := by decide +kernel
theorem d_P_leaveOutAll_5 : decode b_P_leaveOutAll 5 = .ok (.if_icmp .ge 27, 3) := by decide +kernel
theorem d_P_leaveOutAll_8 : decode b_P_leaveOutAll 8 = .ok (.aload_n 0, 1) := by decide +kernel
theorem d_P_leaveOutAll_9 : decode b_P_leaveOutAll 9 = .ok (.getfield 13, 3) := by decide +kernel
theorem d_P_leaveOutAll_12 : decode b_P_leaveOutAll 12 = .ok (.istore_n 2, 1) := by decide +kernel
theorem d_P_leaveOutAll_13 : decode b_P_leaveOutAll 13 = .ok (.aload_n 0, 1) := by decide +kernel
theorem d_P_leaveOutAll_14 : decode b_P_leaveOutAll 14 = .ok (.invokevirtual 108, 3) := by decide +kernel
theorem d_P_leaveOutAll_17 : decode b_P_leaveOutAll 17 = .ok (.aload_n 0, 1) := by decide +kernel
theorem d_P_leaveOutAll_18 : decode b_P_leaveOutAll 18 = .ok (.getfield 13, 3) := by decide +kernel
theorem d_P_leaveOutAll_21 : decode b_P_leaveOutAll 21 = .ok (.iload_n 2, 1) := by decide +kernel
theorem d_P_leaveOutAll_22 : decode b_P_leaveOutAll 22 = .ok (.if_icmp .ne 4, 3) := by decide +kernel
theorem d_P_leaveOutAll_25 : decode b_P_leaveOutAll 25 = .ok (.return_, 1) := by decide +kernel
theorem d_P_leaveOutAll_26 : decode b_P_leaveOutAll 26 = .ok (.iinc 1 1, 3) := by decide +kernel
theorem d_P_leaveOutAll_29 : decode b_P_leaveOutAll 29 = .ok (.goto (-27), 3) := by decide +kernel
theorem d_P_leaveOutAll_32 : decode b_P_leaveOutAll 32 = .ok (.return_, 1) := by decide +kernel
theorem d_P_goThrough_0 : decode b_P_goThrough 0 = .ok (.iconst 0, 1) := by decide +kernel
theorem d_P_goThrough_1 : decode b_P_goThrough 1 = .ok (.istore_n 1, 1) := by decide +kernel
theorem d_P_goThrough_2 : decode b_P_goThrough 2 = .ok (.iload_n 1, 1) := by decide +kernel
theorem d_P_goThrough_3 : decode b_P_goThrough 3 = .ok (.bipush 16, 2) := by decide +kernel
theorem d_P_goThrough_5 : decode b_P_goThrough 5 = .ok (.if_icmp .ge 31, 3) := by decide +kernel
theorem d_P_goThrough_8 : decode b_P_goThrough 8 = .ok (.aload_n 0, 1) := by decide +kernel
theorem d_P_goThrough_9 : decode b_P_goThrough 9 = .ok (.iload_n 1, 1) := by decide +kernel
theorem d_P_goThrough_10 : decode b_P_goThrough 10 = .ok (.invokevirtual 101, 3) := by decide +kernel
theorem d_P_goThrough_13 : decode b_P_goThrough 13 = .ok (.ifCond .eq 17, 3) := by decide +kernel
theorem d_P_goThrough_16 : decode b_P_goThrough 16 = .ok (.aload_n 0, 1) := by decide +kernel
theorem d_P_goThrough_17 : decode b_P_goThrough 17 = .ok (.dup, 1) := by decide +kernel
theorem d_P_goThrough_18 : decode b_P_goThrough 18 = .ok (.getfield 13, 3) := by decide +kernel
theorem d_P_goThrough_21 : decode b_P_goThrough 21 = .ok (.iconst 1, 1) := by decide +kernel
theorem d_P_goThrough_22 : decode b_P_goThrough 22 = .ok (.iload_n 1, 1) := by decide +kernel
theorem d_P_goThrough_23 : decode b_P_goThrough 23 = .ok (.ishl, 1) := by decide +kernel
theorem d_P_goThrough_24 : decode b_P_goThrough 24 = .ok (.iconst (-1), 1) := by decide +kernel
theorem d_P_goThrough_25 : decode b_P_goThrough 25 = .ok (.ixor, 1) := by decide +kernel
theorem d_P_goThrough_26 : decode b_P_goThrough 26 = .ok (.iand, 1) := by decide +kernel
theorem d_P_goThrough_27 : decode b_P_goThrough 27 = .ok (.putfield 13, 3) := by decide +kernel
theorem d_P_goThrough_30 : decode b_P_goThrough 30 = .ok (.iinc 1 1, 3) := by decide +kernel
theorem d_P_goThrough_33 : decode b_P_goThrough 33 = .ok (.goto (-31), 3) := by decide +kernel
theorem d_P_goThrough_36 : decode b_P_goThrough 36 = .ok (.return_, 1) := by decide +kernel
theorem d_P_canLeaveOut_0 : decode b_P_canLeaveOut 0 = .ok (.iconst 1, 1) := by decide +kernel
theorem d_P_canLeaveOut_1 : decode b_P_canLeaveOut 1 = .ok (.iload_n 1, 1) := by decide +kernel
theorem d_P_canLeaveOut_2 : decode b_P_canLeaveOut 2 = .ok (.ishl, 1) := by decide +kernel
theorem d_P_canLeaveOut_3 : decode b_P_canLeaveOut 3 = .ok (.istore_n 2, 1) := by decide +kernel
theorem d_P_canLeaveOut_4 : decode b_P_canLeaveOut 4 = .ok (.aload_n 0, 1) := by decide +kernel
theorem d_P_canLeaveOut_5 : decode b_P_canLeaveOut 5 = .ok (.getfield 13, 3) := by decide +kernel
theorem d_P_canLeaveOut_8 : decode b_P_canLeaveOut 8 = .ok (.iload_n 2, 1) := by decide +kernel
theorem d_P_canLeaveOut_9 : decode b_P_canLeaveOut 9 = .ok (.iand, 1) := by decide +kernel
theorem d_P_canLeaveOut_10 : decode b_P_canLeaveOut 10 = .ok (.ifCond .eq 25, 3) := by decide +kernel
theorem d_P_canLeaveOut_13 : decode b_P_canLeaveOut 13 = .ok (.aload_n 0, 1) := by decide +kernel
theorem d_P_canLeaveOut_14 : decode b_P_canLeaveOut 14 = .ok (.getfield 33, 3) := by decide +kernel
theorem d_P_canLeaveOut_17 : decode b_P_canLeaveOut 17 = .ok (.aload_n 0, 1) := by decide +kernel
theorem d_P_canLeaveOut_18 : decode b_P_canLeaveOut 18 = .ok (.getfield 13, 3) := by decide +kernel
theorem d_P_canLeaveOut_21 : decode b_P_canLeaveOut 21 = .ok (.iload_n 2, 1) := by decide +kernel
theorem d_P_canLeaveOut_22 : decode b_P_canLeaveOut 22 = .ok (.iconst (-1), 1) := by decide +kernel
theorem d_P_canLeaveOut_23 : decode b_P_canLeaveOut 23 = .ok (.ixor, 1) := by decide +kernel
theorem d_P_canLeaveOut_24 : decode b_P_canLeaveOut 24 = .ok (.iand, 1) := by decide +kernel
theorem d_P_canLeaveOut_25 : decode b_P_canLeaveOut 25 = .ok (.invokevirtual 89, 3) := by decide +kernel
theorem d_P_canLeaveOut_28 : decode b_P_canLeaveOut 28 = .ok (.ifCond .eq 7, 3) := by decide +kernel
theorem d_P_canLeaveOut_31 : decode b_P_canLeaveOut 31 = .ok (.iconst 1, 1) := by decide +kernel
theorem d_P_canLeaveOut_32 : decode b_P_canLeaveOut 32 = .ok (.goto 4, 3) := by decide +kernel
theorem d_P_canLeaveOut_35 : decode b_P_canLeaveOut 35 = .ok (.iconst 0, 1) := by decide +kernel
theorem d_P_canLeaveOut_36 : decode b_P_canLeaveOut 36 = .ok (.ireturn, 1) := by decide +kernel
theorem d_P_isInked_0 : decode b_P_isInked 0 = .ok (.iload_n 0, 1) := by decide +kernel
theorem d_P_isInked_1 : decode b_P_isInked 1 = .ok (.ifCond .lt 11, 3) := by decide +kernel
theorem d_P_isInked_4 : decode b_P_isInked 4 = .ok (.iload_n 0, 1) := by decide +kernel
theorem d_P_isInked_5 : decode b_P_isInked 5 = .ok (.getstatic 111, 3) := by decide +kernel
theorem d_P_isInked_8 : decode b_P_isInked 8 = .ok (.arraylength, 1) := by decide +kernel
theorem d_P_isInked_9 : decode b_P_isInked 9 = .ok (.if_icmp .lt 5, 3) := by decide +kernel
theorem d_P_isInked_12 : decode b_P_isInked 12 = .ok (.iconst 0, 1) := by decide +kernel
theorem d_P_isInked_13 : decode b_P_isInked 13 = .ok (.ireturn, 1) := by decide +kernel
theorem d_P_isInked_14 : decode b_P_isInked 14 = .ok (.iconst 3, 1) := by decide +kernel
theorem d_P_isInked_15 : decode b_P_isInked 15 = .ok (.iload_n 2, 1) := by decide +kernel
theorem d_P_isInked_16 : decode b_P_isInked 16 = .ok (.iconst 4, 1) := by decide +kernel
theorem d_P_isInked_17 : decode b_P_isInked 17 = .ok (.idiv, 1) := by decide +kernel
theorem d_P_isInked_18 : decode b_P_isInked 18 = .ok (.imul, 1) := by decide +kernel
theorem d_P_isInked_19 : decode b_P_isInked 19 = .ok (.iload_n 1, 1) := by decide +kernel
theorem d_P_isInked_20 : decode b_P_isInked 20 = .ok (.iconst 4, 1) := by decide +kernel
theorem d_P_isInked_21 : decode b_P_isInked 21 = .ok (.idiv, 1) := by decide +kernel
theorem d_P_isInked_22 : decode b_P_isInked 22 = .ok (.iadd, 1) := by decide +kernel
theorem d_P_isInked_23 : decode b_P_isInked 23 = .ok (.istore_n 3, 1) := by decide +kernel
theorem d_P_isInked_24 : decode b_P_isInked 24 = .ok (.getstatic 111, 3) := by decide +kernel
theorem d_P_isInked_27 : decode b_P_isInked 27 = .ok (.iload_n 0, 1) := by decide +kernel
theorem d_P_isInked_28 : decode b_P_isInked 28 = .ok (.iaload, 1) := by decide +kernel
theorem d_P_isInked_29 : decode b_P_isInked 29 = .ok (.bipush 14, 2) := by decide +kernel
theorem d_P_isInked_31 : decode b_P_isInked 31 = .ok (.iload_n 3, 1) := by decide +kernel
theorem d_P_isInked_32 : decode b_P_isInked 32 = .ok (.isub, 1) := by decide +kernel
theorem d_P_isInked_33 : decode b_P_isInked 33 = .ok (.ishr, 1) := by decide +kernel
theorem d_P_isInked_34 : decode b_P_isInked 34 = .ok (.iconst 1, 1) := by decide +kernel
theorem d_P_isInked_35 : decode b_P_isInked 35 = .ok (.iand, 1) := by decide +kernel
theorem d_P_isInked_36 : decode b_P_isInked 36 = .ok (.ifCond .eq 7, 3) := by decide +kernel
theorem d_P_isInked_39 : decode b_P_isInked 39 = .ok (.iconst 1, 1) := by decide +kernel
theorem d_P_isInked_40 : decode b_P_isInked 40 = .ok (.goto 4, 3) := by decide +kernel
theorem d_P_isInked_43 : decode b_P_isInked 43 = .ok (.iconst 0, 1) := by decide +kernel
theorem d_P_isInked_44 : decode b_P_isInked 44 = .ok (.ireturn, 1) := by decide +kernel
theorem d_P_noise_0 : decode b_P_noise 0 = .ok (.lload_n 0, 1) := by decide +kernel
theorem d_P_noise_1 : decode b_P_noise 1 = .ok (.iconst 5, 1) := by decide +kernel
theorem d_P_noise_2 : decode b_P_noise 2 = .ok (.iload_n 2, 1) := by decide +kernel
theorem d_P_noise_3 : decode b_P_noise 3 = .ok (.iadd, 1) := by decide +kernel
theorem d_P_noise_4 : decode b_P_noise 4 = .ok (.bipush 12, 2) := by decide +kernel
theorem d_P_noise_6 : decode b_P_noise 6 = .ok (.iload 4, 2) := by decide +kernel
theorem d_P_noise_8 : decode b_P_noise 8 = .ok (.imul, 1) := by decide +kernel
theorem d_P_noise_9 : decode b_P_noise 9 = .ok (.iload_n 3, 1) := by decide +kernel
theorem d_P_noise_10 : decode b_P_noise 10 = .ok (.iadd, 1) := by decide +kernel
theorem d_P_noise_11 : decode b_P_noise 11 = .ok (.invokestatic 115, 3) := by decide +kernel
theorem d_P_noise_14 : decode b_P_noise 14 = .ok (.lstore 5, 2) := by decide +kernel
theorem d_P_noise_16 : decode b_P_noise 16 = .ok (.ldc2_w 119, 3) := by decide +kernel
theorem d_P_noise_19 : decode b_P_noise 19 = .ok (.lload 5, 2) := by decide +kernel
theorem d_P_noise_21 : decode b_P_noise 21 = .ok (.iconst 1, 1) := by decide +kernel
theorem d_P_noise_22 : decode b_P_noise 22 = .ok (.lushr, 1) := by decide +kernel
theorem d_P_noise_23 : decode b_P_noise 23 = .ok (.ldc2_w 121, 3) := by decide +kernel
theorem d_P_noise_26 : decode b_P_noise 26 = .ok (.lrem, 1) := by decide +kernel
theorem d_P_noise_27 : decode b_P_noise 27 = .ok (.lmul, 1) := by decide +kernel
theorem d_P_noise_28 : decode b_P_noise 28 = .ok (.lload 5, 2) := by decide +kernel
theorem d_P_noise_30 : decode b_P_noise 30 = .ok (.lconst 1, 1) := by decide +kernel
theorem d_P_noise_31 : decode b_P_noise 31 = .ok (.land, 1) := by decide +kernel
theorem d_P_noise_32 : decode b_P_noise 32 = .ok (.ladd, 1) := by decide +kernel
theorem d_P_noise_33 : decode b_P_noise 33 = .ok (.ldc2_w 121, 3) := by decide +kernel
theorem d_P_noise_36 : decode b_P_noise 36 = .ok (.lrem, 1) := by decide +kernel
theorem d_P_noise_37 : decode b_P_noise 37 = .ok (.lstore 7, 2) := by decide +kernel
theorem d_P_noise_39 : decode b_P_noise 39 = .ok (.lload 7, 2) := by decide +kernel
theorem d_P_noise_41 : decode b_P_noise 41 = .ok (.l2i, 1) := by decide +kernel
theorem d_P_noise_42 : decode b_P_noise 42 = .ok (.bipush 16, 2) := by decide +kernel
theorem d_P_noise_44 : decode b_P_noise 44 = .ok (.isub, 1) := by decide +kernel
theorem d_P_noise_45 : decode b_P_noise 45 = .ok (.ireturn, 1) := by decide +kernel
theorem d_P_number_0 : decode b_P_number 0 = .ok (.lload_n 0, 1) := by decide +kernel
theorem d_P_number_1 : decode b_P_number 1 = .ok (.lconst 1, 1) := by decide +kernel
theorem d_P_number_2 : decode b_P_number 2 = .ok (.iload_n 3, 1) := by decide +kernel
theorem d_P_number_3 : decode b_P_number 3 = .ok (.i2l, 1) := by decide +kernel
theorem d_P_number_4 : decode b_P_number 4 = .ok (.ladd, 1) := by decide +kernel
theorem d_P_number_5 : decode b_P_number 5 = .ok (.ldc2_w 123, 3) := by decide +kernel
theorem d_P_number_8 : decode b_P_number 8 = .ok (.iload_n 2, 1) := by decide +kernel
theorem d_P_number_9 : decode b_P_number 9 = .ok (.i2l, 1) := by decide +kernel
theorem d_P_number_10 : decode b_P_number 10 = .ok (.lmul, 1) := by decide +kernel
theorem d_P_number_11 : decode b_P_number 11 = .ok (.ladd, 1) := by decide +kernel
theorem d_P_number_12 : decode b_P_number 12 = .ok (.ldc2_w 125, 3) := by decide +kernel
theorem d_P_number_15 : decode b_P_number 15 = .ok (.lmul, 1) := by decide +kernel
theorem d_P_number_16 : decode b_P_number 16 = .ok (.ladd, 1) := by decide +kernel
theorem d_P_number_17 : decode b_P_number 17 = .ok (.lstore 4, 2) := by decide +kernel
theorem d_P_number_19 : decode b_P_number 19 = .ok (.lload 4, 2) := by decide +kernel
theorem d_P_number_21 : decode b_P_number 21 = .ok (.lload 4, 2) := by decide +kernel
theorem d_P_number_23 : decode b_P_number 23 = .ok (.bipush 30, 2) := by decide +kernel
theorem d_P_number_25 : decode b_P_number 25 = .ok (.lushr, 1) := by decide +kernel
theorem d_P_number_26 : decode b_P_number 26 = .ok (.lxor, 1) := by decide +kernel
theorem d_P_number_27 : decode b_P_number 27 = .ok (.ldc2_w 127, 3) := by decide +kernel
theorem d_P_number_30 : decode b_P_number 30 = .ok (.lmul, 1) := by decide +kernel
theorem d_P_number_31 : decode b_P_number 31 = .ok (.lstore 4, 2) := by decide +kernel
theorem d_P_number_33 : decode b_P_number 33 = .ok (.lload 4, 2) := by decide +kernel
theorem d_P_number_35 : decode b_P_number 35 = .ok (.lload 4, 2) := by decide +kernel
theorem d_P_number_37 : decode b_P_number 37 = .ok (.bipush 27, 2) := by decide +kernel
theorem d_P_number_39 : decode b_P_number 39 = .ok (.lushr, 1) := by decide +kernel
theorem d_P_number_40 : decode b_P_number 40 = .ok (.lxor, 1) := by decide +kernel
theorem d_P_number_41 : decode b_P_number 41 = .ok (.ldc2_w 129, 3) := by decide +kernel
theorem d_P_number_44 : decode b_P_number 44 = .ok (.lmul, 1) := by decide +kernel
theorem d_P_number_45 : decode b_P_number 45 = .ok (.lstore 4, 2) := by decide +kernel
theorem d_P_number_47 : decode b_P_number 47 = .ok (.lload 4, 2) := by decide +kernel
theorem d_P_number_49 : decode b_P_number 49 = .ok (.lload 4, 2) := by decide +kernel
theorem d_P_number_51 : decode b_P_number 51 = .ok (.bipush 31, 2) := by decide +kernel
theorem d_P_number_53 : decode b_P_number 53 = .ok (.lushr, 1) := by decide +kernel
theorem d_P_number_54 : decode b_P_number 54 = .ok (.lxor, 1) := by decide +kernel
theorem d_P_number_55 : decode b_P_number 55 = .ok (.lreturn, 1) := by decide +kernel
theorem d_P_haveSameParts_0 : decode b_P_haveSameParts 0 = .ok (.iconst 0, 1) := by decide +kernel
theorem d_P_haveSameParts_1 : decode b_P_haveSameParts 1 = .ok (.istore_n 2, 1) := by decide +kernel
theorem d_P_haveSameParts_2 : decode b_P_haveSameParts 2 = .ok (.iload_n 2, 1) := by decide +kernel
theorem d_P_haveSameParts_3 : decode b_P_haveSameParts 3 = .ok (.aload_n 0, 1) := by decide +kernel
theorem d_P_haveSameParts_4 : decode b_P_haveSameParts 4 = .ok (.getfield 52, 3) := by decide +kernel
theorem d_P_haveSameParts_7 : decode b_P_haveSameParts 7 = .ok (.if_icmp .ge 39, 3) := by decide +kernel
theorem d_P_haveSameParts_10 : decode b_P_haveSameParts 10 = .ok (.iconst 1, 1) := by decide +kernel
theorem d_P_haveSameParts_11 : decode b_P_haveSameParts 11 = .ok (.istore_n 3, 1) := by decide +kernel
theorem d_P_haveSameParts_12 : decode b_P_haveSameParts 12 = .ok (.iload_n 3, 1) := by decide +kernel
theorem d_P_haveSameParts_13 : decode b_P_haveSameParts 13 = .ok (.iconst 4, 1) := by decide +kernel
theorem d_P_haveSameParts_14 : decode b_P_haveSameParts 14 = .ok (.if_icmp .gt 26, 3) := by decide +kernel
theorem d_P_haveSameParts_17 : decode b_P_haveSameParts 17 = .ok (.aload_n 0, 1) := by decide +kernel
theorem d_P_haveSameParts_18 : decode b_P_haveSameParts 18 = .ok (.iload_n 2, 1) := by decide +kernel
theorem d_P_haveSameParts_19 : decode b_P_haveSameParts 19 = .ok (.iload_n 3, 1) := by decide +kernel
theorem d_P_haveSameParts_20 : decode b_P_haveSameParts 20 = .ok (.invokevirtual 62, 3) := by decide +kernel
theorem d_P_haveSameParts_23 : decode b_P_haveSameParts 23 = .ok (.aload_n 1, 1) := by decide +kernel
theorem d_P_haveSameParts_24 : decode b_P_haveSameParts 24 = .ok (.iload_n 2, 1) := by decide +kernel
theorem d_P_haveSameParts_25 : decode b_P_haveSameParts 25 = .ok (.iload_n 3, 1) := by decide +kernel
theorem d_P_haveSameParts_26 : decode b_P_haveSameParts 26 = .ok (.invokevirtual 62, 3) := by decide +kernel
theorem d_P_haveSameParts_29 : decode b_P_haveSameParts 29 = .ok (.if_icmp .eq 5, 3) := by decide +kernel
theorem d_P_haveSameParts_32 : decode b_P_haveSameParts 32 = .ok (.iconst 0, 1) := by decide +kernel
theorem d_P_haveSameParts_33 : decode b_P_haveSameParts 33 = .ok (.ireturn, 1) := by decide +kernel
theorem d_P_haveSameParts_34 : decode b_P_haveSameParts 34 = .ok (.iinc 3 1, 3) := by decide +kernel
theorem d_P_haveSameParts_37 : decode b_P_haveSameParts 37 = .ok (.goto (-25), 3) := by decide +kernel
theorem d_P_haveSameParts_40 : decode b_P_haveSameParts 40 = .ok (.iinc 2 1, 3) := by decide +kernel
theorem d_P_haveSameParts_43 : decode b_P_haveSameParts 43 = .ok (.goto (-41), 3) := by decide +kernel
theorem d_P_haveSameParts_46 : decode b_P_haveSameParts 46 = .ok (.aload_n 0, 1) := by decide +kernel
theorem d_P_haveSameParts_47 : decode b_P_haveSameParts 47 = .ok (.getfield 131, 3) := by decide +kernel
theorem d_P_haveSameParts_50 : decode b_P_haveSameParts 50 = .ok (.aload_n 1, 1) := by decide +kernel
theorem d_P_haveSameParts_51 : decode b_P_haveSameParts 51 = .ok (.getfield 131, 3) := by decide +kernel
theorem d_P_haveSameParts_54 : decode b_P_haveSameParts 54 = .ok (.if_icmp .ne 7, 3) := by decide +kernel
theorem d_P_haveSameParts_57 : decode b_P_haveSameParts 57 = .ok (.iconst 1, 1) := by decide +kernel
theorem d_P_haveSameParts_58 : decode b_P_haveSameParts 58 = .ok (.goto 4, 3) := by decide +kernel
theorem d_P_haveSameParts_61 : decode b_P_haveSameParts 61 = .ok (.iconst 0, 1) := by decide +kernel
theorem d_P_haveSameParts_62 : decode b_P_haveSameParts 62 = .ok (.ireturn, 1) := by decide +kernel
theorem d_D_init_0 : decode b_D_init 0 = .ok (.aload_n 0, 1) := by decide +kernel
theorem d_D_init_1 : decode b_D_init 1 = .ok (.invokespecial 3, 3) := by decide +kernel
theorem d_D_init_4 : decode b_D_init 4 = .ok (.aload_n 0, 1) := by decide +kernel
theorem d_D_init_5 : decode b_D_init 5 = .ok (.bipush 16, 2) := by decide +kernel
theorem d_D_init_7 : decode b_D_init 7 = .ok (.newarray .long, 2) := by decide +kernel
theorem d_D_init_9 : decode b_D_init 9 = .ok (.putfield 9, 3) := by decide +kernel
theorem d_D_init_12 : decode b_D_init 12 = .ok (.aload_n 0, 1) := by decide +kernel
theorem d_D_init_13 : decode b_D_init 13 = .ok (.lconst 0, 1) := by decide +kernel
theorem d_D_init_14 : decode b_D_init 14 = .ok (.putfield 15, 3) := by decide +kernel
theorem d_D_init_17 : decode b_D_init 17 = .ok (.aload_n 0, 1) := by decide +kernel
theorem d_D_init_18 : decode b_D_init 18 = .ok (.iconst (-1), 1) := by decide +kernel
theorem d_D_init_19 : decode b_D_init 19 = .ok (.putfield 19, 3) := by decide +kernel
theorem d_D_init_22 : decode b_D_init 22 = .ok (.aload_n 0, 1) := by decide +kernel
theorem d_D_init_23 : decode b_D_init 23 = .ok (.iconst 0, 1) := by decide +kernel
theorem d_D_init_24 : decode b_D_init 24 = .ok (.putfield 23, 3) := by decide +kernel
theorem d_D_init_27 : decode b_D_init 27 = .ok (.aload_n 0, 1) := by decide +kernel
theorem d_D_init_28 : decode b_D_init 28 = .ok (.iconst 0, 1) := by decide +kernel
theorem d_D_init_29 : decode b_D_init 29 = .ok (.putfield 26, 3) := by decide +kernel
theorem d_D_init_32 : decode b_D_init 32 = .ok (.return_, 1) := by decide +kernel
theorem d_D_fill_0 : decode b_D_fill 0 = .ok (.aload_n 0, 1) := by decide +kernel
theorem d_D_fill_1 : decode b_D_fill 1 = .ok (.lload_n 1, 1) := by decide +kernel
theorem d_D_fill_2 : decode b_D_fill 2 = .ok (.putfield 15, 3) := by decide +kernel
theorem d_D_fill_5 : decode b_D_fill 5 = .ok (.aload_n 0, 1) := by decide +kernel
theorem d_D_fill_6 : decode b_D_fill 6 = .ok (.iload_n 3, 1) := by decide +kernel
theorem d_D_fill_7 : decode b_D_fill 7 = .ok (.putfield 19, 3) := by decide +kernel
theorem d_D_fill_10 : decode b_D_fill 10 = .ok (.aload_n 0, 1) := by decide +kernel
theorem d_D_fill_11 : decode b_D_fill 11 = .ok (.iconst 0, 1) := by decide +kernel
theorem d_D_fill_12 : decode b_D_fill 12 = .ok (.iload 4, 2) := by decide +kernel
theorem d_D_fill_14 : decode b_D_fill 14 = .ok (.bipush 16, 2) := by decide +kernel
theorem d_D_fill_16 : decode b_D_fill 16 = .ok (.invokestatic 29, 3) := by decide +kernel
theorem d_D_fill_19 : decode b_D_fill 19 = .ok (.invokestatic 35, 3) := by decide +kernel
theorem d_D_fill_22 : decode b_D_fill 22 = .ok (.putfield 23, 3) := by decide +kernel
theorem d_D_fill_25 : decode b_D_fill 25 = .ok (.iconst 0, 1) := by decide +kernel
theorem d_D_fill_26 : decode b_D_fill 26 = .ok (.istore 5, 2) := by decide +kernel
theorem d_D_fill_28 : decode b_D_fill 28 = .ok (.iload 5, 2) := by decide +kernel
theorem d_D_fill_30 : decode b_D_fill 30 = .ok (.aload_n 0, 1) := by decide +kernel
theorem d_D_fill_31 : decode b_D_fill 31 = .ok (.getfield 23, 3) := by decide +kernel
theorem d_D_fill_34 : decode b_D_fill 34 = .ok (.if_icmp .ge 29, 3) := by decide +kernel
theorem d_D_fill_37 : decode b_D_fill 37 = .ok (.aload_n 0, 1) := by decide +kernel
theorem d_D_fill_38 : decode b_D_fill 38 = .ok (.getfield 9, 3) := by decide +kernel
theorem d_D_fill_41 : decode b_D_fill 41 = .ok (.iload 5, 2) := by decide +kernel
theorem d_D_fill_43 : decode b_D_fill 43 = .ok (.aload_n 0, 1) := by decide +kernel
theorem d_D_fill_44 : decode b_D_fill 44 = .ok (.getfield 15, 3) := by decide +kernel
theorem d_D_fill_47 : decode b_D_fill 47 = .ok (.aload_n 0, 1) := by decide +kernel
theorem d_D_fill_48 : decode b_D_fill 48 = .ok (.getfield 19, 3) := by decide +kernel
theorem d_D_fill_51 : decode b_D_fill 51 = .ok (.iload 5, 2) := by decide +kernel
theorem d_D_fill_53 : decode b_D_fill 53 = .ok (.invokestatic 38, 3) := by decide +kernel
theorem d_D_fill_56 : decode b_D_fill 56 = .ok (.lastore, 1) := by decide +kernel
theorem d_D_fill_57 : decode b_D_fill 57 = .ok (.iinc 5 1, 3) := by decide +kernel
theorem d_D_fill_60 : decode b_D_fill 60 = .ok (.goto (-32), 3) := by decide +kernel
theorem d_D_fill_63 : decode b_D_fill 63 = .ok (.aload_n 0, 1) := by decide +kernel
theorem d_D_fill_64 : decode b_D_fill 64 = .ok (.aload_n 0, 1) := by decide +kernel
theorem d_D_fill_65 : decode b_D_fill 65 = .ok (.getfield 19, 3) := by decide +kernel
theorem d_D_fill_68 : decode b_D_fill 68 = .ok (.iconst 3, 1) := by decide +kernel
theorem d_D_fill_69 : decode b_D_fill 69 = .ok (.if_icmp .ne 10, 3) := by decide +kernel
theorem d_D_fill_72 : decode b_D_fill 72 = .ok (.aload_n 0, 1) := by decide +kernel
theorem d_D_fill_73 : decode b_D_fill 73 = .ok (.invokevirtual 42, 3) := by decide +kernel
theorem d_D_fill_76 : decode b_D_fill 76 = .ok (.goto 4, 3) := by decide +kernel
theorem d_D_fill_79 : decode b_D_fill 79 = .ok (.iconst 0, 1) := by decide +kernel
theorem d_D_fill_80 : decode b_D_fill 80 = .ok (.putfield 26, 3) := by decide +kernel
theorem d_D_fill_83 : decode b_D_fill 83 = .ok (.return_, 1) := by decide +kernel
theorem d_D_isEmpty_0 : decode b_D_isEmpty 0 = .ok (.aload_n 0, 1) := by decide +kernel
theorem d_D_isEmpty_1 : decode b_D_isEmpty 1 = .ok (.getfield 23, 3) := by decide +kernel
theorem d_D_isEmpty_4 : decode b_D_isEmpty 4 = .ok (.ifCond .ne 7, 3) := by decide +kernel
theorem d_D_isEmpty_7 : decode b_D_isEmpty 7 = .ok (.iconst 1, 1) := by decide +kernel
theorem d_D_isEmpty_8 : decode b_D_isEmpty 8 = .ok (.goto 4, 3) := by decide +kernel
theorem d_D_isEmpty_11 : decode b_D_isEmpty 11 = .ok (.iconst 0, 1) := by decide +kernel
theorem d_D_isEmpty_12 : decode b_D_isEmpty 12 = .ok (.ireturn, 1) := by decide +kernel
theorem d_D_has_0 : decode b_D_has 0 = .ok (.iload_n 1, 1) := by decide +kernel
theorem d_D_has_1 : decode b_D_has 1 = .ok (.ifCond .lt 15, 3) := by decide +kernel
theorem d_D_has_4 : decode b_D_has 4 = .ok (.iload_n 1, 1) := by decide +kernel
theorem d_D_has_5 : decode b_D_has 5 = .ok (.aload_n 0, 1) := by decide +kernel
theorem d_D_has_6 : decode b_D_has 6 = .ok (.getfield 23, 3) := by decide +kernel
theorem d_D_has_9 : decode b_D_has 9 = .ok (.if_icmp .ge 7, 3) := by decide +kernel
theorem d_D_has_12 : decode b_D_has 12 = .ok (.iconst 1, 1) := by decide +kernel
theorem d_D_has_13 : decode b_D_has 13 = .ok (.goto 4, 3) := by decide +kernel
theorem d_D_has_16 : decode b_D_has 16 = .ok (.iconst 0, 1) := by decide +kernel
theorem d_D_has_17 : decode b_D_has 17 = .ok (.ireturn, 1) := by decide +kernel
theorem d_D_allBits_0 : decode b_D_allBits 0 = .ok (.iconst 1, 1) := by decide +kernel
theorem d_D_allBits_1 : decode b_D_allBits 1 = .ok (.aload_n 0, 1) := by decide +kernel
theorem d_D_allBits_2 : decode b_D_allBits 2 = .ok (.getfield 23, 3) := by decide +kernel
theorem d_D_allBits_5 : decode b_D_allBits 5 = .ok (.ishl, 1) := by decide +kernel
theorem d_D_allBits_6 : decode b_D_allBits 6 = .ok (.iconst 1, 1) := by decide +kernel
theorem d_D_allBits_7 : decode b_D_allBits 7 = .ok (.isub, 1) := by decide +kernel
theorem d_D_allBits_8 : decode b_D_allBits 8 = .ok (.ireturn, 1) := by decide +kernel
theorem d_D_hasFaults_0 : decode b_D_hasFaults 0 = .ok (.aload_n 0, 1) := by decide +kernel
theorem d_D_hasFaults_1 : decode b_D_hasFaults 1 = .ok (.iload_n 1, 1) := by decide +kernel
theorem d_D_hasFaults_2 : decode b_D_hasFaults 2 = .ok (.invokevirtual 46, 3) := by decide +kernel
theorem d_D_hasFaults_5 : decode b_D_hasFaults 5 = .ok (.ifCond .eq 18, 3) := by decide +kernel
theorem d_D_hasFaults_8 : decode b_D_hasFaults 8 = .ok (.aload_n 0, 1) := by decide +kernel
theorem d_D_hasFaults_9 : decode b_D_hasFaults 9 = .ok (.getfield 26, 3) := by decide +kernel
theorem d_D_hasFaults_12 : decode b_D_hasFaults 12 = .ok (.iload_n 1, 1) := by decide +kernel
theorem d_D_hasFaults_13 : decode b_D_hasFaults 13 = .ok (.ishr, 1) := by decide +kernel
theorem d_D_hasFaults_14 : decode b_D_hasFaults 14 = .ok (.iconst 1, 1) := by decide +kernel
theorem d_D_hasFaults_15 : decode b_D_hasFaults 15 = .ok (.iand, 1) := by decide +kernel
theorem d_D_hasFaults_16 : decode b_D_hasFaults 16 = .ok (.ifCond .eq 7, 3) := by decide +kernel
theorem d_D_hasFaults_19 : decode b_D_hasFaults 19 = .ok (.iconst 1, 1) := by decide +kernel
theorem d_D_hasFaults_20 : decode b_D_hasFaults 20 = .ok (.goto 4, 3) := by decide +kernel
theorem d_D_hasFaults_23 : decode b_D_hasFaults 23 = .ok (.iconst 0, 1) := by decide +kernel
theorem d_D_hasFaults_24 : decode b_D_hasFaults 24 = .ok (.ireturn, 1) := by decide +kernel
theorem d_D_fact_0 : decode b_D_fact 0 = .ok (.aload_n 0, 1) := by decide +kernel
theorem d_D_fact_1 : decode b_D_fact 1 = .ok (.iload_n 1, 1) := by decide +kernel
theorem d_D_fact_2 : decode b_D_fact 2 = .ok (.invokevirtual 46, 3) := by decide +kernel
theorem d_D_fact_5 : decode b_D_fact 5 = .ok (.ifCond .ne 5, 3) := by decide +kernel
theorem d_D_fact_8 : decode b_D_fact 8 = .ok (.iconst (-1), 1) := by decide +kernel
theorem d_D_fact_9 : decode b_D_fact 9 = .ok (.ireturn, 1) := by decide +kernel
theorem d_D_fact_10 : decode b_D_fact 10 = .ok (.aload_n 0, 1) := by decide +kernel
theorem d_D_fact_11 : decode b_D_fact 11 = .ok (.getfield 9, 3) := by decide +kernel
theorem d_D_fact_14 : decode b_D_fact 14 = .ok (.iload_n 1, 1) := by decide +kernel
theorem d_D_fact_15 : decode b_D_fact 15 = .ok (.laload, 1) := by decide +kernel
theorem d_D_fact_16 : decode b_D_fact 16 = .ok (.lstore_n 3, 1) := by decide +kernel
theorem d_D_fact_17 : decode b_D_fact 17 = .ok (.iload_n 2, 1) := by decide +kernel
theorem d_D_fact_18 : decode b_D_fact 18 = .ok (.tableswitch 77 1 4 #[30, 47, 57, 67], 30) := by decide +kernel
theorem d_D_fact_48 : decode b_D_fact 48 = .ok (.ldc2_w 50, 3) := by decide +kernel
theorem d_D_fact_51 : decode b_D_fact 51 = .ok (.lload_n 3, 1) := by decide +kernel
theorem d_D_fact_52 : decode b_D_fact 52 = .ok (.iconst 1, 1) := by decide +kernel
theorem d_D_fact_53 : decode b_D_fact 53 = .ok (.lushr, 1) := by decide +kernel
theorem d_D_fact_54 : decode b_D_fact 54 = .ok (.ldc2_w 52, 3) := by decide +kernel
theorem d_D_fact_57 : decode b_D_fact 57 = .ok (.lrem, 1) := by decide +kernel
theorem d_D_fact_58 : decode b_D_fact 58 = .ok (.lmul, 1) := by decide +kernel
theorem d_D_fact_59 : decode b_D_fact 59 = .ok (.lload_n 3, 1) := by decide +kernel
theorem d_D_fact_60 : decode b_D_fact 60 = .ok (.lconst 1, 1) := by decide +kernel
theorem d_D_fact_61 : decode b_D_fact 61 = .ok (.land, 1) := by decide +kernel
theorem d_D_fact_62 : decode b_D_fact 62 = .ok (.ladd, 1) := by decide +kernel
theorem d_D_fact_63 : decode b_D_fact 63 = .ok (.l2i, 1) := by decide +kernel
theorem d_D_fact_64 : decode b_D_fact 64 = .ok (.ireturn, 1) := by decide +kernel
theorem d_D_fact_65 : decode b_D_fact 65 = .ok (.lload_n 3, 1) := by decide +kernel
theorem d_D_fact_66 : decode b_D_fact 66 = .ok (.bipush 8, 2) := by decide +kernel
theorem d_D_fact_68 : decode b_D_fact 68 = .ok (.lushr, 1) := by decide +kernel
theorem d_D_fact_69 : decode b_D_fact 69 = .ok (.ldc2_w 54, 3) := by decide +kernel
theorem d_D_fact_72 : decode b_D_fact 72 = .ok (.lrem, 1) := by decide +kernel
theorem d_D_fact_73 : decode b_D_fact 73 = .ok (.l2i, 1) := by decide +kernel
theorem d_D_fact_74 : decode b_D_fact 74 = .ok (.ireturn, 1) := by decide +kernel
theorem d_D_fact_75 : decode b_D_fact 75 = .ok (.lload_n 3, 1) := by decide +kernel
theorem d_D_fact_76 : decode b_D_fact 76 = .ok (.bipush 24, 2) := by decide +kernel
theorem d_D_fact_78 : decode b_D_fact 78 = .ok (.lushr, 1) := by decide +kernel
theorem d_D_fact_79 : decode b_D_fact 79 = .ok (.ldc2_w 56, 3) := by decide +kernel
theorem d_D_fact_82 : decode b_D_fact 82 = .ok (.lrem, 1) := by decide +kernel
theorem d_D_fact_83 : decode b_D_fact 83 = .ok (.l2i, 1) := by decide +kernel
theorem d_D_fact_84 : decode b_D_fact 84 = .ok (.ireturn, 1) := by decide +kernel
theorem d_D_fact_85 : decode b_D_fact 85 = .ok (.lload_n 3, 1) := by decide +kernel
theorem d_D_fact_86 : decode b_D_fact 86 = .ok (.bipush 40, 2) := by decide +kernel
theorem d_D_fact_88 : decode b_D_fact 88 = .ok (.lushr, 1) := by decide +kernel
theorem d_D_fact_89 : decode b_D_fact 89 = .ok (.ldc2_w 50, 3) := by decide +kernel
theorem d_D_fact_92 : decode b_D_fact 92 = .ok (.lrem, 1) := by decide +kernel
theorem d_D_fact_93 : decode b_D_fact 93 = .ok (.l2i, 1) := by decide +kernel
theorem d_D_fact_94 : decode b_D_fact 94 = .ok (.ireturn, 1) := by decide +kernel
theorem d_D_fact_95 : decode b_D_fact 95 = .ok (.iconst (-1), 1) := by decide +kernel
theorem d_D_fact_96 : decode b_D_fact 96 = .ok (.ireturn, 1) := by decide +kernel
theorem d_D_greaterHalf_0 : decode b_D_greaterHalf 0 = .ok (.iconst 0, 1) := by decide +kernel
theorem d_D_greaterHalf_1 : decode b_D_greaterHalf 1 = .ok (.istore_n 1, 1) := by decide +kernel
theorem d_D_greaterHalf_2 : decode b_D_greaterHalf 2 = .ok (.iconst 0, 1) := by decide +kernel
theorem d_D_greaterHalf_3 : decode b_D_greaterHalf 3 = .ok (.istore_n 2, 1) := by decide +kernel
theorem d_D_greaterHalf_4 : decode b_D_greaterHalf 4 = .ok (.iload_n 2, 1) := by decide +kernel
theorem d_D_greaterHalf_5 : decode b_D_greaterHalf 5 = .ok (.aload_n 0, 1) := by decide +kernel
theorem d_D_greaterHalf_6 : decode b_D_greaterHalf 6 = .ok (.getfield 23, 3) := by decide +kernel
theorem d_D_greaterHalf_9 : decode b_D_greaterHalf 9 = .ok (.if_icmp .ge 29, 3) := by decide +kernel
theorem d_D_greaterHalf_12 : decode b_D_greaterHalf 12 = .ok (.aload_n 0, 1) := by decide +kernel
theorem d_D_greaterHalf_13 : decode b_D_greaterHalf 13 = .ok (.iload_n 2, 1) := by decide +kernel
theorem d_D_greaterHalf_14 : decode b_D_greaterHalf 14 = .ok (.invokevirtual 58, 3) := by decide +kernel
theorem d_D_greaterHalf_17 : decode b_D_greaterHalf 17 = .ok (.aload_n 0, 1) := by decide +kernel
theorem d_D_greaterHalf_18 : decode b_D_greaterHalf 18 = .ok (.getfield 23, 3) := by decide +kernel
theorem d_D_greaterHalf_21 : decode b_D_greaterHalf 21 = .ok (.iconst 2, 1) := by decide +kernel
theorem d_D_greaterHalf_22 : decode b_D_greaterHalf 22 = .ok (.idiv, 1) := by decide +kernel
theorem d_D_greaterHalf_23 : decode b_D_greaterHalf 23 = .ok (.if_icmp .ge 9, 3) := by decide +kernel
theorem d_D_greaterHalf_26 : decode b_D_greaterHalf 26 = .ok (.iload_n 1, 1) := by decide +kernel
theorem d_D_greaterHalf_27 : decode b_D_greaterHalf 27 = .ok (.iconst 1, 1) := by decide +kernel
theorem d_D_greaterHalf_28 : decode b_D_greaterHalf 28 = .ok (.iload_n 2, 1) := by decide +kernel
theorem d_D_greaterHalf_29 : decode b_D_greaterHalf 29 = .ok (.ishl, 1) := by decide +kernel
theorem d_D_greaterHalf_30 : decode b_D_greaterHalf 30 = .ok (.ior, 1) := by decide +kernel
theorem d_D_greaterHalf_31 : decode b_D_greaterHalf 31 = .ok (.istore_n 1, 1) := by decide +kernel
theorem d_D_greaterHalf_32 : decode b_D_greaterHalf 32 = .ok (.iinc 2 1, 3) := by decide +kernel
theorem d_D_greaterHalf_35 : decode b_D_greaterHalf 35 = .ok (.goto (-31), 3) := by decide +kernel
theorem d_D_greaterHalf_38 : decode b_D_greaterHalf 38 = .ok (.iload_n 1, 1) := by decide +kernel
theorem d_D_greaterHalf_39 : decode b_D_greaterHalf 39 = .ok (.ireturn, 1) := by decide +kernel
theorem d_D_countAbove_0 : decode b_D_countAbove 0 = .ok (.iconst 0, 1) := by decide +kernel
theorem d_D_countAbove_1 : decode b_D_countAbove 1 = .ok (.istore_n 2, 1) := by decide +kernel
theorem d_D_countAbove_2 : decode b_D_countAbove 2 = .ok (.iconst 0, 1) := by decide +kernel
theorem d_D_countAbove_3 : decode b_D_countAbove 3 = .ok (.istore_n 3, 1) := by decide +kernel
theorem d_D_countAbove_4 : decode b_D_countAbove 4 = .ok (.iload_n 3, 1) := by decide +kernel
theorem d_D_countAbove_5 : decode b_D_countAbove 5 = .ok (.aload_n 0, 1) := by decide +kernel
theorem d_D_countAbove_6 : decode b_D_countAbove 6 = .ok (.getfield 23, 3) := by decide +kernel
theorem d_D_countAbove_9 : decode b_D_countAbove 9 = .ok (.if_icmp .ge 21, 3) := by decide +kernel
theorem d_D_countAbove_12 : decode b_D_countAbove 12 = .ok (.aload_n 0, 1) := by decide +kernel
theorem d_D_countAbove_13 : decode b_D_countAbove 13 = .ok (.iload_n 3, 1) := by decide +kernel
theorem d_D_countAbove_14 : decode b_D_countAbove 14 = .ok (.iload_n 1, 1) := by decide +kernel
theorem d_D_countAbove_15 : decode b_D_countAbove 15 = .ok (.invokevirtual 62, 3) := by decide +kernel
theorem d_D_countAbove_18 : decode b_D_countAbove 18 = .ok (.ifCond .eq 6, 3) := by decide +kernel
theorem d_D_countAbove_21 : decode b_D_countAbove 21 = .ok (.iinc 2 1, 3) := by decide +kernel
theorem d_D_countAbove_24 : decode b_D_countAbove 24 = .ok (.iinc 3 1, 3) := by decide +kernel
theorem d_D_countAbove_27 : decode b_D_countAbove 27 = .ok (.goto (-23), 3) := by decide +kernel
theorem d_D_countAbove_30 : decode b_D_countAbove 30 = .ok (.iload_n 2, 1) := by decide +kernel
theorem d_D_countAbove_31 : decode b_D_countAbove 31 = .ok (.ireturn, 1) := by decide +kernel
theorem d_D_isAbove_0 : decode b_D_isAbove 0 = .ok (.aload_n 0, 1) := by decide +kernel
theorem d_D_isAbove_1 : decode b_D_isAbove 1 = .ok (.iload_n 1, 1) := by decide +kernel
theorem d_D_isAbove_2 : decode b_D_isAbove 2 = .ok (.invokevirtual 46, 3) := by decide +kernel
theorem d_D_isAbove_5 : decode b_D_isAbove 5 = .ok (.ifCond .eq 11, 3) := by decide +kernel
theorem d_D_isAbove_8 : decode b_D_isAbove 8 = .ok (.aload_n 0, 1) := by decide +kernel
theorem d_D_isAbove_9 : decode b_D_isAbove 9 = .ok (.iload_n 2, 1) := by decide +kernel
theorem d_D_isAbove_10 : decode b_D_isAbove 10 = .ok (.invokevirtual 46, 3) := by decide +kernel
theorem d_D_isAbove_13 : decode b_D_isAbove 13 = .ok (.ifCond .ne 5, 3) := by decide +kernel
theorem d_D_isAbove_16 : decode b_D_isAbove 16 = .ok (.iconst 0, 1) := by decide +kernel
theorem d_D_isAbove_17 : decode b_D_isAbove 17 = .ok (.ireturn, 1) := by decide +kernel
theorem d_D_isAbove_18 : decode b_D_isAbove 18 = .ok (.aload_n 0, 1) := by decide +kernel
theorem d_D_isAbove_19 : decode b_D_isAbove 19 = .ok (.getfield 9, 3) := by decide +kernel
theorem d_D_isAbove_22 : decode b_D_isAbove 22 = .ok (.iload_n 1, 1) := by decide +kernel
theorem d_D_isAbove_23 : decode b_D_isAbove 23 = .ok (.laload, 1) := by decide +kernel
theorem d_D_isAbove_24 : decode b_D_isAbove 24 = .ok (.ldc2_w 68, 3) := by decide +kernel
theorem d_D_isAbove_27 : decode b_D_isAbove 27 = .ok (.lxor, 1) := by decide +kernel
theorem d_D_isAbove_28 : decode b_D_isAbove 28 = .ok (.lstore_n 3, 1) := by decide +kernel
theorem d_D_isAbove_29 : decode b_D_isAbove 29 = .ok (.aload_n 0, 1) := by decide +kernel
theorem d_D_isAbove_30 : decode b_D_isAbove 30 = .ok (.getfield 9, 3) := by decide +kernel
theorem d_D_isAbove_33 : decode b_D_isAbove 33 = .ok (.iload_n 2, 1) := by decide +kernel
theorem d_D_isAbove_34 : decode b_D_isAbove 34 = .ok (.laload, 1) := by decide +kernel
theorem d_D_isAbove_35 : decode b_D_isAbove 35 = .ok (.ldc2_w 68, 3) := by decide +kernel
theorem d_D_isAbove_38 : decode b_D_isAbove 38 = .ok (.lxor, 1) := by decide +kernel
theorem d_D_isAbove_39 : decode b_D_isAbove 39 = .ok (.lstore 5, 2) := by decide +kernel
theorem d_D_isAbove_41 : decode b_D_isAbove 41 = .ok (.lload_n 3, 1) := by decide +kernel
theorem d_D_isAbove_42 : decode b_D_isAbove 42 = .ok (.lload 5, 2) := by decide +kernel
theorem d_D_isAbove_44 : decode b_D_isAbove 44 = .ok (.lcmp, 1) := by decide +kernel
theorem d_D_isAbove_45 : decode b_D_isAbove 45 = .ok (.ifCond .gt 15, 3) := by decide +kernel
theorem d_D_isAbove_48 : decode b_D_isAbove 48 = .ok (.lload_n 3, 1) := by decide +kernel
theorem d_D_isAbove_49 : decode b_D_isAbove 49 = .ok (.lload 5, 2) := by decide +kernel
theorem d_D_isAbove_51 : decode b_D_isAbove 51 = .ok (.lcmp, 1) := by decide +kernel
theorem d_D_isAbove_52 : decode b_D_isAbove 52 = .ok (.ifCond .ne 12, 3) := by decide +kernel
theorem d_D_isAbove_55 : decode b_D_isAbove 55 = .ok (.iload_n 1, 1) := by decide +kernel
theorem d_D_isAbove_56 : decode b_D_isAbove 56 = .ok (.iload_n 2, 1) := by decide +kernel
theorem d_D_isAbove_57 : decode b_D_isAbove 57 = .ok (.if_icmp .le 7, 3) := by decide +kernel
theorem d_D_isAbove_60 : decode b_D_isAbove 60 = .ok (.iconst 1, 1) := by decide +kernel
theorem d_D_isAbove_61 : decode b_D_isAbove 61 = .ok (.goto 4, 3) := by decide +kernel
theorem d_D_isAbove_64 : decode b_D_isAbove 64 = .ok (.iconst 0, 1) := by decide +kernel
theorem d_D_isAbove_65 : decode b_D_isAbove 65 = .ok (.ireturn, 1) := by decide +kernel
theorem d_V_init_0 : decode b_V_init 0 = .ok (.aload_n 0, 1) := by decide +kernel
theorem d_V_init_1 : decode b_V_init 1 = .ok (.invokespecial 3, 3) := by decide +kernel
theorem d_V_init_4 : decode b_V_init 4 = .ok (.aload_n 0, 1) := by decide +kernel
theorem d_V_init_5 : decode b_V_init 5 = .ok (.bipush 100, 2) := by decide +kernel
theorem d_V_init_7 : decode b_V_init 7 = .ok (.newarray .int, 2) := by decide +kernel
theorem d_V_init_9 : decode b_V_init 9 = .ok (.putfield 9, 3) := by decide +kernel
theorem d_V_init_12 : decode b_V_init 12 = .ok (.aload_n 0, 1) := by decide +kernel
theorem d_V_init_13 : decode b_V_init 13 = .ok (.bipush 100, 2) := by decide +kernel
theorem d_V_init_15 : decode b_V_init 15 = .ok (.newarray .boolean, 2) := by decide +kernel
theorem d_V_init_17 : decode b_V_init 17 = .ok (.putfield 15, 3) := by decide +kernel
theorem d_V_init_20 : decode b_V_init 20 = .ok (.aload_n 0, 1) := by decide +kernel
theorem d_V_init_21 : decode b_V_init 21 = .ok (.iconst 0, 1) := by decide +kernel
theorem d_V_init_22 : decode b_V_init 22 = .ok (.putfield 19, 3) := by decide +kernel
theorem d_V_init_25 : decode b_V_init 25 = .ok (.return_, 1) := by decide +kernel
theorem d_V_forget_0 : decode b_V_forget 0 = .ok (.aload_n 0, 1) := by decide +kernel
theorem d_V_forget_1 : decode b_V_forget 1 = .ok (.iconst 0, 1) := by decide +kernel
theorem d_V_forget_2 : decode b_V_forget 2 = .ok (.putfield 19, 3) := by decide +kernel
theorem d_V_forget_5 : decode b_V_forget 5 = .ok (.return_, 1) := by decide +kernel
theorem d_V_tell_0 : decode b_V_tell 0 = .ok (.aload_n 0, 1) := by decide +kernel
theorem d_V_tell_1 : decode b_V_tell 1 = .ok (.iload_n 1, 1) := by decide +kernel
theorem d_V_tell_2 : decode b_V_tell 2 = .ok (.invokevirtual 23, 3) := by decide +kernel
theorem d_V_tell_5 : decode b_V_tell 5 = .ok (.istore_n 3, 1) := by decide +kernel
theorem d_V_tell_6 : decode b_V_tell 6 = .ok (.iload_n 3, 1) := by decide +kernel
theorem d_V_tell_7 : decode b_V_tell 7 = .ok (.aload_n 0, 1) := by decide +kernel
theorem d_V_tell_8 : decode b_V_tell 8 = .ok (.getfield 19, 3) := by decide +kernel
theorem d_V_tell_11 : decode b_V_tell 11 = .ok (.if_icmp .ne 31, 3) := by decide +kernel
theorem d_V_tell_14 : decode b_V_tell 14 = .ok (.aload_n 0, 1) := by decide +kernel
theorem d_V_tell_15 : decode b_V_tell 15 = .ok (.getfield 19, 3) := by decide +kernel
theorem d_V_tell_18 : decode b_V_tell 18 = .ok (.bipush 100, 2) := by decide +kernel
theorem d_V_tell_20 : decode b_V_tell 20 = .ok (.if_icmp .lt 5, 3) := by decide +kernel
theorem d_V_tell_23 : decode b_V_tell 23 = .ok (.iconst 0, 1) := by decide +kernel
theorem d_V_tell_24 : decode b_V_tell 24 = .ok (.ireturn, 1) := by decide +kernel
theorem d_V_tell_25 : decode b_V_tell 25 = .ok (.aload_n 0, 1) := by decide +kernel
theorem d_V_tell_26 : decode b_V_tell 26 = .ok (.getfield 9, 3) := by decide +kernel
theorem d_V_tell_29 : decode b_V_tell 29 = .ok (.iload_n 3, 1) := by decide +kernel
theorem d_V_tell_30 : decode b_V_tell 30 = .ok (.iload_n 1, 1) := by decide +kernel
theorem d_V_tell_31 : decode b_V_tell 31 = .ok (.iastore, 1) := by decide +kernel
theorem d_V_tell_32 : decode b_V_tell 32 = .ok (.aload_n 0, 1) := by decide +kernel
theorem d_V_tell_33 : decode b_V_tell 33 = .ok (.dup, 1) := by decide +kernel
theorem d_V_tell_34 : decode b_V_tell 34 = .ok (.getfield 19, 3) := by decide +kernel
theorem d_V_tell_37 : decode b_V_tell 37 = .ok (.iconst 1, 1) := by decide +kernel
theorem d_V_tell_38 : decode b_V_tell 38 = .ok (.iadd, 1) := by decide +kernel
theorem d_V_tell_39 : decode b_V_tell 39 = .ok (.putfield 19, 3) := by decide +kernel
theorem d_V_tell_42 : decode b_V_tell 42 = .ok (.aload_n 0, 1) := by decide +kernel
theorem d_V_tell_43 : decode b_V_tell 43 = .ok (.getfield 15, 3) := by decide +kernel
theorem d_V_tell_46 : decode b_V_tell 46 = .ok (.iload_n 3, 1) := by decide +kernel
theorem d_V_tell_47 : decode b_V_tell 47 = .ok (.iload_n 2, 1) := by decide +kernel
theorem d_V_tell_48 : decode b_V_tell 48 = .ok (.bastore, 1) := by decide +kernel
theorem d_V_tell_49 : decode b_V_tell 49 = .ok (.iconst 1, 1) := by decide +kernel
theorem d_V_tell_50 : decode b_V_tell 50 = .ok (.ireturn, 1) := by decide +kernel
theorem d_V_stayFor_0 : decode b_V_stayFor 0 = .ok (.aload_n 0, 1) := by decide +kernel
theorem d_V_stayFor_1 : decode b_V_stayFor 1 = .ok (.iload_n 1, 1) := by decide +kernel
theorem d_V_stayFor_2 : decode b_V_stayFor 2 = .ok (.invokevirtual 23, 3) := by decide +kernel
theorem d_V_stayFor_5 : decode b_V_stayFor 5 = .ok (.istore_n 2, 1) := by decide +kernel
theorem d_V_stayFor_6 : decode b_V_stayFor 6 = .ok (.iload_n 2, 1) := by decide +kernel
theorem d_V_stayFor_7 : decode b_V_stayFor 7 = .ok (.aload_n 0, 1) := by decide +kernel
theorem d_V_stayFor_8 : decode b_V_stayFor 8 = .ok (.getfield 19, 3) := by decide +kernel
theorem d_V_stayFor_11 : decode b_V_stayFor 11 = .ok (.if_icmp .ge 16, 3) := by decide +kernel
theorem d_V_stayFor_14 : decode b_V_stayFor 14 = .ok (.aload_n 0, 1) := by decide +kernel
theorem d_V_stayFor_15 : decode b_V_stayFor 15 = .ok (.getfield 15, 3) := by decide +kernel
theorem d_V_stayFor_18 : decode b_V_stayFor 18 = .ok (.iload_n 2, 1) := by decide +kernel
theorem d_V_stayFor_19 : decode b_V_stayFor 19 = .ok (.baload, 1) := by decide +kernel
theorem d_V_stayFor_20 : decode b_V_stayFor 20 = .ok (.ifCond .eq 7, 3) := by decide +kernel
theorem d_V_stayFor_23 : decode b_V_stayFor 23 = .ok (.iconst 1, 1) := by decide +kernel
theorem d_V_stayFor_24 : decode b_V_stayFor 24 = .ok (.goto 4, 3) := by decide +kernel
theorem d_V_stayFor_27 : decode b_V_stayFor 27 = .ok (.iconst 0, 1) := by decide +kernel
theorem d_V_stayFor_28 : decode b_V_stayFor 28 = .ok (.ireturn, 1) := by decide +kernel
theorem d_V_find_0 : decode b_V_find 0 = .ok (.iconst 0, 1) := by decide +kernel
theorem d_V_find_1 : decode b_V_find 1 = .ok (.istore_n 2, 1) := by decide +kernel
theorem d_V_find_2 : decode b_V_find 2 = .ok (.iload_n 2, 1) := by decide +kernel
theorem d_V_find_3 : decode b_V_find 3 = .ok (.aload_n 0, 1) := by decide +kernel
theorem d_V_find_4 : decode b_V_find 4 = .ok (.getfield 19, 3) := by decide +kernel
theorem d_V_find_7 : decode b_V_find 7 = .ok (.if_icmp .ge 21, 3) := by decide +kernel
theorem d_V_find_10 : decode b_V_find 10 = .ok (.aload_n 0, 1) := by decide +kernel
theorem d_V_find_11 : decode b_V_find 11 = .ok (.getfield 9, 3) := by decide +kernel
theorem d_V_find_14 : decode b_V_find 14 = .ok (.iload_n 2, 1) := by decide +kernel
theorem d_V_find_15 : decode b_V_find 15 = .ok (.iaload, 1) := by decide +kernel
theorem d_V_find_16 : decode b_V_find 16 = .ok (.iload_n 1, 1) := by decide +kernel
theorem d_V_find_17 : decode b_V_find 17 = .ok (.if_icmp .ne 5, 3) := by decide +kernel
theorem d_V_find_20 : decode b_V_find 20 = .ok (.iload_n 2, 1) := by decide +kernel
theorem d_V_find_21 : decode b_V_find 21 = .ok (.ireturn, 1) := by decide +kernel
theorem d_V_find_22 : decode b_V_find 22 = .ok (.iinc 2 1, 3) := by decide +kernel
theorem d_V_find_25 : decode b_V_find 25 = .ok (.goto (-23), 3) := by decide +kernel
theorem d_V_find_28 : decode b_V_find 28 = .ok (.aload_n 0, 1) := by decide +kernel
theorem d_V_find_29 : decode b_V_find 29 = .ok (.getfield 19, 3) := by decide +kernel
theorem d_V_find_32 : decode b_V_find 32 = .ok (.ireturn, 1) := by decide +kernel
theorem d_J_bitCount_0 : decode b_J_bitCount 0 = .ok (.iload_n 0, 1) := by decide +kernel
theorem d_J_bitCount_1 : decode b_J_bitCount 1 = .ok (.iload_n 0, 1) := by decide +kernel
theorem d_J_bitCount_2 : decode b_J_bitCount 2 = .ok (.iconst 1, 1) := by decide +kernel
theorem d_J_bitCount_3 : decode b_J_bitCount 3 = .ok (.iushr, 1) := by decide +kernel
theorem d_J_bitCount_4 : decode b_J_bitCount 4 = .ok (.ldc_w 265, 3) := by decide +kernel
theorem d_J_bitCount_7 : decode b_J_bitCount 7 = .ok (.iand, 1) := by decide +kernel
theorem d_J_bitCount_8 : decode b_J_bitCount 8 = .ok (.isub, 1) := by decide +kernel
theorem d_J_bitCount_9 : decode b_J_bitCount 9 = .ok (.istore_n 0, 1) := by decide +kernel
theorem d_J_bitCount_10 : decode b_J_bitCount 10 = .ok (.iload_n 0, 1) := by decide +kernel
theorem d_J_bitCount_11 : decode b_J_bitCount 11 = .ok (.ldc_w 266, 3) := by decide +kernel
theorem d_J_bitCount_14 : decode b_J_bitCount 14 = .ok (.iand, 1) := by decide +kernel
theorem d_J_bitCount_15 : decode b_J_bitCount 15 = .ok (.iload_n 0, 1) := by decide +kernel
theorem d_J_bitCount_16 : decode b_J_bitCount 16 = .ok (.iconst 2, 1) := by decide +kernel
theorem d_J_bitCount_17 : decode b_J_bitCount 17 = .ok (.iushr, 1) := by decide +kernel
theorem d_J_bitCount_18 : decode b_J_bitCount 18 = .ok (.ldc_w 266, 3) := by decide +kernel
theorem d_J_bitCount_21 : decode b_J_bitCount 21 = .ok (.iand, 1) := by decide +kernel
theorem d_J_bitCount_22 : decode b_J_bitCount 22 = .ok (.iadd, 1) := by decide +kernel
theorem d_J_bitCount_23 : decode b_J_bitCount 23 = .ok (.istore_n 0, 1) := by decide +kernel
theorem d_J_bitCount_24 : decode b_J_bitCount 24 = .ok (.iload_n 0, 1) := by decide +kernel
theorem d_J_bitCount_25 : decode b_J_bitCount 25 = .ok (.iload_n 0, 1) := by decide +kernel
theorem d_J_bitCount_26 : decode b_J_bitCount 26 = .ok (.iconst 4, 1) := by decide +kernel
theorem d_J_bitCount_27 : decode b_J_bitCount 27 = .ok (.iushr, 1) := by decide +kernel
theorem d_J_bitCount_28 : decode b_J_bitCount 28 = .ok (.iadd, 1) := by decide +kernel
theorem d_J_bitCount_29 : decode b_J_bitCount 29 = .ok (.ldc_w 267, 3) := by decide +kernel
theorem d_J_bitCount_32 : decode b_J_bitCount 32 = .ok (.iand, 1) := by decide +kernel
theorem d_J_bitCount_33 : decode b_J_bitCount 33 = .ok (.istore_n 0, 1) := by decide +kernel
theorem d_J_bitCount_34 : decode b_J_bitCount 34 = .ok (.iload_n 0, 1) := by decide +kernel
theorem d_J_bitCount_35 : decode b_J_bitCount 35 = .ok (.iload_n 0, 1) := by decide +kernel
theorem d_J_bitCount_36 : decode b_J_bitCount 36 = .ok (.bipush 8, 2) := by decide +kernel
theorem d_J_bitCount_38 : decode b_J_bitCount 38 = .ok (.iushr, 1) := by decide +kernel
theorem d_J_bitCount_39 : decode b_J_bitCount 39 = .ok (.iadd, 1) := by decide +kernel
theorem d_J_bitCount_40 : decode b_J_bitCount 40 = .ok (.istore_n 0, 1) := by decide +kernel
theorem d_J_bitCount_41 : decode b_J_bitCount 41 = .ok (.iload_n 0, 1) := by decide +kernel
theorem d_J_bitCount_42 : decode b_J_bitCount 42 = .ok (.iload_n 0, 1) := by decide +kernel
theorem d_J_bitCount_43 : decode b_J_bitCount 43 = .ok (.bipush 16, 2) := by decide +kernel
theorem d_J_bitCount_45 : decode b_J_bitCount 45 = .ok (.iushr, 1) := by decide +kernel
theorem d_J_bitCount_46 : decode b_J_bitCount 46 = .ok (.iadd, 1) := by decide +kernel
theorem d_J_bitCount_47 : decode b_J_bitCount 47 = .ok (.istore_n 0, 1) := by decide +kernel
theorem d_J_bitCount_48 : decode b_J_bitCount 48 = .ok (.iload_n 0, 1) := by decide +kernel
theorem d_J_bitCount_49 : decode b_J_bitCount 49 = .ok (.bipush 63, 2) := by decide +kernel
theorem d_J_bitCount_51 : decode b_J_bitCount 51 = .ok (.iand, 1) := by decide +kernel
theorem d_J_bitCount_52 : decode b_J_bitCount 52 = .ok (.ireturn, 1) := by decide +kernel
end
section
/-! one list of words for all methods: the tables' words that every caller may hand on -/
def TG : List Cond := lw_tbl.filter goodWord
theorem tg_in {w : Cond} (h : w ∈ lw_tbl) (hg : goodWord w = true) : w ∈ TG := List.mem_filter.mpr ⟨h, hg⟩
theorem tg_good {w : Cond} (h : w ∈ TG) : (w.onTables && w.keeps) = true ∨ ∃ ty, w = .arrayClass ty := good_of_word (List.mem_filter.mp h).2
theorem tg_G {cy : Cond} (h : cy ∈ TG) : GoodIn TG (cy :: TG) := by
  intro w hw
  rcases List.mem_cons.mp hw with rfl | hw
  · exact ⟨h, tg_good h⟩
  · exact ⟨hw, tg_good hw⟩
theorem tg_all {ws : List Cond} (h : ∀ w ∈ ws, w ∈ TG) : GoodIn TG ws := fun w hw => ⟨h w hw, tg_good (h w hw)⟩
/-- the words of a virtual call, of a static one, of a constructor's -/
def CV (own : String) (idx : Nat) (C : String) (y : MethodName) (bytes : ByteArray) (maxL : Nat) (ret : Option FieldType) (n : Nat) : Prop :=
  Cond.methodLink own idx y ∈ TG ∧ Cond.instanceMethod y ∈ TG ∧ Cond.selects C y y ∈ TG ∧ Cond.initialized C ∈ TG ∧ Cond.code y bytes maxL ret ∈ TG ∧
  (y.cls = C ∧ y.cls ≠ "java/lang/invoke/MethodHandle" ∧ y.cls ≠ "java/lang/invoke/VarHandle" ∧ (parseMethodDescriptor y.desc).map (fun d => d.parameters.length) = some n)
def CS (own : String) (idx : Nat) (y : MethodName) (bytes : ByteArray) (maxL : Nat) (ret : Option FieldType) (n : Nat) : Prop :=
  Cond.methodLink own idx y ∈ TG ∧ Cond.static y ∈ TG ∧ Cond.initialized y.cls ∈ TG ∧ Cond.code y bytes maxL ret ∈ TG ∧
  (y.cls ≠ "java/lang/invoke/MethodHandle" ∧ y.cls ≠ "java/lang/invoke/VarHandle" ∧ (parseMethodDescriptor y.desc).map (fun d => d.parameters.length) = some n)
def CI (own : String) (idx : Nat) (y : MethodName) (bytes : ByteArray) (maxL : Nat) (n : Nat) : Prop :=
  Cond.methodLink own idx y ∈ TG ∧ Cond.instanceMethod y ∈ TG ∧ Cond.initialized y.cls ∈ TG ∧ Cond.code y bytes maxL none ∈ TG ∧ y.name = "<init>" ∧
  (y.cls ≠ "java/lang/invoke/MethodHandle" ∧ y.cls ≠ "java/lang/invoke/VarHandle" ∧ (parseMethodDescriptor y.desc).map (fun d => d.parameters.length) = some n)
theorem tg_V {own : String} {idx : Nat} {C : String} {y : MethodName} {bytes : ByteArray} {maxL : Nat} {ret : Option FieldType} {n : Nat} (h : CV own idx C y bytes maxL ret n) : GoodIn TG (wsV own idx C y (Cond.code y bytes maxL ret :: TG)) := by
  obtain ⟨h1, h2, h3, h4, h5, -⟩ := h
  refine tg_all (fun w hw => ?_)
  unfold wsV at hw
  rcases List.mem_append.mp hw with hw | hw
  · simp only [List.mem_cons, List.not_mem_nil, or_false] at hw
    rcases hw with rfl | rfl | rfl | rfl
    · exact h1
    · exact h2
    · exact h3
    · exact h4
  · rcases List.mem_cons.mp hw with rfl | hw
    · exact h5
    · exact hw
theorem tg_S {own : String} {idx : Nat} {y : MethodName} {bytes : ByteArray} {maxL : Nat} {ret : Option FieldType} {n : Nat} (h : CS own idx y bytes maxL ret n) : GoodIn TG (va_wsS own idx y (Cond.code y bytes maxL ret :: TG)) := by
  obtain ⟨h1, h2, h3, h4, -⟩ := h
  refine tg_all (fun w hw => ?_)
  unfold va_wsS at hw
  rcases List.mem_append.mp hw with hw | hw
  · simp only [List.mem_cons, List.not_mem_nil, or_false] at hw
    rcases hw with rfl | rfl | rfl
    · exact h1
    · exact h2
    · exact h3
  · rcases List.mem_cons.mp hw with rfl | hw
    · exact h4
    · exact hw
/-- what a reading method that answers a long leaves -/
def QcReadL (r : Int64) : Array Value → State → Outcome → State → Prop := fun _ st o t => o = .returned (some (.long r)) ∧ t.heap = st.heap
/-- the words of nest mates' private members: no caller can hand them on as words, so the contracts' starts carry them -/
def isNest : Cond → Bool
  | .fieldLinkNest .. => true
  | .methodLinkNest .. => true
  | _ => false
def NW (U : State) : Prop := ∀ w ∈ lw_tbl, isNest w = true → va_Nw w U
theorem NW.warm {s U : State} (hW : s.WarmedH U.vm) (h : NW s) : NW U := by
  intro w hw hn
  have h1 := h w hw hn
  cases w with
  | fieldLinkNest a i b n d o => exact h1.warmF hW
  | methodLinkNest a i x o => exact h1.warmM hW
  | _ => cases hn
theorem NW.same {s U : State} (hv : s.vm = U.vm) (h : NW s) : NW U := by
  intro w hw hn
  have h1 := h w hw hn
  cases w with
  | fieldLinkNest a i b n d o => exact h1.same rfl hv
  | methodLinkNest a i x o => exact h1.same rfl hv
  | _ => cases hn
/-- the tables of one run: classes' numbers and slots; the array classes of long, int, boolean -/
abbrev GT : Type := va_G × ClassId × ClassId × ClassId
def KN (G : GT) (U : State) : Prop := va_K G.1 classes [(G.2.1, .long), (G.2.2.1, .int), (G.2.2.2, .boolean)] U ∧ NW U
theorem KN.warm {G : GT} {s U : State} (hW : s.WarmedH U.vm) (h : KN G s) : KN G U := ⟨va_K.moved hW.alike h.1, h.2.warm hW⟩
/-- a contract's start: the arguments, the heap, the tables -/
def PC (G : GT) (H : Heap) (av : List Value) : Array Value → State → Prop := va_Pc av (fun U => U.heap = H ∧ KN G U)
theorem PC.blind {G : GT} {H : Heap} {av : List Value} : FrameBlind (PC G H av) := by
  intro a U g mk h
  obtain ⟨h0, h1, h2, h3⟩ := h
  exact ⟨h0, h1, va_K.moved (u := U) (U := U.calling g mk a) (Vm.Alike.refl U.vm) h2, h3.same (s := U) (U := U.calling g mk a) rfl⟩
section PCalls
variable {p : Program} {l : Launch} {e : Env} {R : Room} {s : State} {m : MethodId} {args : Array Value} {below : List Frame} {meth : Method} {c : Code} {H : Heap} {locs : List Loc} {cells slots : Nat} {Q : State → Prop}
variable {pc : Nat} {ls : Array Slot} {rest st0 : List Value} {a : Array Value} {cc : ByteArray} {nL index n maxL : Nat} {own C host : String} {y : MethodName} {bytes : ByteArray} {ret : Option FieldType} {rm : Room} {G : GT} {b : Nat} {As : List Value}
theorem pr_i {r : Int32} (hr : va_Run p l e R s m args below meth c H locs cells slots 0 0 (F0 m pc ls st0) rest (QcRead r a) (fun _ => False)) (kk : W p l e R s m args below meth c H locs cells slots Q (F0 m (pc + 3) ls (.int r :: rest))) : W p l e R s m args below meth c H locs cells slots Q (F0 m pc ls st0) := by
  intro T hT X
  obtain ⟨v, st₀, t, T', L, h0, X', hL, e1, -, ⟨hv, hh⟩, st⟩ := hr T hT X
  cases hv
  obtain ⟨t2, a1, b1⟩ := kk T' (by rw [e1, hh, h0]) (Stand.forget X' (fun q h => (hL q h).elim))
  exact ⟨t2, st t2 a1, b1⟩
theorem pr_l {r : Int64} (hr : va_Run p l e R s m args below meth c H locs cells slots 0 0 (F0 m pc ls st0) rest (QcReadL r a) (fun _ => False)) (kk : W p l e R s m args below meth c H locs cells slots Q (F0 m (pc + 3) ls (.long r :: rest))) : W p l e R s m args below meth c H locs cells slots Q (F0 m pc ls st0) := by
  intro T hT X
  obtain ⟨v, st₀, t, T', L, h0, X', hL, e1, -, ⟨hv, hh⟩, st⟩ := hr T hT X
  cases hv
  obtain ⟨t2, a1, b1⟩ := kk T' (by rw [e1, hh, h0]) (Stand.forget X' (fun q h => (hL q h).elim))
  exact ⟨t2, st t2 a1, b1⟩
/-- a call: virtual; static; a nest mate's -/
theorem ru_V {Qc : Array Value → State → Outcome → State → Prop} {free : Addr → Prop} {mc ms : Nat} (S : CallFix p m c cc nL s args TG own) (hKN : KN G s)
    (hM : Met l y (Cond.code y bytes maxL ret :: TG) rm (PC G H (.ref b :: As)) Qc mc ms free) (hc : CV own index C y bytes maxL ret n) (hrm : rm.cells = mc ∧ rm.slots = ms)
    (hR : rm.frames + 1 ≤ R.frames ∧ 8 + (maxL + 11) + rm.locals ≤ R.locals) (hb : ∃ cell : Cell, H[b]? = some cell ∧ cell.vm.isStatics = false ∧ s.vm.findClass C = some cell.cls)
    (hn : As.length = n) (hsz : ls.size = nL) (hst : st0 = As.reverse ++ .ref b :: rest) (hcat : (rest.map fun v => v.category).sum ≤ 8) (hdg : decode cc pc = .ok (.invokevirtual index, 3)) (hf : cells + mc ≤ R.cells ∧ slots + ms ≤ R.slots) :
    va_Run p l e R s m args below meth c H locs cells slots mc ms (F0 m pc ls st0) rest (Qc (Value.ref b :: As).toArray) free :=
  va_runV (g := F0 m pc ls st0) S hM (cwV n S.2.2.2.2 (tg_V hc) rfl hrm.1 hrm.2 hc.2.2.2.2.2 hR) ⟨PC.blind, hb, fun U hU hW => ⟨rfl, hU, hKN.warm hW⟩⟩ rfl hn hsz hst (lv_room hcat) hdg hf
theorem ru_S {Qc : Array Value → State → Outcome → State → Prop} {free : Addr → Prop} {mc ms : Nat} (S : CallFix p m c cc nL s args TG own) (hKN : KN G s)
    (hM : Met l y (Cond.code y bytes maxL ret :: TG) rm (PC G H As) Qc mc ms free) (hc : CS own index y bytes maxL ret n) (hrm : rm.cells = mc ∧ rm.slots = ms)
    (hR : rm.frames + 1 ≤ R.frames ∧ 8 + (maxL + 11) + rm.locals ≤ R.locals)
    (hn : As.length = n) (hsz : ls.size = nL) (hst : st0 = As.reverse ++ rest) (hcat : (rest.map fun v => v.category).sum ≤ 8) (hdg : decode cc pc = .ok (.invokestatic index, 3)) (hf : cells + mc ≤ R.cells ∧ slots + ms ≤ R.slots) :
    va_Run p l e R s m args below meth c H locs cells slots mc ms (F0 m pc ls st0) rest (Qc As.toArray) free :=
  va_runS (g := F0 m pc ls st0) S hM (va_cwS n S.2.2.2.2 (tg_S hc) rfl hrm.1 hrm.2 hc.2.2.2.2 hR) ⟨PC.blind, fun U hU hW => ⟨rfl, hU, hKN.warm hW⟩⟩ rfl hn hsz hst (lv_room hcat) hdg hf
theorem ru_I {Qc : Array Value → State → Outcome → State → Prop} {free : Addr → Prop} {mc ms : Nat} (S : CallFix p m c cc nL s args TG own) (hKN : KN G s)
    (hM : Met l y (Cond.code y bytes maxL none :: TG) rm (PC G H (.ref b :: As)) Qc mc ms free) (hc : CI own index y bytes maxL n) (hrm : rm.cells = mc ∧ rm.slots = ms)
    (hR : rm.frames + 1 ≤ R.frames ∧ 8 + (maxL + 11) + rm.locals ≤ R.locals)
    (hn : As.length = n) (hsz : ls.size = nL) (hst : st0 = As.reverse ++ .ref b :: rest) (hcat : (rest.map fun v => v.category).sum ≤ 8) (hdg : decode cc pc = .ok (.invokespecial index, 3)) (hf : cells + mc ≤ R.cells ∧ slots + ms ≤ R.slots) :
    va_Run p l e R s m args below meth c H locs cells slots mc ms (F0 m pc ls st0) rest (Qc (Value.ref b :: As).toArray) free :=
  va_runI (g := F0 m pc ls st0) S hM (cwI n S.2.2.2.2 (tg_G hc.2.2.2.1) rfl hrm.1 hrm.2 (S.2.2.2.2 _ hc.2.2.1) (S.2.2.2.2 _ hc.1) (S.2.2.2.2 _ hc.2.1) hc.2.2.2.2.1 hc.2.2.2.2.2 hR) ⟨PC.blind, fun U hU hW => ⟨rfl, hU, hKN.warm hW⟩⟩ rfl hn hsz hst (lv_room hcat) hdg hf
/-- the words of a nest mate's private method -/
def CNS (own : String) (idx : Nat) (y : MethodName) (host : String) (bytes : ByteArray) (maxL : Nat) (ret : Option FieldType) (n : Nat) : Prop :=
  Cond.methodLinkNest own idx y host ∈ lw_tbl ∧ Cond.static y ∈ TG ∧ Cond.initialized y.cls ∈ TG ∧ Cond.code y bytes maxL ret ∈ TG ∧
  (y.cls ≠ "java/lang/invoke/MethodHandle" ∧ y.cls ≠ "java/lang/invoke/VarHandle" ∧ (parseMethodDescriptor y.desc).map (fun d => d.parameters.length) = some n)
def CNI (own : String) (idx : Nat) (y : MethodName) (host : String) (bytes : ByteArray) (maxL : Nat) (n : Nat) : Prop :=
  Cond.methodLinkNest own idx y host ∈ lw_tbl ∧ Cond.instanceMethod y ∈ TG ∧ Cond.initialized y.cls ∈ TG ∧ Cond.code y bytes maxL none ∈ TG ∧ y.name = "<init>" ∧
  (y.cls ≠ "java/lang/invoke/MethodHandle" ∧ y.cls ≠ "java/lang/invoke/VarHandle" ∧ (parseMethodDescriptor y.desc).map (fun d => d.parameters.length) = some n)
theorem ru_SN {Qc : Array Value → State → Outcome → State → Prop} {free : Addr → Prop} {mc ms : Nat} (S : CallFix p m c cc nL s args TG own) (hKN : KN G s)
    (hM : Met l y (Cond.code y bytes maxL ret :: TG) rm (PC G H As) Qc mc ms free) (hc : CNS own index y host bytes maxL ret n) (hrm : rm.cells = mc ∧ rm.slots = ms)
    (hR : rm.frames + 1 ≤ R.frames ∧ 8 + (maxL + 11) + rm.locals ≤ R.locals)
    (hn : As.length = n) (hsz : ls.size = nL) (hst : st0 = As.reverse ++ rest) (hcat : (rest.map fun v => v.category).sum ≤ 8) (hdg : decode cc pc = .ok (.invokestatic index, 3)) (hf : cells + mc ≤ R.cells ∧ slots + ms ≤ R.slots) :
    va_Run p l e R s m args below meth c H locs cells slots mc ms (F0 m pc ls st0) rest (Qc As.toArray) free :=
  va_runSN (g := F0 m pc ls st0) S hM ⟨va_cnB n S.2.2.2.2 (tg_G hc.2.2.2.1) rfl hrm.1 hrm.2 (hKN.2 _ hc.1 rfl) (S.2.2.2.2 _ hc.2.2.1) hc.2.2.2.2 hR, S.2.2.2.2 _ hc.2.1, trivial⟩ ⟨PC.blind, fun U hU hW => ⟨rfl, hU, hKN.warm hW⟩⟩ rfl hn hsz hst (lv_room hcat) hdg hf
theorem ru_IN {Qc : Array Value → State → Outcome → State → Prop} {free : Addr → Prop} {mc ms : Nat} (S : CallFix p m c cc nL s args TG own) (hKN : KN G s)
    (hM : Met l y (Cond.code y bytes maxL none :: TG) rm (PC G H (.ref b :: As)) Qc mc ms free) (hc : CNI own index y host bytes maxL n) (hrm : rm.cells = mc ∧ rm.slots = ms)
    (hR : rm.frames + 1 ≤ R.frames ∧ 8 + (maxL + 11) + rm.locals ≤ R.locals)
    (hn : As.length = n) (hsz : ls.size = nL) (hst : st0 = As.reverse ++ .ref b :: rest) (hcat : (rest.map fun v => v.category).sum ≤ 8) (hdg : decode cc pc = .ok (.invokespecial index, 3)) (hf : cells + mc ≤ R.cells ∧ slots + ms ≤ R.slots) :
    va_Run p l e R s m args below meth c H locs cells slots mc ms (F0 m pc ls st0) rest (Qc (Value.ref b :: As).toArray) free :=
  va_runIN (g := F0 m pc ls st0) S hM ⟨va_cnB n S.2.2.2.2 (tg_G hc.2.2.2.1) rfl hrm.1 hrm.2 (hKN.2 _ hc.1 rfl) (S.2.2.2.2 _ hc.2.2.1) hc.2.2.2.2.2 hR, hc.2.2.2.2.1, S.2.2.2.2 _ hc.2.1⟩ ⟨PC.blind, fun U hU hW => ⟨rfl, hU, hKN.warm hW⟩⟩ rfl hn hsz hst (lv_room hcat) hdg hf
end PCalls
/-- what a method that writes leaves: its answer, its cells' new contents, nothing else changed -/
def QMv (G : GT) (w1 : va_W) (A : Nat → Prop) : Array Value → State → Outcome → State → Prop := va_Qv (fun _ : Unit => True) (fun _ t => va_P G.1 classes w1 t.heap) A
def QMi (G : GT) (r : Int32) (w1 : va_W) (A : Nat → Prop) : Array Value → State → Outcome → State → Prop := va_Qi (fun r' (_ : Unit) => r' = r) (fun _ t => va_P G.1 classes w1 t.heap) A
def QMl (G : GT) (r : Int64) (w1 : va_W) (A : Nat → Prop) : Array Value → State → Outcome → State → Prop := va_Ql (fun r' (_ : Unit) => r' = r) (fun _ t => va_P G.1 classes w1 t.heap) A
theorem va_D.addr {A : Nat → Prop} {ws ws' : va_W} (h : va_D A ws) (e : ws'.map Prod.fst = ws.map Prod.fst) : va_D A ws' := by
  have key : ∀ (i : Nat) (q : Nat × va_E), ws'[i]? = some q → ∃ q', ws[i]? = some q' ∧ q'.1 = q.1 := by
    intro i q hq
    have h1 : (ws'.map Prod.fst)[i]? = some q.1 := by rw [List.getElem?_map, hq]; rfl
    rw [e, List.getElem?_map] at h1
    cases hw : ws[i]? with
    | none => rw [hw] at h1; cases h1
    | some q' => rw [hw] at h1; exact ⟨q', rfl, Option.some.inj h1⟩
  refine ⟨fun i j p q hp hq hpq => ?_, fun k q hq => ?_⟩
  · obtain ⟨p', a1, a2⟩ := key i p hp
    obtain ⟨q', b1, b2⟩ := key j q hq
    exact h.1 i j p' q' a1 b1 (by rw [a2, b2, hpq])
  · obtain ⟨q', b1, b2⟩ := key k q hq
    rw [← b2]
    exact h.2 k q' b1
section MCalls
variable {p : Program} {l : Launch} {e : Env} {R : Room} {s : State} {m : MethodId} {args : Array Value} {below : List Frame} {meth : Method} {c : Code} {H H0 : Heap} {locs : List Loc} {cells slots mc ms : Nat} {Q : State → Prop}
variable {pc : Nat} {ls : Array Slot} {rest st0 : List Value} {a : Array Value} {G : GT} {A0 : Nat → Prop} {ws wc wr w1 wn : va_W}
/-- behind a call that writes: the world in an order of my own -/
theorem mu_join (hP : va_P G.1 classes ws H) (hD : va_D A0 ws) (isC isR : List Nat) (hC : isC.map (fun i => ws[i]?) = wc.map some) (hR : isR.map (fun i => ws[i]?) = wr.map some) (hn : va_nd isR = true) (hdis : ∀ i ∈ isR, i ∉ isC) (ha : w1.map Prod.fst = wc.map Prod.fst) (hncC : va_nd isC = true)
    (hF : ∀ q, va_A wc H.size q → A0 q) {H1 : Heap} (hk : ∀ q : Nat, q < H.size → ¬ va_A wc H.size q → H1[q]? = H[q]?) (hP1 : va_P G.1 classes w1 H1) (isN : List Nat) (hN : isN.map (fun i => (wr ++ w1)[i]?) = wn.map some) (hnN : va_nd isN = true) : va_P G.1 classes wn H1 ∧ va_D A0 wn := by
  have hD1 : va_D (va_A wc H.size) w1 := (((hD.sub isC hncC hC).self (sz := H.size))).addr ha
  obtain ⟨h1, h2⟩ := va_join hP hD isC isR hC hR hn hdis hk hF hP1 hD1
  refine ⟨fun k q hq => ?_, h2.sub isN hnN hN⟩
  have h3 : (isN.map (fun i => (wr ++ w1)[i]?))[k]? = some (some q) := by rw [hN, List.getElem?_map, hq]; rfl
  rw [List.getElem?_map] at h3
  cases hi : isN[k]? with
  | none => rw [hi] at h3; cases h3
  | some i => rw [hi] at h3; exact h1 i q (Option.some.inj h3)
theorem mu_v (hr : va_Run p l e R s m args below meth c H locs cells slots mc ms (F0 m pc ls st0) rest (QMv G w1 (va_A wc H.size) a) (va_A wc H.size)) (hP : va_P G.1 classes ws H) (hD : va_D A0 ws) (hS : va_S A0 H0 H locs) (hA : ∀ q, H0.size ≤ q → A0 q)
    (isC isR isN : List Nat) (hC : isC.map (fun i => ws[i]?) = wc.map some) (hR : isR.map (fun i => ws[i]?) = wr.map some) (hn : va_nd isR = true ∧ va_nd isC = true ∧ va_nd isN = true) (hdis : ∀ i ∈ isR, i ∉ isC) (ha : w1.map Prod.fst = wc.map Prod.fst) (hN : isN.map (fun i => (wr ++ w1)[i]?) = wn.map some)
    (kk : ∀ (H : Heap) (locs : List Loc), va_P G.1 classes wn H → va_D A0 wn → va_S A0 H0 H locs → W p l e R s m args below meth c H locs (cells + mc) (slots + ms) Q (F0 m (pc + 3) ls rest)) : W p l e R s m args below meth c H locs cells slots Q (F0 m pc ls st0) := by
  have hF := va_free (wc := wc) hD hS hA isC hC
  refine va_callv hr hS (fun q _ h => hF q h) hF (fun u t H1 locs1 ht hvm hw hB hz1 hk1 hS1 => ?_)
  rw [ht] at hB
  obtain ⟨hP1, hD1⟩ := mu_join hP hD isC isR hC hR hn.1 hdis ha hn.2.1 hF hk1 hB isN hN hn.2.2
  exact kk H1 locs1 hP1 hD1 hS1
theorem mu_i {r : Int32} (hr : va_Run p l e R s m args below meth c H locs cells slots mc ms (F0 m pc ls st0) rest (QMi G r w1 (va_A wc H.size) a) (va_A wc H.size)) (hP : va_P G.1 classes ws H) (hD : va_D A0 ws) (hS : va_S A0 H0 H locs) (hA : ∀ q, H0.size ≤ q → A0 q)
    (isC isR isN : List Nat) (hC : isC.map (fun i => ws[i]?) = wc.map some) (hR : isR.map (fun i => ws[i]?) = wr.map some) (hn : va_nd isR = true ∧ va_nd isC = true ∧ va_nd isN = true) (hdis : ∀ i ∈ isR, i ∉ isC) (ha : w1.map Prod.fst = wc.map Prod.fst) (hN : isN.map (fun i => (wr ++ w1)[i]?) = wn.map some)
    (kk : ∀ (H : Heap) (locs : List Loc), va_P G.1 classes wn H → va_D A0 wn → va_S A0 H0 H locs → W p l e R s m args below meth c H locs (cells + mc) (slots + ms) Q (F0 m (pc + 3) ls (.int r :: rest))) : W p l e R s m args below meth c H locs cells slots Q (F0 m pc ls st0) := by
  have hF := va_free (wc := wc) hD hS hA isC hC
  refine va_calli hr hS (fun q _ h => hF q h) hF (fun r' u t H1 locs1 ht hvm hw hB hz1 hk1 hS1 => ?_)
  rw [ht] at hB
  subst hw
  obtain ⟨hP1, hD1⟩ := mu_join hP hD isC isR hC hR hn.1 hdis ha hn.2.1 hF hk1 hB isN hN hn.2.2
  exact kk H1 locs1 hP1 hD1 hS1
theorem mu_l {r : Int64} (hr : va_Run p l e R s m args below meth c H locs cells slots mc ms (F0 m pc ls st0) rest (QMl G r w1 (va_A wc H.size) a) (va_A wc H.size)) (hP : va_P G.1 classes ws H) (hD : va_D A0 ws) (hS : va_S A0 H0 H locs) (hA : ∀ q, H0.size ≤ q → A0 q)
    (isC isR isN : List Nat) (hC : isC.map (fun i => ws[i]?) = wc.map some) (hR : isR.map (fun i => ws[i]?) = wr.map some) (hn : va_nd isR = true ∧ va_nd isC = true ∧ va_nd isN = true) (hdis : ∀ i ∈ isR, i ∉ isC) (ha : w1.map Prod.fst = wc.map Prod.fst) (hN : isN.map (fun i => (wr ++ w1)[i]?) = wn.map some)
    (kk : ∀ (H : Heap) (locs : List Loc), va_P G.1 classes wn H → va_D A0 wn → va_S A0 H0 H locs → W p l e R s m args below meth c H locs (cells + mc) (slots + ms) Q (F0 m (pc + 3) ls (.long r :: rest))) : W p l e R s m args below meth c H locs cells slots Q (F0 m pc ls st0) := by
  have hF := va_free (wc := wc) hD hS hA isC hC
  refine va_calll hr hS (fun q _ h => hF q h) hF (fun r' u t H1 locs1 ht hvm hw hB hz1 hk1 hS1 => ?_)
  rw [ht] at hB
  subst hw
  obtain ⟨hP1, hD1⟩ := mu_join hP hD isC isR hC hR hn.1 hdis ha hn.2.1 hF hk1 hB isN hN hn.2.2
  exact kk H1 locs1 hP1 hD1 hS1
end MCalls
/-! the table of signs, which nobody writes -/
def sgn (j : Nat) : Int32 := ([31599, 11415, 29671, 29647, 23497, 31183, 31215, 29257, 31727, 31695] : List Int32).getD j 0
def ST (t : Nat) (U : State) (H : Heap) : Prop := va_Z "PostDrawer" "SIGNS" "[I" (.ref t) (fun _ => False) U H ∧ va_T .int t 10 (fun j => .int (sgn j)) (fun _ => False) U H
def PCS (G : GT) (H : Heap) (t : Nat) (av : List Value) : Array Value → State → Prop := va_Pc av (fun U => U.heap = H ∧ KN G U ∧ ST t U U.heap)
theorem PCS.blind {G : GT} {H : Heap} {t : Nat} {av : List Value} : FrameBlind (PCS G H t av) := by
  intro a U g mk h
  obtain ⟨h0, h1, ⟨h2, h3⟩, h4, h5⟩ := h
  exact ⟨h0, h1, ⟨va_K.moved (u := U) (U := U.calling g mk a) (Vm.Alike.refl U.vm) h2, h3.same (s := U) (U := U.calling g mk a) rfl⟩, va_Z.moved (u := U) (U := U.calling g mk a) (Vm.Alike.refl U.vm) h4, va_T.moved (u := U) (U := U.calling g mk a) (Vm.Alike.refl U.vm) h5⟩
section SCalls
variable {p : Program} {l : Launch} {e : Env} {R : Room} {s : State} {m : MethodId} {args : Array Value} {below : List Frame} {meth : Method} {c : Code} {H : Heap} {locs : List Loc} {cells slots : Nat} {Q : State → Prop}
variable {pc : Nat} {ls : Array Slot} {rest st0 : List Value} {a : Array Value} {cc : ByteArray} {nL index n maxL : Nat} {own C host : String} {y : MethodName} {bytes : ByteArray} {ret : Option FieldType} {rm : Room} {G : GT} {b tt : Nat} {As : List Value}
theorem ST.at {s U : State} {t : Nat} {H : Heap} (h : ST t s H) (hU : U.heap = H) (hW : s.WarmedH U.vm) : ST t U U.heap := by
  rw [hU]
  exact ⟨h.1.moved hW.alike, h.2.moved hW.alike⟩
theorem ru_SS {Qc : Array Value → State → Outcome → State → Prop} {free : Addr → Prop} {mc ms : Nat} (S : CallFix p m c cc nL s args TG own) (hKN : KN G s) (hST : ST tt s H)
    (hM : Met l y (Cond.code y bytes maxL ret :: TG) rm (PCS G H tt As) Qc mc ms free) (hc : CS own index y bytes maxL ret n) (hrm : rm.cells = mc ∧ rm.slots = ms)
    (hR : rm.frames + 1 ≤ R.frames ∧ 8 + (maxL + 11) + rm.locals ≤ R.locals)
    (hn : As.length = n) (hsz : ls.size = nL) (hst : st0 = As.reverse ++ rest) (hcat : (rest.map fun v => v.category).sum ≤ 8) (hdg : decode cc pc = .ok (.invokestatic index, 3)) (hf : cells + mc ≤ R.cells ∧ slots + ms ≤ R.slots) :
    va_Run p l e R s m args below meth c H locs cells slots mc ms (F0 m pc ls st0) rest (Qc As.toArray) free :=
  va_runS (g := F0 m pc ls st0) S hM (va_cwS n S.2.2.2.2 (tg_S hc) rfl hrm.1 hrm.2 hc.2.2.2.2 hR) ⟨PCS.blind, fun U hU hW => ⟨rfl, hU, hKN.warm hW, hST.at hU hW⟩⟩ rfl hn hsz hst (lv_room hcat) hdg hf
theorem ru_VS {Qc : Array Value → State → Outcome → State → Prop} {free : Addr → Prop} {mc ms : Nat} (S : CallFix p m c cc nL s args TG own) (hKN : KN G s) (hST : ST tt s H)
    (hM : Met l y (Cond.code y bytes maxL ret :: TG) rm (PCS G H tt (.ref b :: As)) Qc mc ms free) (hc : CV own index C y bytes maxL ret n) (hrm : rm.cells = mc ∧ rm.slots = ms)
    (hR : rm.frames + 1 ≤ R.frames ∧ 8 + (maxL + 11) + rm.locals ≤ R.locals) (hb : ∃ cell : Cell, H[b]? = some cell ∧ cell.vm.isStatics = false ∧ s.vm.findClass C = some cell.cls)
    (hn : As.length = n) (hsz : ls.size = nL) (hst : st0 = As.reverse ++ .ref b :: rest) (hcat : (rest.map fun v => v.category).sum ≤ 8) (hdg : decode cc pc = .ok (.invokevirtual index, 3)) (hf : cells + mc ≤ R.cells ∧ slots + ms ≤ R.slots) :
    va_Run p l e R s m args below meth c H locs cells slots mc ms (F0 m pc ls st0) rest (Qc (Value.ref b :: As).toArray) free :=
  va_runV (g := F0 m pc ls st0) S hM (cwV n S.2.2.2.2 (tg_V hc) rfl hrm.1 hrm.2 hc.2.2.2.2.2 hR) ⟨PCS.blind, hb, fun U hU hW => ⟨rfl, hU, hKN.warm hW, hST.at hU hW⟩⟩ rfl hn hsz hst (lv_room hcat) hdg hf
end SCalls
/-- two array classes of one name are one -/
theorem arr_one {D : va_G} {cl : List vw_C} {tys : List (ClassId × FieldType)} {s : State} (h : va_K D cl tys s) (i j : Nat) {c1 c2 : ClassId} {ty : FieldType} (hi : tys[i]? = some (c1, ty)) (hj : tys[j]? = some (c2, ty)) (hp : ty = .long ∨ ty = .int ∨ ty = .boolean) : c1 = c2 := by
  have h1 := (h.2 i _ hi).2
  have h2 := (h.2 j _ hj).2
  rcases hp with rfl | rfl | rfl
  · exact Option.some.inj (Eq.trans (Eq.symm h1) h2)
  · exact Option.some.inj (Eq.trans (Eq.symm h1) h2)
  · exact Option.some.inj (Eq.trans (Eq.symm h1) h2)
/-- what a constructor leaves: cells that it made are among its new world -/
def QN {S : Type} (G : GT) (w1 : S → va_W) (A : Nat → Prop) : Array Value → State → Outcome → State → Prop := va_Qv (fun _ : S => True) (fun q t => va_P G.1 classes (w1 q) t.heap ∧ va_D A (w1 q)) A
theorem mu_n {p : Program} {l : Launch} {e : Env} {R : Room} {s : State} {m : MethodId} {args : Array Value} {below : List Frame} {meth : Method} {c : Code} {H H0 : Heap} {locs : List Loc} {cells slots mc ms : Nat} {Q : State → Prop}
    {pc : Nat} {ls : Array Slot} {rest st0 : List Value} {a : Array Value} {G : GT} {A0 : Nat → Prop} {ws wc wr : va_W} {S : Type} {w1 : S → va_W} (hr : va_Run p l e R s m args below meth c H locs cells slots mc ms (F0 m pc ls st0) rest (QN G w1 (va_A wc H.size) a) (va_A wc H.size)) (hP : va_P G.1 classes ws H) (hD : va_D A0 ws) (hS : va_S A0 H0 H locs) (hA : ∀ q, H0.size ≤ q → A0 q)
    (isC isR : List Nat) (hC : isC.map (fun i => ws[i]?) = wc.map some) (hR : isR.map (fun i => ws[i]?) = wr.map some) (hn : va_nd isR = true) (hdis : ∀ i ∈ isR, i ∉ isC)
    (kk : ∀ (q : S) (H : Heap) (locs : List Loc), va_P G.1 classes (wr ++ w1 q) H → va_D A0 (wr ++ w1 q) → va_S A0 H0 H locs → W p l e R s m args below meth c H locs (cells + mc) (slots + ms) Q (F0 m (pc + 3) ls rest)) : W p l e R s m args below meth c H locs cells slots Q (F0 m pc ls st0) := by
  have hF := va_free (wc := wc) hD hS hA isC hC
  refine va_callv hr hS (fun q _ h => hF q h) hF (fun u t H1 locs1 ht hvm hw hB hz1 hk1 hS1 => ?_)
  obtain ⟨hP1, hD1⟩ := hB
  rw [ht] at hP1
  obtain ⟨h1, h2⟩ := va_join hP hD isC isR hC hR hn hdis hk1 hF hP1 hD1
  exact kk u H1 locs1 h1 h2 hS1
/-! the script, which nobody writes -/
def PCX (G : GT) (H : Heap) (b L : Nat) (xs : Nat → Int32) (av : List Value) : Array Value → State → Prop := va_Pc av (fun U => U.heap = H ∧ KN G U ∧ va_X b L xs U U.heap)
theorem PCX.blind {G : GT} {H : Heap} {b L : Nat} {xs : Nat → Int32} {av : List Value} : FrameBlind (PCX G H b L xs av) := by
  intro a U g mk h
  obtain ⟨h0, h1, ⟨h2, h3⟩, h4⟩ := h
  exact ⟨h0, h1, ⟨va_K.moved (u := U) (U := U.calling g mk a) (Vm.Alike.refl U.vm) h2, h3.same (s := U) (U := U.calling g mk a) rfl⟩, va_X.moved (u := U) (U := U.calling g mk a) (Vm.Alike.refl U.vm) h4⟩
theorem ru_SX {p : Program} {l : Launch} {e : Env} {R : Room} {s : State} {m : MethodId} {args : Array Value} {below : List Frame} {meth : Method} {c : Code} {H : Heap} {locs : List Loc} {cells slots : Nat}
    {pc : Nat} {ls : Array Slot} {rest st0 : List Value} {cc : ByteArray} {nL index n maxL : Nat} {own : String} {y : MethodName} {bytes : ByteArray} {ret : Option FieldType} {rm : Room} {G : GT} {b L : Nat} {xs : Nat → Int32} {As : List Value}
    {Qc : Array Value → State → Outcome → State → Prop} {free : Addr → Prop} {mc ms : Nat} (S : CallFix p m c cc nL s args TG own) (hKN : KN G s) (hX : va_X b L xs s H)
    (hM : Met l y (Cond.code y bytes maxL ret :: TG) rm (PCX G H b L xs As) Qc mc ms free) (hc : CS own index y bytes maxL ret n) (hrm : rm.cells = mc ∧ rm.slots = ms)
    (hR : rm.frames + 1 ≤ R.frames ∧ 8 + (maxL + 11) + rm.locals ≤ R.locals)
    (hn : As.length = n) (hsz : ls.size = nL) (hst : st0 = As.reverse ++ rest) (hcat : (rest.map fun v => v.category).sum ≤ 8) (hdg : decode cc pc = .ok (.invokestatic index, 3)) (hf : cells + mc ≤ R.cells ∧ slots + ms ≤ R.slots) :
    va_Run p l e R s m args below meth c H locs cells slots mc ms (F0 m pc ls st0) rest (Qc As.toArray) free :=
  va_runS (g := F0 m pc ls st0) S hM (va_cwS n S.2.2.2.2 (tg_S hc) rfl hrm.1 hrm.2 hc.2.2.2.2 hR) ⟨PCX.blind, fun U hU hW => ⟨rfl, hU, hKN.warm hW, by rw [hU]; exact hX.moved hW.alike⟩⟩ rfl hn hsz hst (lv_room hcat) hdg hf
end
section
theorem in_P : ∀ w ∈ u_ws R_P F_P 6, w ∈ TG := by
  intro w hw
  obtain ⟨k, hk, rfl⟩ := List.mem_map.mp hw
  have hk := List.mem_range.mp hk
  rcases (show k = 0 ∨ k = 1 ∨ k = 2 ∨ k = 3 ∨ k = 4 ∨ k = 5 by omega) with rfl | rfl | rfl | rfl | rfl | rfl
  · exact (tg_in (List.mem_append_right _ (List.mem_of_getElem? (i := 67) rfl)) rfl)
  · exact (tg_in (List.mem_append_right _ (List.mem_of_getElem? (i := 69) rfl)) rfl)
  · exact (tg_in (List.mem_append_right _ (List.mem_of_getElem? (i := 71) rfl)) rfl)
  · exact (tg_in (List.mem_append_right _ (List.mem_of_getElem? (i := 73) rfl)) rfl)
  · exact (tg_in (List.mem_append_right _ (List.mem_of_getElem? (i := 75) rfl)) rfl)
  · exact (tg_in (List.mem_append_right _ (List.mem_of_getElem? (i := 77) rfl)) rfl)
theorem in_D : ∀ w ∈ u_ws R_D F_D 5, w ∈ TG := by
  intro w hw
  obtain ⟨k, hk, rfl⟩ := List.mem_map.mp hw
  have hk := List.mem_range.mp hk
  rcases (show k = 0 ∨ k = 1 ∨ k = 2 ∨ k = 3 ∨ k = 4 by omega) with rfl | rfl | rfl | rfl | rfl
  · exact (tg_in (List.mem_append_right _ (List.mem_of_getElem? (i := 30) rfl)) rfl)
  · exact (tg_in (List.mem_append_right _ (List.mem_of_getElem? (i := 32) rfl)) rfl)
  · exact (tg_in (List.mem_append_right _ (List.mem_of_getElem? (i := 34) rfl)) rfl)
  · exact (tg_in (List.mem_append_right _ (List.mem_of_getElem? (i := 36) rfl)) rfl)
  · exact (tg_in (List.mem_append_right _ (List.mem_of_getElem? (i := 38) rfl)) rfl)
theorem in_V : ∀ w ∈ u_ws R_V F_V 3, w ∈ TG := by
  intro w hw
  obtain ⟨k, hk, rfl⟩ := List.mem_map.mp hw
  have hk := List.mem_range.mp hk
  rcases (show k = 0 ∨ k = 1 ∨ k = 2 by omega) with rfl | rfl | rfl
  · exact (tg_in (List.mem_append_right _ (List.mem_of_getElem? (i := 52) rfl)) rfl)
  · exact (tg_in (List.mem_append_right _ (List.mem_of_getElem? (i := 54) rfl)) rfl)
  · exact (tg_in (List.mem_append_right _ (List.mem_of_getElem? (i := 56) rfl)) rfl)
theorem in_M : ∀ w ∈ u_ws R_M F_M 10, w ∈ TG := by
  intro w hw
  obtain ⟨k, hk, rfl⟩ := List.mem_map.mp hw
  have hk := List.mem_range.mp hk
  rcases (show k = 0 ∨ k = 1 ∨ k = 2 ∨ k = 3 ∨ k = 4 ∨ k = 5 ∨ k = 6 ∨ k = 7 ∨ k = 8 ∨ k = 9 by omega) with rfl | rfl | rfl | rfl | rfl | rfl | rfl | rfl | rfl | rfl
  · exact (tg_in (List.mem_append_right _ (List.mem_of_getElem? (i := 245) rfl)) rfl)
  · exact (tg_in (List.mem_append_right _ (List.mem_of_getElem? (i := 247) rfl)) rfl)
  · exact (tg_in (List.mem_append_right _ (List.mem_of_getElem? (i := 249) rfl)) rfl)
  · exact (tg_in (List.mem_append_right _ (List.mem_of_getElem? (i := 251) rfl)) rfl)
  · exact (tg_in (List.mem_append_right _ (List.mem_of_getElem? (i := 253) rfl)) rfl)
  · exact (tg_in (List.mem_append_right _ (List.mem_of_getElem? (i := 255) rfl)) rfl)
  · exact (tg_in (List.mem_append_right _ (List.mem_of_getElem? (i := 257) rfl)) rfl)
  · exact (tg_in (List.mem_append_right _ (List.mem_of_getElem? (i := 259) rfl)) rfl)
  · exact (tg_in (List.mem_append_right _ (List.mem_of_getElem? (i := 261) rfl)) rfl)
  · exact (tg_in (List.mem_append_right _ (List.mem_of_getElem? (i := 263) rfl)) rfl)
theorem kf_D_23 : Cond.fieldLink R_D 23 "PostDrawer$Drawing" "count" "I" ∈ TG := (tg_in (List.mem_append_right _ (List.mem_of_getElem? (i := 26) rfl)) rfl)
theorem kc_D_46 : CV R_D 46 R_D y_D_has b_D_has 2 (some .boolean) 1 := ⟨(tg_in (List.mem_append_right _ (List.mem_of_getElem? (i := 120) rfl)) rfl), (tg_in (List.mem_append_right _ (List.mem_of_getElem? (i := 121) rfl)) rfl), (tg_in (List.mem_append_right _ (List.mem_of_getElem? (i := 122) rfl)) rfl), (tg_in (List.mem_append_right _ (List.mem_of_getElem? (i := 2) rfl)) rfl), (tg_in (List.mem_append_right _ (List.mem_of_getElem? (i := 123) rfl)) rfl), rfl, by decide +kernel, by decide +kernel, by decide +kernel⟩
theorem kf_D_26 : Cond.fieldLink R_D 26 "PostDrawer$Drawing" "faultBits" "I" ∈ TG := (tg_in (List.mem_append_right _ (List.mem_of_getElem? (i := 28) rfl)) rfl)
theorem kf_D_9 : Cond.fieldLink R_D 9 "PostDrawer$Drawing" "numbers" "[J" ∈ TG := (tg_in (List.mem_append_right _ (List.mem_of_getElem? (i := 21) rfl)) rfl)
theorem kl_D_50 : Cond.constantLong R_D 50 2 ∈ TG := (tg_in (List.mem_append_right _ (List.mem_of_getElem? (i := 146) rfl)) rfl)
theorem kl_D_52 : Cond.constantLong R_D 52 50 ∈ TG := (tg_in (List.mem_append_right _ (List.mem_of_getElem? (i := 147) rfl)) rfl)
theorem kl_D_54 : Cond.constantLong R_D 54 1000 ∈ TG := (tg_in (List.mem_append_right _ (List.mem_of_getElem? (i := 148) rfl)) rfl)
theorem kl_D_56 : Cond.constantLong R_D 56 24 ∈ TG := (tg_in (List.mem_append_right _ (List.mem_of_getElem? (i := 149) rfl)) rfl)
theorem kl_D_68 : Cond.constantLong R_D 68 (-9223372036854775808) ∈ TG := (tg_in (List.mem_append_right _ (List.mem_of_getElem? (i := 124) rfl)) rfl)
theorem kl_P_123 : Cond.constantLong R_P 123 64 ∈ TG := (tg_in (List.mem_append_right _ (List.mem_of_getElem? (i := 104) rfl)) rfl)
theorem kl_P_125 : Cond.constantLong R_P 125 (-7046029254386353131) ∈ TG := (tg_in (List.mem_append_right _ (List.mem_of_getElem? (i := 105) rfl)) rfl)
theorem kl_P_127 : Cond.constantLong R_P 127 (-4658895280553007687) ∈ TG := (tg_in (List.mem_append_right _ (List.mem_of_getElem? (i := 106) rfl)) rfl)
theorem kl_P_129 : Cond.constantLong R_P 129 (-7723592293110705685) ∈ TG := (tg_in (List.mem_append_right _ (List.mem_of_getElem? (i := 107) rfl)) rfl)
theorem kc_D_62 : CV R_D 62 R_D y_D_isAbove b_D_isAbove 7 (some .boolean) 2 := ⟨(tg_in (List.mem_append_right _ (List.mem_of_getElem? (i := 116) rfl)) rfl), (tg_in (List.mem_append_right _ (List.mem_of_getElem? (i := 118) rfl)) rfl), (tg_in (List.mem_append_left _ (by decide +kernel)) rfl), (tg_in (List.mem_append_right _ (List.mem_of_getElem? (i := 2) rfl)) rfl), (tg_in (List.mem_append_right _ (List.mem_of_getElem? (i := 119) rfl)) rfl), rfl, by decide +kernel, by decide +kernel, by decide +kernel⟩
theorem kc_D_58 : CV R_D 58 R_D y_D_countAbove b_D_countAbove 4 (some .int) 1 := ⟨(tg_in (List.mem_append_right _ (List.mem_of_getElem? (i := 112) rfl)) rfl), (tg_in (List.mem_append_right _ (List.mem_of_getElem? (i := 114) rfl)) rfl), (tg_in (List.mem_append_left _ (by decide +kernel)) rfl), (tg_in (List.mem_append_right _ (List.mem_of_getElem? (i := 2) rfl)) rfl), (tg_in (List.mem_append_right _ (List.mem_of_getElem? (i := 115) rfl)) rfl), rfl, by decide +kernel, by decide +kernel, by decide +kernel⟩
theorem kf_V_19 : Cond.fieldLink R_V 19 "PostDrawer$Verdicts" "count" "I" ∈ TG := (tg_in (List.mem_append_right _ (List.mem_of_getElem? (i := 50) rfl)) rfl)
theorem kf_V_9 : Cond.fieldLink R_V 9 "PostDrawer$Verdicts" "sets" "[I" ∈ TG := (tg_in (List.mem_append_right _ (List.mem_of_getElem? (i := 48) rfl)) rfl)
theorem kc_V_23 : CV R_V 23 R_V y_V_find b_V_find 3 (some .int) 1 := ⟨(tg_in (List.mem_append_right _ (List.mem_of_getElem? (i := 177) rfl)) rfl), (tg_in (List.mem_append_right _ (List.mem_of_getElem? (i := 179) rfl)) rfl), (tg_in (List.mem_append_left _ (by decide +kernel)) rfl), (tg_in (List.mem_append_right _ (List.mem_of_getElem? (i := 3) rfl)) rfl), (tg_in (List.mem_append_right _ (List.mem_of_getElem? (i := 180) rfl)) rfl), rfl, by decide +kernel, by decide +kernel, by decide +kernel⟩
theorem kf_V_15 : Cond.fieldLink R_V 15 "PostDrawer$Verdicts" "stays" "[Z" ∈ TG := (tg_in (List.mem_append_right _ (List.mem_of_getElem? (i := 49) rfl)) rfl)
theorem kf_D_15 : Cond.fieldLink R_D 15 "PostDrawer$Drawing" "seed" "J" ∈ TG := (tg_in (List.mem_append_right _ (List.mem_of_getElem? (i := 22) rfl)) rfl)
theorem kf_D_19 : Cond.fieldLink R_D 19 "PostDrawer$Drawing" "kind" "I" ∈ TG := (tg_in (List.mem_append_right _ (List.mem_of_getElem? (i := 24) rfl)) rfl)
theorem km_D_29 : Cond.methodLink R_D 29 Lib.Math.min.name ∈ TG := (tg_in (List.mem_append_right _ (List.mem_of_getElem? (i := 95) rfl)) rfl)
theorem kms_min : Cond.static Lib.Math.min.name ∈ TG := (tg_in (List.mem_append_right _ (List.mem_of_getElem? (i := 96) rfl)) rfl)
theorem kmi : Cond.initialized "java/lang/Math" ∈ TG := (tg_in (List.mem_append_right _ (List.mem_of_getElem? (i := 5) rfl)) rfl)
theorem kmc_min : Cond.code Lib.Math.min.name Lib.Math.min.code 2 (some .int) ∈ TG := (tg_in (List.mem_append_right _ (List.mem_of_getElem? (i := 97) rfl)) rfl)
theorem km_D_35 : Cond.methodLink R_D 35 Lib.Math.max.name ∈ TG := (tg_in (List.mem_append_right _ (List.mem_of_getElem? (i := 98) rfl)) rfl)
theorem kms_max : Cond.static Lib.Math.max.name ∈ TG := (tg_in (List.mem_append_right _ (List.mem_of_getElem? (i := 99) rfl)) rfl)
theorem kmc_max : Cond.code Lib.Math.max.name Lib.Math.max.code 2 (some .int) ∈ TG := (tg_in (List.mem_append_right _ (List.mem_of_getElem? (i := 100) rfl)) rfl)
theorem kc_D_42 : CV R_D 42 R_D y_D_greaterHalf b_D_greaterHalf 3 (some .int) 0 := ⟨(tg_in (List.mem_append_right _ (List.mem_of_getElem? (i := 108) rfl)) rfl), (tg_in (List.mem_append_right _ (List.mem_of_getElem? (i := 110) rfl)) rfl), (tg_in (List.mem_append_left _ (by decide +kernel)) rfl), (tg_in (List.mem_append_right _ (List.mem_of_getElem? (i := 2) rfl)) rfl), (tg_in (List.mem_append_right _ (List.mem_of_getElem? (i := 111) rfl)) rfl), rfl, by decide +kernel, by decide +kernel, by decide +kernel⟩
theorem kc_D_38 : CNS R_D 38 y_P_number "PostDrawer" b_P_number 6 (some .long) 3 := ⟨(List.mem_append_right _ (List.mem_of_getElem? (i := 101) rfl)), (tg_in (List.mem_append_right _ (List.mem_of_getElem? (i := 102) rfl)) rfl), (tg_in (List.mem_append_right _ (List.mem_of_getElem? (i := 1) rfl)) rfl), (tg_in (List.mem_append_right _ (List.mem_of_getElem? (i := 103) rfl)) rfl), by decide +kernel, by decide +kernel, by decide +kernel⟩
theorem kf_P_7 : Cond.fieldLink R_P 7 "PostDrawer" "nextSeed" "J" ∈ TG := (tg_in (List.mem_append_right _ (List.mem_of_getElem? (i := 65) rfl)) rfl)
theorem kf_P_20 : Cond.fieldLink R_P 20 "PostDrawer" "drawn" "LPostDrawer$Drawing;" ∈ TG := (tg_in (List.mem_append_right _ (List.mem_of_getElem? (i := 61) rfl)) rfl)
theorem kc_P_55 : CV R_P 55 R_D y_D_has b_D_has 2 (some .boolean) 1 := ⟨(tg_in (List.mem_append_right _ (List.mem_of_getElem? (i := 137) rfl)) rfl), (tg_in (List.mem_append_right _ (List.mem_of_getElem? (i := 121) rfl)) rfl), (tg_in (List.mem_append_right _ (List.mem_of_getElem? (i := 122) rfl)) rfl), (tg_in (List.mem_append_right _ (List.mem_of_getElem? (i := 2) rfl)) rfl), (tg_in (List.mem_append_right _ (List.mem_of_getElem? (i := 123) rfl)) rfl), rfl, by decide +kernel, by decide +kernel, by decide +kernel⟩
theorem kc_P_62 : CV R_P 62 R_D y_D_fact b_D_fact 5 (some .int) 2 := ⟨(tg_in (List.mem_append_right _ (List.mem_of_getElem? (i := 142) rfl)) rfl), (tg_in (List.mem_append_right _ (List.mem_of_getElem? (i := 143) rfl)) rfl), (tg_in (List.mem_append_right _ (List.mem_of_getElem? (i := 144) rfl)) rfl), (tg_in (List.mem_append_right _ (List.mem_of_getElem? (i := 2) rfl)) rfl), (tg_in (List.mem_append_right _ (List.mem_of_getElem? (i := 145) rfl)) rfl), rfl, by decide +kernel, by decide +kernel, by decide +kernel⟩
theorem kc_P_59 : CV R_P 59 R_D y_D_hasFaults b_D_hasFaults 2 (some .boolean) 1 := ⟨(tg_in (List.mem_append_right _ (List.mem_of_getElem? (i := 138) rfl)) rfl), (tg_in (List.mem_append_right _ (List.mem_of_getElem? (i := 139) rfl)) rfl), (tg_in (List.mem_append_right _ (List.mem_of_getElem? (i := 140) rfl)) rfl), (tg_in (List.mem_append_right _ (List.mem_of_getElem? (i := 2) rfl)) rfl), (tg_in (List.mem_append_right _ (List.mem_of_getElem? (i := 141) rfl)) rfl), rfl, by decide +kernel, by decide +kernel, by decide +kernel⟩
theorem kn_P_66 : Cond.fieldLinkNest R_P 66 "PostDrawer$Drawing" "kind" "I" "PostDrawer" ∈ lw_tbl := (List.mem_append_right _ (List.mem_of_getElem? (i := 25) rfl))
theorem kf_P_13 : Cond.fieldLink R_P 13 "PostDrawer" "leftBits" "I" ∈ TG := (tg_in (List.mem_append_right _ (List.mem_of_getElem? (i := 66) rfl)) rfl)
theorem kf_P_33 : Cond.fieldLink R_P 33 "PostDrawer" "verdicts" "LPostDrawer$Verdicts;" ∈ TG := (tg_in (List.mem_append_right _ (List.mem_of_getElem? (i := 62) rfl)) rfl)
theorem kc_P_89 : CV R_P 89 R_V y_V_stayFor b_V_stayFor 3 (some .boolean) 1 := ⟨(tg_in (List.mem_append_right _ (List.mem_of_getElem? (i := 185) rfl)) rfl), (tg_in (List.mem_append_right _ (List.mem_of_getElem? (i := 186) rfl)) rfl), (tg_in (List.mem_append_right _ (List.mem_of_getElem? (i := 187) rfl)) rfl), (tg_in (List.mem_append_right _ (List.mem_of_getElem? (i := 3) rfl)) rfl), (tg_in (List.mem_append_right _ (List.mem_of_getElem? (i := 188) rfl)) rfl), rfl, by decide +kernel, by decide +kernel, by decide +kernel⟩
theorem kc_P_80 : CV R_P 80 R_D y_D_isEmpty b_D_isEmpty 1 (some .boolean) 0 := ⟨(tg_in (List.mem_append_right _ (List.mem_of_getElem? (i := 169) rfl)) rfl), (tg_in (List.mem_append_right _ (List.mem_of_getElem? (i := 170) rfl)) rfl), (tg_in (List.mem_append_right _ (List.mem_of_getElem? (i := 171) rfl)) rfl), (tg_in (List.mem_append_right _ (List.mem_of_getElem? (i := 2) rfl)) rfl), (tg_in (List.mem_append_right _ (List.mem_of_getElem? (i := 172) rfl)) rfl), rfl, by decide +kernel, by decide +kernel, by decide +kernel⟩
theorem kc_P_101 : CV R_P 101 R_P y_P_canLeaveOut b_P_canLeaveOut 3 (some .boolean) 1 := ⟨(tg_in (List.mem_append_right _ (List.mem_of_getElem? (i := 197) rfl)) rfl), (tg_in (List.mem_append_right _ (List.mem_of_getElem? (i := 199) rfl)) rfl), (tg_in (List.mem_append_left _ (by decide +kernel)) rfl), (tg_in (List.mem_append_right _ (List.mem_of_getElem? (i := 1) rfl)) rfl), (tg_in (List.mem_append_right _ (List.mem_of_getElem? (i := 200) rfl)) rfl), rfl, by decide +kernel, by decide +kernel, by decide +kernel⟩
theorem kc_P_108 : CV R_P 108 R_P y_P_goThrough b_P_goThrough 2 none 0 := ⟨(tg_in (List.mem_append_right _ (List.mem_of_getElem? (i := 193) rfl)) rfl), (tg_in (List.mem_append_right _ (List.mem_of_getElem? (i := 195) rfl)) rfl), (tg_in (List.mem_append_left _ (by decide +kernel)) rfl), (tg_in (List.mem_append_right _ (List.mem_of_getElem? (i := 1) rfl)) rfl), (tg_in (List.mem_append_right _ (List.mem_of_getElem? (i := 196) rfl)) rfl), rfl, by decide +kernel, by decide +kernel, by decide +kernel⟩
theorem kc_P_37 : CS R_P 37 y_P_isDrawable b_P_isDrawable 2 (some .boolean) 2 := ⟨(tg_in (List.mem_append_right _ (List.mem_of_getElem? (i := 88) rfl)) rfl), (tg_in (List.mem_append_right _ (List.mem_of_getElem? (i := 89) rfl)) rfl), (tg_in (List.mem_append_right _ (List.mem_of_getElem? (i := 1) rfl)) rfl), (tg_in (List.mem_append_right _ (List.mem_of_getElem? (i := 90) rfl)) rfl), by decide +kernel, by decide +kernel, by decide +kernel⟩
theorem kc_P_41 : CV R_P 41 R_D y_D_fill b_D_fill 6 none 3 := ⟨(tg_in (List.mem_append_right _ (List.mem_of_getElem? (i := 91) rfl)) rfl), (tg_in (List.mem_append_right _ (List.mem_of_getElem? (i := 92) rfl)) rfl), (tg_in (List.mem_append_right _ (List.mem_of_getElem? (i := 93) rfl)) rfl), (tg_in (List.mem_append_right _ (List.mem_of_getElem? (i := 2) rfl)) rfl), (tg_in (List.mem_append_right _ (List.mem_of_getElem? (i := 94) rfl)) rfl), rfl, by decide +kernel, by decide +kernel, by decide +kernel⟩
theorem kc_P_45 : CV R_P 45 R_D y_D_allBits b_D_allBits 1 (some .int) 0 := ⟨(tg_in (List.mem_append_right _ (List.mem_of_getElem? (i := 125) rfl)) rfl), (tg_in (List.mem_append_right _ (List.mem_of_getElem? (i := 126) rfl)) rfl), (tg_in (List.mem_append_right _ (List.mem_of_getElem? (i := 127) rfl)) rfl), (tg_in (List.mem_append_right _ (List.mem_of_getElem? (i := 2) rfl)) rfl), (tg_in (List.mem_append_right _ (List.mem_of_getElem? (i := 128) rfl)) rfl), rfl, by decide +kernel, by decide +kernel, by decide +kernel⟩
theorem kc_P_49 : CV R_P 49 R_V y_V_forget b_V_forget 1 none 0 := ⟨(tg_in (List.mem_append_right _ (List.mem_of_getElem? (i := 129) rfl)) rfl), (tg_in (List.mem_append_right _ (List.mem_of_getElem? (i := 130) rfl)) rfl), (tg_in (List.mem_append_right _ (List.mem_of_getElem? (i := 131) rfl)) rfl), (tg_in (List.mem_append_right _ (List.mem_of_getElem? (i := 3) rfl)) rfl), (tg_in (List.mem_append_right _ (List.mem_of_getElem? (i := 132) rfl)) rfl), rfl, by decide +kernel, by decide +kernel, by decide +kernel⟩
theorem kn_P_52 : Cond.fieldLinkNest R_P 52 "PostDrawer$Drawing" "count" "I" "PostDrawer" ∈ lw_tbl := (List.mem_append_right _ (List.mem_of_getElem? (i := 27) rfl))
theorem kc_P_84 : CV R_P 84 R_V y_V_tell b_V_tell 4 (some .boolean) 2 := ⟨(tg_in (List.mem_append_right _ (List.mem_of_getElem? (i := 173) rfl)) rfl), (tg_in (List.mem_append_right _ (List.mem_of_getElem? (i := 174) rfl)) rfl), (tg_in (List.mem_append_right _ (List.mem_of_getElem? (i := 175) rfl)) rfl), (tg_in (List.mem_append_right _ (List.mem_of_getElem? (i := 3) rfl)) rfl), (tg_in (List.mem_append_right _ (List.mem_of_getElem? (i := 176) rfl)) rfl), rfl, by decide +kernel, by decide +kernel, by decide +kernel⟩
theorem kn_P_88 : Cond.fieldLinkNest R_P 88 "PostDrawer$Verdicts" "count" "I" "PostDrawer" ∈ lw_tbl := (List.mem_append_right _ (List.mem_of_getElem? (i := 51) rfl))
theorem kn_P_131 : Cond.fieldLinkNest R_P 131 "PostDrawer$Drawing" "faultBits" "I" "PostDrawer" ∈ lw_tbl := (List.mem_append_right _ (List.mem_of_getElem? (i := 29) rfl))
theorem kc_P_115 : CS R_P 115 y_P_number b_P_number 6 (some .long) 3 := ⟨(tg_in (List.mem_append_right _ (List.mem_of_getElem? (i := 162) rfl)) rfl), (tg_in (List.mem_append_right _ (List.mem_of_getElem? (i := 102) rfl)) rfl), (tg_in (List.mem_append_right _ (List.mem_of_getElem? (i := 1) rfl)) rfl), (tg_in (List.mem_append_right _ (List.mem_of_getElem? (i := 103) rfl)) rfl), by decide +kernel, by decide +kernel, by decide +kernel⟩
theorem kl_P_119 : Cond.constantLong R_P 119 2 ∈ TG := (tg_in (List.mem_append_right _ (List.mem_of_getElem? (i := 163) rfl)) rfl)
theorem kl_P_121 : Cond.constantLong R_P 121 33 ∈ TG := (tg_in (List.mem_append_right _ (List.mem_of_getElem? (i := 164) rfl)) rfl)
theorem kf_P_111 : Cond.fieldLink R_P 111 "PostDrawer" "SIGNS" "[I" ∈ TG := (tg_in (List.mem_append_right _ (List.mem_of_getElem? (i := 157) rfl)) rfl)
theorem kc_P_69 : CS R_P 69 y_P_isInked b_P_isInked 4 (some .boolean) 3 := ⟨(tg_in (List.mem_append_right _ (List.mem_of_getElem? (i := 154) rfl)) rfl), (tg_in (List.mem_append_right _ (List.mem_of_getElem? (i := 155) rfl)) rfl), (tg_in (List.mem_append_right _ (List.mem_of_getElem? (i := 1) rfl)) rfl), (tg_in (List.mem_append_right _ (List.mem_of_getElem? (i := 156) rfl)) rfl), by decide +kernel, by decide +kernel, by decide +kernel⟩
theorem kn_P_73 : Cond.fieldLinkNest R_P 73 "PostDrawer$Drawing" "seed" "J" "PostDrawer" ∈ lw_tbl := (List.mem_append_right _ (List.mem_of_getElem? (i := 23) rfl))
theorem kc_P_76 : CS R_P 76 y_P_noise b_P_noise 9 (some .int) 4 := ⟨(tg_in (List.mem_append_right _ (List.mem_of_getElem? (i := 159) rfl)) rfl), (tg_in (List.mem_append_right _ (List.mem_of_getElem? (i := 160) rfl)) rfl), (tg_in (List.mem_append_right _ (List.mem_of_getElem? (i := 1) rfl)) rfl), (tg_in (List.mem_append_right _ (List.mem_of_getElem? (i := 161) rfl)) rfl), by decide +kernel, by decide +kernel, by decide +kernel⟩
theorem km_D_3 : Cond.methodLink R_D 3 Lib.objectInit ∈ TG := (tg_in (List.mem_append_right _ (List.mem_of_getElem? (i := 20) rfl)) rfl)
theorem k_objI : Cond.instanceMethod Lib.objectInit ∈ TG := (tg_in (List.mem_append_right _ (List.mem_of_getElem? (i := 13) rfl)) rfl)
theorem k_objC : Cond.code Lib.objectInit ⟨#[0xb1]⟩ 1 none ∈ TG := (tg_in (List.mem_append_right _ (List.mem_of_getElem? (i := 14) rfl)) rfl)
theorem k_arr_long : Cond.arrayClass .long ∈ TG := (tg_in (List.mem_append_right _ (List.mem_of_getElem? (i := 41) rfl)) rfl)
theorem km_V_3 : Cond.methodLink R_V 3 Lib.objectInit ∈ TG := (tg_in (List.mem_append_right _ (List.mem_of_getElem? (i := 47) rfl)) rfl)
theorem k_arr_int : Cond.arrayClass .int ∈ TG := (tg_in (List.mem_append_right _ (List.mem_of_getElem? (i := 59) rfl)) rfl)
theorem k_arr_boolean : Cond.arrayClass .boolean ∈ TG := (tg_in (List.mem_append_right _ (List.mem_of_getElem? (i := 60) rfl)) rfl)
theorem km_P_1 : Cond.methodLink R_P 1 Lib.objectInit ∈ TG := (tg_in (List.mem_append_right _ (List.mem_of_getElem? (i := 12) rfl)) rfl)
theorem kw_P_17 : Cond.classLink R_P 17 R_D ∈ TG := (tg_in (List.mem_append_right _ (List.mem_of_getElem? (i := 15) rfl)) rfl)
theorem ki_D : Cond.instantiable R_D 5 ∈ TG := (tg_in (List.mem_append_right _ (List.mem_of_getElem? (i := 16) rfl)) rfl)
theorem kz_D : Cond.initialized R_D ∈ TG := (tg_in (List.mem_append_right _ (List.mem_of_getElem? (i := 2) rfl)) rfl)
theorem kc_P_19 : CNI R_P 19 y_D_init "PostDrawer" b_D_init 1 0 := ⟨(List.mem_append_right _ (List.mem_of_getElem? (i := 17) rfl)), (tg_in (List.mem_append_right _ (List.mem_of_getElem? (i := 18) rfl)) rfl), (tg_in (List.mem_append_right _ (List.mem_of_getElem? (i := 2) rfl)) rfl), (tg_in (List.mem_append_right _ (List.mem_of_getElem? (i := 19) rfl)) rfl), rfl, by decide +kernel, by decide +kernel, by decide +kernel⟩
theorem kf_P_24 : Cond.fieldLink R_P 24 "PostDrawer" "ours" "LPostDrawer$Drawing;" ∈ TG := (tg_in (List.mem_append_right _ (List.mem_of_getElem? (i := 63) rfl)) rfl)
theorem kf_P_27 : Cond.fieldLink R_P 27 "PostDrawer" "theirs" "LPostDrawer$Drawing;" ∈ TG := (tg_in (List.mem_append_right _ (List.mem_of_getElem? (i := 64) rfl)) rfl)
theorem kw_P_30 : Cond.classLink R_P 30 R_V ∈ TG := (tg_in (List.mem_append_right _ (List.mem_of_getElem? (i := 42) rfl)) rfl)
theorem ki_V : Cond.instantiable R_V 3 ∈ TG := (tg_in (List.mem_append_right _ (List.mem_of_getElem? (i := 43) rfl)) rfl)
theorem kz_V : Cond.initialized R_V ∈ TG := (tg_in (List.mem_append_right _ (List.mem_of_getElem? (i := 3) rfl)) rfl)
theorem kc_P_32 : CNI R_P 32 y_V_init "PostDrawer" b_V_init 1 0 := ⟨(List.mem_append_right _ (List.mem_of_getElem? (i := 44) rfl)), (tg_in (List.mem_append_right _ (List.mem_of_getElem? (i := 45) rfl)) rfl), (tg_in (List.mem_append_right _ (List.mem_of_getElem? (i := 3) rfl)) rfl), (tg_in (List.mem_append_right _ (List.mem_of_getElem? (i := 46) rfl)) rfl), rfl, by decide +kernel, by decide +kernel, by decide +kernel⟩
theorem kc_P_104 : CS R_P 104 y_P_haveSameParts b_P_haveSameParts 4 (some .boolean) 2 := ⟨(tg_in (List.mem_append_right _ (List.mem_of_getElem? (i := 223) rfl)) rfl), (tg_in (List.mem_append_right _ (List.mem_of_getElem? (i := 224) rfl)) rfl), (tg_in (List.mem_append_right _ (List.mem_of_getElem? (i := 1) rfl)) rfl), (tg_in (List.mem_append_right _ (List.mem_of_getElem? (i := 225) rfl)) rfl), by decide +kernel, by decide +kernel, by decide +kernel⟩
end
section
def fn_D_isEmpty (n : Nat) : Int32 := (if nI n = 0 then 1 else 0)
set_option maxHeartbeats 4000000 in
set_option maxRecDepth 100000 in
theorem c_D_isEmpty (l : Launch) (G : GT) (H : Heap) (a : Nat) (b : Nat) (sd : Int64) (k : Int32) (n : Nat) (fb : Int32) (f : Nat → Int64) (hP : va_P G.1 classes [(a, .inr (1, [.ref b, .long sd, .int k, .int (nI n), .int fb])), (b, .inl (G.2.1, 16, .inr (.inl f)))] H) (hn : n ≤ 16) : Met l y_D_isEmpty (Cond.code y_D_isEmpty b_D_isEmpty 1 (some .boolean) :: TG) ({ frames := 0, cells := 0, slots := 0, locals := 0 }) (PC G H [.ref a]) (QcRead (fn_D_isEmpty n)) 0 0 (fun _ => False) := by
  refine Met.ofW (cc := b_D_isEmpty) (maxL := 1) (ret := (some .boolean)) (by decide) rfl ?_
  intro p e s m args below meth c s₁ B hml hv
  obtain ⟨rfl, hH, hKN⟩ := hv
  subst hH
  have hx := B.exec
  have hb := B.bytes
  have hr := B.returns
  have hts := atoms_spec (ws := (Cond.code y_D_isEmpty b_D_isEmpty 1 (some .boolean) :: TG)) B.pre
  have ht : ∀ w ∈ TG, w.before _ s = true := fun w h => hts w (List.mem_cons_of_mem _ h)
  have hown : s.vm.findClass R_D = some m.cls := findClass_of_methodNamed B.named
  have hlocks := B.notSynchronized
  have hK := hKN.1
  have hl := lv_entry ([.ref a]) (n := 1) (Nat.le_of_ble_eq_true rfl)
  rw [lg_entry_eq]
  generalize (lg_sl ([.ref a]) ++ List.replicate (1 - (lg_sl ([.ref a])).length) Slot.unset).toArray = ls at hl ⊢
  have hl : lv_has ls 1 [(0, .ref a)] := hl
  refine lv_aload_n hx hb d_D_isEmpty_0 rfl (lv_at hl 0 rfl) ?_
  refine va_get (D := G.1) (ci := 1) (v := .int (nI n)) (C := R_D) (T := F_D) (N := 5) hx hb ht in_D hown hK hP 0 rfl rfl 3 (by decide) (ht _ kf_D_23) (fun _ h9 => h9) rfl d_D_isEmpty_1 ?_
  refine lv_if_ne (tgt := 11) hx hb d_D_isEmpty_4 (by decide) (fun c1 => ?_) (fun c1 => ?_)
  · refine lv_iconst (v := 0) hx hb d_D_isEmpty_11 (by decide) ?_
    exact W.zret (v := 0) hx hb hr rfl (fun t h9 _ => ⟨congrArg (fun z => Outcome.returned (some (Value.int z))) (by unfold fn_D_isEmpty; rw [if_neg c1]), h9⟩) (fun _ h => nomatch h) d_D_isEmpty_12
  · refine lv_iconst (v := 1) hx hb d_D_isEmpty_7 (by decide) ?_
    refine lv_goto (tgt := 12) hx hb d_D_isEmpty_8 (by decide) ?_
    exact W.zret (v := 1) hx hb hr rfl (fun t h9 _ => ⟨congrArg (fun z => Outcome.returned (some (Value.int z))) (by unfold fn_D_isEmpty; rw [if_pos c1]), h9⟩) (fun _ h => nomatch h) d_D_isEmpty_12
def fn_D_has (n : Nat) (p1 : Int32) : Int32 := (if p1 < 0 then 0 else (if nI n ≤ p1 then 0 else 1))
set_option maxHeartbeats 4000000 in
set_option maxRecDepth 100000 in
theorem c_D_has (l : Launch) (G : GT) (H : Heap) (a : Nat) (b : Nat) (sd : Int64) (k : Int32) (n : Nat) (fb : Int32) (f : Nat → Int64) (p1 : Int32) (hP : va_P G.1 classes [(a, .inr (1, [.ref b, .long sd, .int k, .int (nI n), .int fb])), (b, .inl (G.2.1, 16, .inr (.inl f)))] H) (hn : n ≤ 16) : Met l y_D_has (Cond.code y_D_has b_D_has 2 (some .boolean) :: TG) ({ frames := 0, cells := 0, slots := 0, locals := 0 }) (PC G H [.ref a, .int p1]) (QcRead (fn_D_has n p1)) 0 0 (fun _ => False) := by
  refine Met.ofW (cc := b_D_has) (maxL := 2) (ret := (some .boolean)) (by decide) rfl ?_
  intro p e s m args below meth c s₁ B hml hv
  obtain ⟨rfl, hH, hKN⟩ := hv
  subst hH
  have hx := B.exec
  have hb := B.bytes
  have hr := B.returns
  have hts := atoms_spec (ws := (Cond.code y_D_has b_D_has 2 (some .boolean) :: TG)) B.pre
  have ht : ∀ w ∈ TG, w.before _ s = true := fun w h => hts w (List.mem_cons_of_mem _ h)
  have hown : s.vm.findClass R_D = some m.cls := findClass_of_methodNamed B.named
  have hlocks := B.notSynchronized
  have hK := hKN.1
  have hl := lv_entry ([.ref a, .int p1]) (n := 2) (Nat.le_of_ble_eq_true rfl)
  rw [lg_entry_eq]
  generalize (lg_sl ([.ref a, .int p1]) ++ List.replicate (2 - (lg_sl ([.ref a, .int p1])).length) Slot.unset).toArray = ls at hl ⊢
  have hl : lv_has ls 2 [(0, .ref a), (1, .int p1)] := hl
  refine lv_iload_n hx hb d_D_has_0 rfl (lv_at hl 1 rfl) ?_
  refine lv_if_lt (tgt := 16) hx hb d_D_has_1 (by decide) (fun c1 => ?_) (fun c1 => ?_)
  · refine lv_iconst (v := 0) hx hb d_D_has_16 (by decide) ?_
    exact W.zret (v := 0) hx hb hr rfl (fun t h9 _ => ⟨congrArg (fun z => Outcome.returned (some (Value.int z))) (by unfold fn_D_has; rw [if_pos c1]), h9⟩) (fun _ h => nomatch h) d_D_has_17
  · refine lv_iload_n hx hb d_D_has_4 rfl (lv_at hl 1 rfl) ?_
    refine lv_aload_n hx hb d_D_has_5 rfl (lv_at hl 0 rfl) ?_
    refine va_get (D := G.1) (ci := 1) (v := .int (nI n)) (C := R_D) (T := F_D) (N := 5) hx hb ht in_D hown hK hP 0 rfl rfl 3 (by decide) (ht _ kf_D_23) (fun _ h9 => h9) rfl d_D_has_6 ?_
    refine lv_icmp_ge (tgt := 16) hx hb d_D_has_9 (by decide) (fun c2 => ?_) (fun c2 => ?_)
    · refine lv_iconst (v := 0) hx hb d_D_has_16 (by decide) ?_
      exact W.zret (v := 0) hx hb hr rfl (fun t h9 _ => ⟨congrArg (fun z => Outcome.returned (some (Value.int z))) (by unfold fn_D_has; rw [if_neg c1, if_pos c2]), h9⟩) (fun _ h => nomatch h) d_D_has_17
    · refine lv_iconst (v := 1) hx hb d_D_has_12 (by decide) ?_
      refine lv_goto (tgt := 17) hx hb d_D_has_13 (by decide) ?_
      exact W.zret (v := 1) hx hb hr rfl (fun t h9 _ => ⟨congrArg (fun z => Outcome.returned (some (Value.int z))) (by unfold fn_D_has; rw [if_neg c1, if_neg c2]), h9⟩) (fun _ h => nomatch h) d_D_has_17
theorem has_in {n : Nat} {p1 : Int32} (hn : n ≤ 16) (h : ¬ fn_D_has n p1 = 0) : vp_in p1 16 := by
  unfold fn_D_has at h
  split at h
  · exact absurd rfl h
  · split at h
    · exact absurd rfl h
    · rename_i h1 h2
      obtain ⟨j, hj, rfl⟩ := nI_of h1
      have h3 : j < n := Nat.lt_of_not_le (fun q => h2 (nI_le q hj))
      exact vp_in_nI (by omega) (by omega)
def fn_D_allBits (n : Nat) : Int32 := (((1 : Int32) <<< ((nI n) &&& 31)) - 1)
set_option maxHeartbeats 4000000 in
set_option maxRecDepth 100000 in
theorem c_D_allBits (l : Launch) (G : GT) (H : Heap) (a : Nat) (b : Nat) (sd : Int64) (k : Int32) (n : Nat) (fb : Int32) (f : Nat → Int64) (hP : va_P G.1 classes [(a, .inr (1, [.ref b, .long sd, .int k, .int (nI n), .int fb])), (b, .inl (G.2.1, 16, .inr (.inl f)))] H) (hn : n ≤ 16) : Met l y_D_allBits (Cond.code y_D_allBits b_D_allBits 1 (some .int) :: TG) ({ frames := 0, cells := 0, slots := 0, locals := 0 }) (PC G H [.ref a]) (QcRead (fn_D_allBits n)) 0 0 (fun _ => False) := by
  refine Met.ofW (cc := b_D_allBits) (maxL := 1) (ret := (some .int)) (by decide) rfl ?_
  intro p e s m args below meth c s₁ B hml hv
  obtain ⟨rfl, hH, hKN⟩ := hv
  subst hH
  have hx := B.exec
  have hb := B.bytes
  have hr := B.returns
  have hts := atoms_spec (ws := (Cond.code y_D_allBits b_D_allBits 1 (some .int) :: TG)) B.pre
  have ht : ∀ w ∈ TG, w.before _ s = true := fun w h => hts w (List.mem_cons_of_mem _ h)
  have hown : s.vm.findClass R_D = some m.cls := findClass_of_methodNamed B.named
  have hlocks := B.notSynchronized
  have hK := hKN.1
  have hl := lv_entry ([.ref a]) (n := 1) (Nat.le_of_ble_eq_true rfl)
  rw [lg_entry_eq]
  generalize (lg_sl ([.ref a]) ++ List.replicate (1 - (lg_sl ([.ref a])).length) Slot.unset).toArray = ls at hl ⊢
  have hl : lv_has ls 1 [(0, .ref a)] := hl
  refine lv_iconst (v := 1) hx hb d_D_allBits_0 (by decide) ?_
  refine lv_aload_n hx hb d_D_allBits_1 rfl (lv_at hl 0 rfl) ?_
  refine va_get (D := G.1) (ci := 1) (v := .int (nI n)) (C := R_D) (T := F_D) (N := 5) hx hb ht in_D hown hK hP 0 rfl rfl 3 (by decide) (ht _ kf_D_23) (fun _ h9 => h9) rfl d_D_allBits_2 ?_
  refine lv_ishl hx hb d_D_allBits_5 ?_
  refine lv_iconst (v := 1) hx hb d_D_allBits_6 (by decide) ?_
  refine lv_isub hx hb d_D_allBits_7 ?_
  exact W.iret (v := (((1 : Int32) <<< ((nI n) &&& 31)) - 1)) hx hb hr (fun t h9 _ => ⟨congrArg (fun z => Outcome.returned (some (Value.int z))) rfl, h9⟩) (fun _ h => nomatch h) d_D_allBits_8
def fn_D_hasFaults (n : Nat) (fb : Int32) (p1 : Int32) : Int32 := (if (fn_D_has n p1) = 0 then 0 else (if ((fb >>> (p1 &&& 31)) &&& 1) = 0 then 0 else 1))
set_option maxHeartbeats 4000000 in
set_option maxRecDepth 100000 in
theorem c_D_hasFaults (l : Launch) (G : GT) (H : Heap) (a : Nat) (b : Nat) (sd : Int64) (k : Int32) (n : Nat) (fb : Int32) (f : Nat → Int64) (p1 : Int32) (hP : va_P G.1 classes [(a, .inr (1, [.ref b, .long sd, .int k, .int (nI n), .int fb])), (b, .inl (G.2.1, 16, .inr (.inl f)))] H) (hn : n ≤ 16) : Met l y_D_hasFaults (Cond.code y_D_hasFaults b_D_hasFaults 2 (some .boolean) :: TG) ({ frames := 1, cells := 0, slots := 0, locals := 21 }) (PC G H [.ref a, .int p1]) (QcRead (fn_D_hasFaults n fb p1)) 0 0 (fun _ => False) := by
  refine Met.ofW (cc := b_D_hasFaults) (maxL := 2) (ret := (some .boolean)) (by decide) rfl ?_
  intro p e s m args below meth c s₁ B hml hv
  obtain ⟨rfl, hH, hKN⟩ := hv
  subst hH
  have hx := B.exec
  have hb := B.bytes
  have hr := B.returns
  have hts := atoms_spec (ws := (Cond.code y_D_hasFaults b_D_hasFaults 2 (some .boolean) :: TG)) B.pre
  have ht : ∀ w ∈ TG, w.before _ s = true := fun w h => hts w (List.mem_cons_of_mem _ h)
  have hown : s.vm.findClass R_D = some m.cls := findClass_of_methodNamed B.named
  have hlocks := B.notSynchronized
  have hK := hKN.1
  have hl := lv_entry ([.ref a, .int p1]) (n := 2) (Nat.le_of_ble_eq_true rfl)
  rw [lg_entry_eq]
  generalize (lg_sl ([.ref a, .int p1]) ++ List.replicate (2 - (lg_sl ([.ref a, .int p1])).length) Slot.unset).toArray = ls at hl ⊢
  have hl : lv_has ls 2 [(0, .ref a), (1, .int p1)] := hl
  refine lv_aload_n hx hb d_D_hasFaults_0 rfl (lv_at hl 0 rfl) ?_
  refine lv_iload_n hx hb d_D_hasFaults_1 rfl (lv_at hl 1 rfl) ?_
  refine pr_i (ru_V (b := a) (As := [.int p1]) (rest := []) ⟨hx, hb, hml, hown, ht⟩ hKN (c_D_has l G _ a b sd k n fb f p1 (hP.sub [0, 1] rfl) hn) kc_D_46 ⟨rfl, rfl⟩ ⟨Nat.le_of_ble_eq_true rfl, Nat.le_of_ble_eq_true rfl⟩ (va_recv hK hP (ci := 1) (q0 := 0) rfl rfl) rfl hl.1 rfl (Nat.le_of_ble_eq_true rfl) d_D_hasFaults_2 ⟨Nat.le_of_ble_eq_true rfl, Nat.le_of_ble_eq_true rfl⟩) ?_
  refine lv_if_eq (tgt := 23) hx hb d_D_hasFaults_5 (by decide) (fun c1 => ?_) (fun c1 => ?_)
  · refine lv_iconst (v := 0) hx hb d_D_hasFaults_23 (by decide) ?_
    exact W.zret (v := 0) hx hb hr rfl (fun t h9 _ => ⟨congrArg (fun z => Outcome.returned (some (Value.int z))) (by unfold fn_D_hasFaults; rw [if_pos c1]), h9⟩) (fun _ h => nomatch h) d_D_hasFaults_24
  · refine lv_aload_n hx hb d_D_hasFaults_8 rfl (lv_at hl 0 rfl) ?_
    refine va_get (D := G.1) (ci := 1) (v := .int fb) (C := R_D) (T := F_D) (N := 5) hx hb ht in_D hown hK hP 0 rfl rfl 4 (by decide) (ht _ kf_D_26) (fun _ h9 => h9) rfl d_D_hasFaults_9 ?_
    refine lv_iload_n hx hb d_D_hasFaults_12 rfl (lv_at hl 1 rfl) ?_
    refine lv_ishr hx hb d_D_hasFaults_13 ?_
    refine lv_iconst (v := 1) hx hb d_D_hasFaults_14 (by decide) ?_
    refine lv_iand hx hb d_D_hasFaults_15 ?_
    refine lv_if_eq (tgt := 23) hx hb d_D_hasFaults_16 (by decide) (fun c2 => ?_) (fun c2 => ?_)
    · refine lv_iconst (v := 0) hx hb d_D_hasFaults_23 (by decide) ?_
      exact W.zret (v := 0) hx hb hr rfl (fun t h9 _ => ⟨congrArg (fun z => Outcome.returned (some (Value.int z))) (by unfold fn_D_hasFaults; rw [if_neg c1, if_pos c2]), h9⟩) (fun _ h => nomatch h) d_D_hasFaults_24
    · refine lv_iconst (v := 1) hx hb d_D_hasFaults_19 (by decide) ?_
      refine lv_goto (tgt := 24) hx hb d_D_hasFaults_20 (by decide) ?_
      exact W.zret (v := 1) hx hb hr rfl (fun t h9 _ => ⟨congrArg (fun z => Outcome.returned (some (Value.int z))) (by unfold fn_D_hasFaults; rw [if_neg c1, if_neg c2]), h9⟩) (fun _ h => nomatch h) d_D_hasFaults_24
theorem sw_out {x : Int32} (h1 : ¬ x = 1) (h2 : ¬ x = 2) (h3 : ¬ x = 3) (h4 : ¬ x = 4) : x.toInt < 1 ∨ 4 < x.toInt := by
  have e1 : ¬ x.toInt = 1 := fun q => h1 (Int32.toInt_inj.mp q)
  have e2 : ¬ x.toInt = 2 := fun q => h2 (Int32.toInt_inj.mp q)
  have e3 : ¬ x.toInt = 3 := fun q => h3 (Int32.toInt_inj.mp q)
  have e4 : ¬ x.toInt = 4 := fun q => h4 (Int32.toInt_inj.mp q)
  omega
def fn_D_fact (n : Nat) (f : Nat → Int64) (p1 : Int32) (p2 : Int32) : Int32 := (if (fn_D_has n p1) = 0 then (-1) else (if p2 = 1 then (((2 * ((((f p1.toNatClampNeg).toUInt64 >>> ((1 : Int32).toInt64.toUInt64 &&& Int64.toUInt64 63)).toInt64) - (((f p1.toNatClampNeg).toUInt64 >>> ((1 : Int32).toInt64.toUInt64 &&& Int64.toUInt64 63)).toInt64) / 50 * 50)) + ((f p1.toNatClampNeg) &&& 1)).toInt32) else (if p2 = 2 then (((((f p1.toNatClampNeg).toUInt64 >>> ((8 : Int32).toInt64.toUInt64 &&& Int64.toUInt64 63)).toInt64) - (((f p1.toNatClampNeg).toUInt64 >>> ((8 : Int32).toInt64.toUInt64 &&& Int64.toUInt64 63)).toInt64) / 1000 * 1000).toInt32) else (if p2 = 3 then (((((f p1.toNatClampNeg).toUInt64 >>> ((24 : Int32).toInt64.toUInt64 &&& Int64.toUInt64 63)).toInt64) - (((f p1.toNatClampNeg).toUInt64 >>> ((24 : Int32).toInt64.toUInt64 &&& Int64.toUInt64 63)).toInt64) / 24 * 24).toInt32) else (if p2 = 4 then (((((f p1.toNatClampNeg).toUInt64 >>> ((40 : Int32).toInt64.toUInt64 &&& Int64.toUInt64 63)).toInt64) - (((f p1.toNatClampNeg).toUInt64 >>> ((40 : Int32).toInt64.toUInt64 &&& Int64.toUInt64 63)).toInt64) / 2 * 2).toInt32) else (-1))))))
set_option maxHeartbeats 4000000 in
set_option maxRecDepth 100000 in
theorem c_D_fact (l : Launch) (G : GT) (H : Heap) (a : Nat) (b : Nat) (sd : Int64) (k : Int32) (n : Nat) (fb : Int32) (f : Nat → Int64) (p1 : Int32) (p2 : Int32) (hP : va_P G.1 classes [(a, .inr (1, [.ref b, .long sd, .int k, .int (nI n), .int fb])), (b, .inl (G.2.1, 16, .inr (.inl f)))] H) (hn : n ≤ 16) : Met l y_D_fact (Cond.code y_D_fact b_D_fact 5 (some .int) :: TG) ({ frames := 1, cells := 0, slots := 0, locals := 21 }) (PC G H [.ref a, .int p1, .int p2]) (QcRead (fn_D_fact n f p1 p2)) 0 0 (fun _ => False) := by
  refine Met.ofW (cc := b_D_fact) (maxL := 5) (ret := (some .int)) (by decide) rfl ?_
  intro p e s m args below meth c s₁ B hml hv
  obtain ⟨rfl, hH, hKN⟩ := hv
  subst hH
  have hx := B.exec
  have hb := B.bytes
  have hr := B.returns
  have hts := atoms_spec (ws := (Cond.code y_D_fact b_D_fact 5 (some .int) :: TG)) B.pre
  have ht : ∀ w ∈ TG, w.before _ s = true := fun w h => hts w (List.mem_cons_of_mem _ h)
  have hown : s.vm.findClass R_D = some m.cls := findClass_of_methodNamed B.named
  have hlocks := B.notSynchronized
  have hK := hKN.1
  have hl := lv_entry ([.ref a, .int p1, .int p2]) (n := 5) (Nat.le_of_ble_eq_true rfl)
  rw [lg_entry_eq]
  generalize (lg_sl ([.ref a, .int p1, .int p2]) ++ List.replicate (5 - (lg_sl ([.ref a, .int p1, .int p2])).length) Slot.unset).toArray = ls at hl ⊢
  have hl : lv_has ls 5 [(0, .ref a), (1, .int p1), (2, .int p2)] := hl
  refine lv_aload_n hx hb d_D_fact_0 rfl (lv_at hl 0 rfl) ?_
  refine lv_iload_n hx hb d_D_fact_1 rfl (lv_at hl 1 rfl) ?_
  refine pr_i (ru_V (b := a) (As := [.int p1]) (rest := []) ⟨hx, hb, hml, hown, ht⟩ hKN (c_D_has l G _ a b sd k n fb f p1 (hP.sub [0, 1] rfl) hn) kc_D_46 ⟨rfl, rfl⟩ ⟨Nat.le_of_ble_eq_true rfl, Nat.le_of_ble_eq_true rfl⟩ (va_recv hK hP (ci := 1) (q0 := 0) rfl rfl) rfl hl.1 rfl (Nat.le_of_ble_eq_true rfl) d_D_fact_2 ⟨Nat.le_of_ble_eq_true rfl, Nat.le_of_ble_eq_true rfl⟩) ?_
  refine lv_if_ne (tgt := 10) hx hb d_D_fact_5 (by decide) (fun c1 => ?_) (fun c1 => ?_)
  · refine lv_aload_n hx hb d_D_fact_10 rfl (lv_at hl 0 rfl) ?_
    refine va_get (D := G.1) (ci := 1) (v := .ref b) (C := R_D) (T := F_D) (N := 5) hx hb ht in_D hown hK hP 0 rfl rfl 0 (by decide) (ht _ kf_D_9) (fun _ h9 => h9) rfl d_D_fact_11 ?_
    refine lv_iload_n hx hb d_D_fact_14 rfl (lv_at hl 1 rfl) ?_
    refine va_lald hx hb hK hP 1 0 rfl rfl (i := p1) (has_in hn c1) d_D_fact_15 ?_
    refine lv_lstore_n (lv' := [(3, .long (f p1.toNatClampNeg)), (0, .ref a), (1, .int p1), (2, .int p2)]) hx hb d_D_fact_16 rfl hl (by decide) rfl (fun ls hl => ?_)
    refine lv_iload_n hx hb d_D_fact_17 rfl (lv_at hl 3 rfl) ?_
    by_cases c2 : p2 = 1
    · subst c2
      refine lv_tableIn (tgt := 48) hx hb d_D_fact_18 (by decide) (by decide) rfl (by decide) ?_
      refine lv_ldc2 (v := 2) hx hb hown (ht _ kl_D_50) d_D_fact_48 ?_
      refine lv_lload_n hx hb d_D_fact_51 rfl (lv_at hl 0 rfl) ?_
      refine lv_iconst (v := 1) hx hb d_D_fact_52 (by decide) ?_
      refine lv_lushr hx hb d_D_fact_53 rfl ?_
      refine lv_ldc2 (v := 50) hx hb hown (ht _ kl_D_52) d_D_fact_54 ?_
      refine lv_lrem hx hb d_D_fact_57 (by decide) ?_
      refine lv_lmul hx hb d_D_fact_58 ?_
      refine lv_lload_n hx hb d_D_fact_59 rfl (lv_at hl 0 rfl) ?_
      refine lv_lconst (v := 1) hx hb d_D_fact_60 (by decide) ?_
      refine lv_land hx hb d_D_fact_61 ?_
      refine lv_ladd hx hb d_D_fact_62 ?_
      refine lv_l2i hx hb d_D_fact_63 rfl ?_
      exact W.iret (v := (((2 * ((((f p1.toNatClampNeg).toUInt64 >>> ((1 : Int32).toInt64.toUInt64 &&& Int64.toUInt64 63)).toInt64) - (((f p1.toNatClampNeg).toUInt64 >>> ((1 : Int32).toInt64.toUInt64 &&& Int64.toUInt64 63)).toInt64) / 50 * 50)) + ((f p1.toNatClampNeg) &&& 1)).toInt32)) hx hb hr (fun t h9 _ => ⟨congrArg (fun z => Outcome.returned (some (Value.int z))) (by unfold fn_D_fact; rw [if_neg c1, if_pos rfl]), h9⟩) (fun _ h => nomatch h) d_D_fact_64
    by_cases c3 : p2 = 2
    · subst c3
      refine lv_tableIn (tgt := 65) hx hb d_D_fact_18 (by decide) (by decide) rfl (by decide) ?_
      refine lv_lload_n hx hb d_D_fact_65 rfl (lv_at hl 0 rfl) ?_
      refine lv_bipush (v := 8) hx hb d_D_fact_66 (by decide) ?_
      refine lv_lushr hx hb d_D_fact_68 rfl ?_
      refine lv_ldc2 (v := 1000) hx hb hown (ht _ kl_D_54) d_D_fact_69 ?_
      refine lv_lrem hx hb d_D_fact_72 (by decide) ?_
      refine lv_l2i hx hb d_D_fact_73 rfl ?_
      exact W.iret (v := (((((f p1.toNatClampNeg).toUInt64 >>> ((8 : Int32).toInt64.toUInt64 &&& Int64.toUInt64 63)).toInt64) - (((f p1.toNatClampNeg).toUInt64 >>> ((8 : Int32).toInt64.toUInt64 &&& Int64.toUInt64 63)).toInt64) / 1000 * 1000).toInt32)) hx hb hr (fun t h9 _ => ⟨congrArg (fun z => Outcome.returned (some (Value.int z))) (by unfold fn_D_fact; rw [if_neg c1, if_neg (by decide : ¬ (2 : Int32) = 1), if_pos rfl]), h9⟩) (fun _ h => nomatch h) d_D_fact_74
    by_cases c4 : p2 = 3
    · subst c4
      refine lv_tableIn (tgt := 75) hx hb d_D_fact_18 (by decide) (by decide) rfl (by decide) ?_
      refine lv_lload_n hx hb d_D_fact_75 rfl (lv_at hl 0 rfl) ?_
      refine lv_bipush (v := 24) hx hb d_D_fact_76 (by decide) ?_
      refine lv_lushr hx hb d_D_fact_78 rfl ?_
      refine lv_ldc2 (v := 24) hx hb hown (ht _ kl_D_56) d_D_fact_79 ?_
      refine lv_lrem hx hb d_D_fact_82 (by decide) ?_
      refine lv_l2i hx hb d_D_fact_83 rfl ?_
      exact W.iret (v := (((((f p1.toNatClampNeg).toUInt64 >>> ((24 : Int32).toInt64.toUInt64 &&& Int64.toUInt64 63)).toInt64) - (((f p1.toNatClampNeg).toUInt64 >>> ((24 : Int32).toInt64.toUInt64 &&& Int64.toUInt64 63)).toInt64) / 24 * 24).toInt32)) hx hb hr (fun t h9 _ => ⟨congrArg (fun z => Outcome.returned (some (Value.int z))) (by unfold fn_D_fact; rw [if_neg c1, if_neg (by decide : ¬ (3 : Int32) = 1), if_neg (by decide : ¬ (3 : Int32) = 2), if_pos rfl]), h9⟩) (fun _ h => nomatch h) d_D_fact_84
    by_cases c5 : p2 = 4
    · subst c5
      refine lv_tableIn (tgt := 85) hx hb d_D_fact_18 (by decide) (by decide) rfl (by decide) ?_
      refine lv_lload_n hx hb d_D_fact_85 rfl (lv_at hl 0 rfl) ?_
      refine lv_bipush (v := 40) hx hb d_D_fact_86 (by decide) ?_
      refine lv_lushr hx hb d_D_fact_88 rfl ?_
      refine lv_ldc2 (v := 2) hx hb hown (ht _ kl_D_50) d_D_fact_89 ?_
      refine lv_lrem hx hb d_D_fact_92 (by decide) ?_
      refine lv_l2i hx hb d_D_fact_93 rfl ?_
      exact W.iret (v := (((((f p1.toNatClampNeg).toUInt64 >>> ((40 : Int32).toInt64.toUInt64 &&& Int64.toUInt64 63)).toInt64) - (((f p1.toNatClampNeg).toUInt64 >>> ((40 : Int32).toInt64.toUInt64 &&& Int64.toUInt64 63)).toInt64) / 2 * 2).toInt32)) hx hb hr (fun t h9 _ => ⟨congrArg (fun z => Outcome.returned (some (Value.int z))) (by unfold fn_D_fact; rw [if_neg c1, if_neg (by decide : ¬ (4 : Int32) = 1), if_neg (by decide : ¬ (4 : Int32) = 2), if_neg (by decide : ¬ (4 : Int32) = 3), if_pos rfl]), h9⟩) (fun _ h => nomatch h) d_D_fact_94
    refine lv_tableOut (tgt := 95) hx hb d_D_fact_18 (sw_out c2 c3 c4 c5) (by decide) ?_
    refine lv_iconst (v := (-1)) hx hb d_D_fact_95 (by decide) ?_
    exact W.iret (v := (-1)) hx hb hr (fun t h9 _ => ⟨congrArg (fun z => Outcome.returned (some (Value.int z))) (by unfold fn_D_fact; rw [if_neg c1, if_neg c2, if_neg c3, if_neg c4, if_neg c5]), h9⟩) (fun _ h => nomatch h) d_D_fact_96
  · refine lv_iconst (v := (-1)) hx hb d_D_fact_8 (by decide) ?_
    exact W.iret (v := (-1)) hx hb hr (fun t h9 _ => ⟨congrArg (fun z => Outcome.returned (some (Value.int z))) (by unfold fn_D_fact; rw [if_pos c1]), h9⟩) (fun _ h => nomatch h) d_D_fact_9
def fn_D_isAbove (n : Nat) (f : Nat → Int64) (p1 : Int32) (p2 : Int32) : Int32 := (if (fn_D_has n p1) = 0 then 0 else (if (fn_D_has n p2) = 0 then 0 else (if 0 < (lg_cmp ((f p1.toNatClampNeg) ^^^ (-9223372036854775808)) ((f p2.toNatClampNeg) ^^^ (-9223372036854775808))) then 1 else (if (lg_cmp ((f p1.toNatClampNeg) ^^^ (-9223372036854775808)) ((f p2.toNatClampNeg) ^^^ (-9223372036854775808))) = 0 then (if p1 ≤ p2 then 0 else 1) else 0))))
set_option maxHeartbeats 4000000 in
set_option maxRecDepth 100000 in
theorem c_D_isAbove (l : Launch) (G : GT) (H : Heap) (a : Nat) (b : Nat) (sd : Int64) (k : Int32) (n : Nat) (fb : Int32) (f : Nat → Int64) (p1 : Int32) (p2 : Int32) (hP : va_P G.1 classes [(a, .inr (1, [.ref b, .long sd, .int k, .int (nI n), .int fb])), (b, .inl (G.2.1, 16, .inr (.inl f)))] H) (hn : n ≤ 16) : Met l y_D_isAbove (Cond.code y_D_isAbove b_D_isAbove 7 (some .boolean) :: TG) ({ frames := 1, cells := 0, slots := 0, locals := 21 }) (PC G H [.ref a, .int p1, .int p2]) (QcRead (fn_D_isAbove n f p1 p2)) 0 0 (fun _ => False) := by
  refine Met.ofW (cc := b_D_isAbove) (maxL := 7) (ret := (some .boolean)) (by decide) rfl ?_
  intro p e s m args below meth c s₁ B hml hv
  obtain ⟨rfl, hH, hKN⟩ := hv
  subst hH
  have hx := B.exec
  have hb := B.bytes
  have hr := B.returns
  have hts := atoms_spec (ws := (Cond.code y_D_isAbove b_D_isAbove 7 (some .boolean) :: TG)) B.pre
  have ht : ∀ w ∈ TG, w.before _ s = true := fun w h => hts w (List.mem_cons_of_mem _ h)
  have hown : s.vm.findClass R_D = some m.cls := findClass_of_methodNamed B.named
  have hlocks := B.notSynchronized
  have hK := hKN.1
  have hl := lv_entry ([.ref a, .int p1, .int p2]) (n := 7) (Nat.le_of_ble_eq_true rfl)
  rw [lg_entry_eq]
  generalize (lg_sl ([.ref a, .int p1, .int p2]) ++ List.replicate (7 - (lg_sl ([.ref a, .int p1, .int p2])).length) Slot.unset).toArray = ls at hl ⊢
  have hl : lv_has ls 7 [(0, .ref a), (1, .int p1), (2, .int p2)] := hl
  refine lv_aload_n hx hb d_D_isAbove_0 rfl (lv_at hl 0 rfl) ?_
  refine lv_iload_n hx hb d_D_isAbove_1 rfl (lv_at hl 1 rfl) ?_
  refine pr_i (ru_V (b := a) (As := [.int p1]) (rest := []) ⟨hx, hb, hml, hown, ht⟩ hKN (c_D_has l G _ a b sd k n fb f p1 (hP.sub [0, 1] rfl) hn) kc_D_46 ⟨rfl, rfl⟩ ⟨Nat.le_of_ble_eq_true rfl, Nat.le_of_ble_eq_true rfl⟩ (va_recv hK hP (ci := 1) (q0 := 0) rfl rfl) rfl hl.1 rfl (Nat.le_of_ble_eq_true rfl) d_D_isAbove_2 ⟨Nat.le_of_ble_eq_true rfl, Nat.le_of_ble_eq_true rfl⟩) ?_
  refine lv_if_eq (tgt := 16) hx hb d_D_isAbove_5 (by decide) (fun c1 => ?_) (fun c1 => ?_)
  · refine lv_iconst (v := 0) hx hb d_D_isAbove_16 (by decide) ?_
    exact W.zret (v := 0) hx hb hr rfl (fun t h9 _ => ⟨congrArg (fun z => Outcome.returned (some (Value.int z))) (by unfold fn_D_isAbove; rw [if_pos c1]), h9⟩) (fun _ h => nomatch h) d_D_isAbove_17
  · refine lv_aload_n hx hb d_D_isAbove_8 rfl (lv_at hl 0 rfl) ?_
    refine lv_iload_n hx hb d_D_isAbove_9 rfl (lv_at hl 2 rfl) ?_
    refine pr_i (ru_V (b := a) (As := [.int p2]) (rest := []) ⟨hx, hb, hml, hown, ht⟩ hKN (c_D_has l G _ a b sd k n fb f p2 (hP.sub [0, 1] rfl) hn) kc_D_46 ⟨rfl, rfl⟩ ⟨Nat.le_of_ble_eq_true rfl, Nat.le_of_ble_eq_true rfl⟩ (va_recv hK hP (ci := 1) (q0 := 0) rfl rfl) rfl hl.1 rfl (Nat.le_of_ble_eq_true rfl) d_D_isAbove_10 ⟨Nat.le_of_ble_eq_true rfl, Nat.le_of_ble_eq_true rfl⟩) ?_
    refine lv_if_ne (tgt := 18) hx hb d_D_isAbove_13 (by decide) (fun c2 => ?_) (fun c2 => ?_)
    · refine lv_aload_n hx hb d_D_isAbove_18 rfl (lv_at hl 0 rfl) ?_
      refine va_get (D := G.1) (ci := 1) (v := .ref b) (C := R_D) (T := F_D) (N := 5) hx hb ht in_D hown hK hP 0 rfl rfl 0 (by decide) (ht _ kf_D_9) (fun _ h9 => h9) rfl d_D_isAbove_19 ?_
      refine lv_iload_n hx hb d_D_isAbove_22 rfl (lv_at hl 1 rfl) ?_
      refine va_lald hx hb hK hP 1 0 rfl rfl (i := p1) (has_in hn c1) d_D_isAbove_23 ?_
      refine lv_ldc2 (v := (-9223372036854775808)) hx hb hown (ht _ kl_D_68) d_D_isAbove_24 ?_
      refine lv_lxor hx hb d_D_isAbove_27 ?_
      refine lv_lstore_n (lv' := [(3, .long ((f p1.toNatClampNeg) ^^^ (-9223372036854775808))), (0, .ref a), (1, .int p1), (2, .int p2)]) hx hb d_D_isAbove_28 rfl hl (by decide) rfl (fun ls hl => ?_)
      refine lv_aload_n hx hb d_D_isAbove_29 rfl (lv_at hl 1 rfl) ?_
      refine va_get (D := G.1) (ci := 1) (v := .ref b) (C := R_D) (T := F_D) (N := 5) hx hb ht in_D hown hK hP 0 rfl rfl 0 (by decide) (ht _ kf_D_9) (fun _ h9 => h9) rfl d_D_isAbove_30 ?_
      refine lv_iload_n hx hb d_D_isAbove_33 rfl (lv_at hl 3 rfl) ?_
      refine va_lald hx hb hK hP 1 0 rfl rfl (i := p2) (has_in hn c2) d_D_isAbove_34 ?_
      refine lv_ldc2 (v := (-9223372036854775808)) hx hb hown (ht _ kl_D_68) d_D_isAbove_35 ?_
      refine lv_lxor hx hb d_D_isAbove_38 ?_
      refine lv_lstore (lv' := [(5, .long ((f p2.toNatClampNeg) ^^^ (-9223372036854775808))), (3, .long ((f p1.toNatClampNeg) ^^^ (-9223372036854775808))), (0, .ref a), (1, .int p1), (2, .int p2)]) hx hb d_D_isAbove_39 hl (by decide) rfl (fun ls hl => ?_)
      refine lv_lload_n hx hb d_D_isAbove_41 rfl (lv_at hl 1 rfl) ?_
      refine lv_lload hx hb d_D_isAbove_42 (lv_at hl 0 rfl) ?_
      refine W.lcmp hx hb d_D_isAbove_44 ?_
      refine lv_if_gt (tgt := 60) hx hb d_D_isAbove_45 (by decide) (fun c3 => ?_) (fun c3 => ?_)
      · refine lv_iconst (v := 1) hx hb d_D_isAbove_60 (by decide) ?_
        refine lv_goto (tgt := 65) hx hb d_D_isAbove_61 (by decide) ?_
        exact W.zret (v := 1) hx hb hr rfl (fun t h9 _ => ⟨congrArg (fun z => Outcome.returned (some (Value.int z))) (by unfold fn_D_isAbove; rw [if_neg c1, if_neg c2, if_pos c3]), h9⟩) (fun _ h => nomatch h) d_D_isAbove_65
      · refine lv_lload_n hx hb d_D_isAbove_48 rfl (lv_at hl 1 rfl) ?_
        refine lv_lload hx hb d_D_isAbove_49 (lv_at hl 0 rfl) ?_
        refine W.lcmp hx hb d_D_isAbove_51 ?_
        refine lv_if_ne (tgt := 64) hx hb d_D_isAbove_52 (by decide) (fun c4 => ?_) (fun c4 => ?_)
        · refine lv_iconst (v := 0) hx hb d_D_isAbove_64 (by decide) ?_
          exact W.zret (v := 0) hx hb hr rfl (fun t h9 _ => ⟨congrArg (fun z => Outcome.returned (some (Value.int z))) (by unfold fn_D_isAbove; rw [if_neg c1, if_neg c2, if_neg c3, if_neg c4]), h9⟩) (fun _ h => nomatch h) d_D_isAbove_65
        · refine lv_iload_n hx hb d_D_isAbove_55 rfl (lv_at hl 3 rfl) ?_
          refine lv_iload_n hx hb d_D_isAbove_56 rfl (lv_at hl 4 rfl) ?_
          refine lv_icmp_le (tgt := 64) hx hb d_D_isAbove_57 (by decide) (fun c5 => ?_) (fun c5 => ?_)
          · refine lv_iconst (v := 0) hx hb d_D_isAbove_64 (by decide) ?_
            exact W.zret (v := 0) hx hb hr rfl (fun t h9 _ => ⟨congrArg (fun z => Outcome.returned (some (Value.int z))) (by unfold fn_D_isAbove; rw [if_neg c1, if_neg c2, if_neg c3, if_pos c4, if_pos c5]), h9⟩) (fun _ h => nomatch h) d_D_isAbove_65
          · refine lv_iconst (v := 1) hx hb d_D_isAbove_60 (by decide) ?_
            refine lv_goto (tgt := 65) hx hb d_D_isAbove_61 (by decide) ?_
            exact W.zret (v := 1) hx hb hr rfl (fun t h9 _ => ⟨congrArg (fun z => Outcome.returned (some (Value.int z))) (by unfold fn_D_isAbove; rw [if_neg c1, if_neg c2, if_neg c3, if_pos c4, if_neg c5]), h9⟩) (fun _ h => nomatch h) d_D_isAbove_65
    · refine lv_iconst (v := 0) hx hb d_D_isAbove_16 (by decide) ?_
      exact W.zret (v := 0) hx hb hr rfl (fun t h9 _ => ⟨congrArg (fun z => Outcome.returned (some (Value.int z))) (by unfold fn_D_isAbove; rw [if_neg c1, if_pos c2]), h9⟩) (fun _ h => nomatch h) d_D_isAbove_17
def zA (z : Int64) : Int64 := (z ^^^ (z.toUInt64 >>> ((30 : Int32).toInt64.toUInt64 &&& Int64.toUInt64 63)).toInt64) * (-4658895280553007687)
def zB (z : Int64) : Int64 := (z ^^^ (z.toUInt64 >>> ((27 : Int32).toInt64.toUInt64 &&& Int64.toUInt64 63)).toInt64) * (-7723592293110705685)
def zC (z : Int64) : Int64 := z ^^^ (z.toUInt64 >>> ((31 : Int32).toInt64.toUInt64 &&& Int64.toUInt64 63)).toInt64
/-- THE NUMBER of a seed, a kind and a place -/
def zN (sd : Int64) (k i : Int32) : Int64 := zC (zB (zA (sd + ((1 + i.toInt64) + 64 * k.toInt64) * (-7046029254386353131))))
set_option maxHeartbeats 4000000 in
set_option maxRecDepth 100000 in
theorem c_P_number (l : Launch) (G : GT) (H : Heap) (sd : Int64) (k : Int32) (i : Int32) : Met l y_P_number (Cond.code y_P_number b_P_number 6 (some .long) :: TG) ({ frames := 0, cells := 0, slots := 0, locals := 0 }) (PC G H [.long sd, .int k, .int i]) (QcReadL (zN sd k i)) 0 0 (fun _ => False) := by
  refine Met.ofW (cc := b_P_number) (maxL := 6) (ret := (some .long)) (by decide) rfl ?_
  intro p e s m args below meth c s₁ B hml hv
  obtain ⟨rfl, hH, hKN⟩ := hv
  subst hH
  have hx := B.exec
  have hb := B.bytes
  have hr := B.returns
  have hts := atoms_spec (ws := (Cond.code y_P_number b_P_number 6 (some .long) :: TG)) B.pre
  have ht : ∀ w ∈ TG, w.before _ s = true := fun w h => hts w (List.mem_cons_of_mem _ h)
  have hown : s.vm.findClass R_P = some m.cls := findClass_of_methodNamed B.named
  have hlocks := B.notSynchronized
  have hK := hKN.1
  have hl := lv_entry ([.long sd, .int k, .int i]) (n := 6) (Nat.le_of_ble_eq_true rfl)
  rw [lg_entry_eq]
  generalize (lg_sl ([.long sd, .int k, .int i]) ++ List.replicate (6 - (lg_sl ([.long sd, .int k, .int i])).length) Slot.unset).toArray = ls at hl ⊢
  have hl : lv_has ls 6 [(0, .long sd), (2, .int k), (3, .int i)] := hl
  refine lv_lload_n hx hb d_P_number_0 rfl (lv_at hl 0 rfl) ?_
  refine lv_lconst (v := 1) hx hb d_P_number_1 (by decide) ?_
  refine lv_iload_n hx hb d_P_number_2 rfl (lv_at hl 2 rfl) ?_
  refine lv_i2l hx hb d_P_number_3 rfl ?_
  refine lv_ladd hx hb d_P_number_4 ?_
  refine lv_ldc2 (v := 64) hx hb hown (ht _ kl_P_123) d_P_number_5 ?_
  refine lv_iload_n hx hb d_P_number_8 rfl (lv_at hl 1 rfl) ?_
  refine lv_i2l hx hb d_P_number_9 rfl ?_
  refine lv_lmul hx hb d_P_number_10 ?_
  refine lv_ladd hx hb d_P_number_11 ?_
  refine lv_ldc2 (v := (-7046029254386353131)) hx hb hown (ht _ kl_P_125) d_P_number_12 ?_
  refine lv_lmul hx hb d_P_number_15 ?_
  refine lv_ladd hx hb d_P_number_16 ?_
  refine lv_topl (fun v1 e1 => ?_)
  refine lv_lstore (lv' := [(4, .long v1), (0, .long sd), (2, .int k), (3, .int i)]) hx hb d_P_number_17 hl (by decide) rfl (fun ls hl => ?_)
  refine lv_lload hx hb d_P_number_19 (lv_at hl 0 rfl) ?_
  refine lv_lload hx hb d_P_number_21 (lv_at hl 0 rfl) ?_
  refine lv_bipush (v := 30) hx hb d_P_number_23 (by decide) ?_
  refine lv_lushr hx hb d_P_number_25 rfl ?_
  refine lv_lxor hx hb d_P_number_26 ?_
  refine lv_ldc2 (v := (-4658895280553007687)) hx hb hown (ht _ kl_P_127) d_P_number_27 ?_
  refine lv_lmul hx hb d_P_number_30 ?_
  refine lv_topl (fun v2 e2 => ?_)
  refine lv_lstore (lv' := [(4, .long v2), (0, .long sd), (2, .int k), (3, .int i)]) hx hb d_P_number_31 hl (by decide) rfl (fun ls hl => ?_)
  refine lv_lload hx hb d_P_number_33 (lv_at hl 0 rfl) ?_
  refine lv_lload hx hb d_P_number_35 (lv_at hl 0 rfl) ?_
  refine lv_bipush (v := 27) hx hb d_P_number_37 (by decide) ?_
  refine lv_lushr hx hb d_P_number_39 rfl ?_
  refine lv_lxor hx hb d_P_number_40 ?_
  refine lv_ldc2 (v := (-7723592293110705685)) hx hb hown (ht _ kl_P_129) d_P_number_41 ?_
  refine lv_lmul hx hb d_P_number_44 ?_
  refine lv_topl (fun v3 e3 => ?_)
  refine lv_lstore (lv' := [(4, .long v3), (0, .long sd), (2, .int k), (3, .int i)]) hx hb d_P_number_45 hl (by decide) rfl (fun ls hl => ?_)
  refine lv_lload hx hb d_P_number_47 (lv_at hl 0 rfl) ?_
  refine lv_lload hx hb d_P_number_49 (lv_at hl 0 rfl) ?_
  refine lv_bipush (v := 31) hx hb d_P_number_51 (by decide) ?_
  refine lv_lushr hx hb d_P_number_53 rfl ?_
  refine lv_lxor hx hb d_P_number_54 ?_
  exact W.lret (v := (v3 ^^^ ((v3.toUInt64 >>> ((31 : Int32).toInt64.toUInt64 &&& Int64.toUInt64 63)).toInt64))) hx hb hr (fun t h9 _ => ⟨congrArg (fun z => Outcome.returned (some (Value.long z))) (by subst e1; subst e2; subst e3; rfl), h9⟩) (fun _ h => nomatch h) d_P_number_55
def ca (n : Nat) (f : Nat → Int64) (i : Int32) : Nat → Int32
  | 0 => 0
  | j + 1 => if fn_D_isAbove n f (nI j) i = 0 then ca n f i j else ca n f i j + 1
set_option maxHeartbeats 4000000 in
set_option maxRecDepth 100000 in
theorem c_D_countAbove (l : Launch) (G : GT) (H : Heap) (a : Nat) (b : Nat) (sd : Int64) (k : Int32) (n : Nat) (fb : Int32) (f : Nat → Int64) (p1 : Int32) (hP : va_P G.1 classes [(a, .inr (1, [.ref b, .long sd, .int k, .int (nI n), .int fb])), (b, .inl (G.2.1, 16, .inr (.inl f)))] H) (hn : n ≤ 16) : Met l y_D_countAbove (Cond.code y_D_countAbove b_D_countAbove 4 (some .int) :: TG) ({ frames := 2, cells := 0, slots := 0, locals := 47 }) (PC G H [.ref a, .int p1]) (QcRead (ca n f p1 n)) 0 0 (fun _ => False) := by
  refine Met.ofW (cc := b_D_countAbove) (maxL := 4) (ret := (some .int)) (by decide) rfl ?_
  intro p e s m args below meth c s₁ B hml hv
  obtain ⟨rfl, hH, hKN⟩ := hv
  subst hH
  have hx := B.exec
  have hb := B.bytes
  have hr := B.returns
  have hts := atoms_spec (ws := (Cond.code y_D_countAbove b_D_countAbove 4 (some .int) :: TG)) B.pre
  have ht : ∀ w ∈ TG, w.before _ s = true := fun w h => hts w (List.mem_cons_of_mem _ h)
  have hown : s.vm.findClass R_D = some m.cls := findClass_of_methodNamed B.named
  have hlocks := B.notSynchronized
  have hK := hKN.1
  have hl := lv_entry ([.ref a, .int p1]) (n := 4) (Nat.le_of_ble_eq_true rfl)
  rw [lg_entry_eq]
  generalize (lg_sl ([.ref a, .int p1]) ++ List.replicate (4 - (lg_sl ([.ref a, .int p1])).length) Slot.unset).toArray = ls at hl ⊢
  have hl : lv_has ls 4 [(0, .ref a), (1, .int p1)] := hl
  refine lv_iconst (v := 0) hx hb d_D_countAbove_0 (by decide) ?_
  refine lv_istore_n (lv' := [(2, .int 0), (0, .ref a), (1, .int p1)]) hx hb d_D_countAbove_1 rfl hl (by decide) rfl (fun ls hl => ?_)
  refine lv_iconst (v := 0) hx hb d_D_countAbove_2 (by decide) ?_
  refine lv_istore_n (lv' := [(3, .int 0), (2, .int 0), (0, .ref a), (1, .int p1)]) hx hb d_D_countAbove_3 rfl hl (by decide) rfl (fun ls hl => ?_)
  have loop : ∀ (kk j : Nat) (ls : Array Slot), j + kk = n → lv_has ls 4 [(0, .ref a), (1, .int p1), (2, .int (ca n f p1 j)), (3, .int (nI j))] → W p l e (headSpec (Cond.code y_D_countAbove b_D_countAbove 4 (some .int) :: TG) ({ frames := 2, cells := 0, slots := 0, locals := 47 })).room s m ([.ref a, .int p1] : List Value).toArray below meth c s.heap [] 0 0 (MQ below (QcRead (ca n f p1 n)) ([.ref a, .int p1] : List Value).toArray s 0 0 (fun _ => False)) (F0 m 4 ls []) := by
    intro kk
    induction kk with
    | zero =>
      intro j  ls hj  hl
      refine lv_iload_n hx hb d_D_countAbove_4 rfl (lv_at hl 3 rfl) ?_
      refine lv_aload_n hx hb d_D_countAbove_5 rfl (lv_at hl 0 rfl) ?_
      refine va_get (D := G.1) (ci := 1) (v := .int (nI n)) (C := R_D) (T := F_D) (N := 5) hx hb ht in_D hown hK hP 0 rfl rfl 3 (by decide) (ht _ kf_D_23) (fun _ h9 => h9) rfl d_D_countAbove_6 ?_
      refine lv_icmp_ge (tgt := 30) hx hb d_D_countAbove_9 (by decide) (fun c1 => ?_) (fun c1 => ?_)
      · refine lv_iload_n hx hb d_D_countAbove_30 rfl (lv_at hl 2 rfl) ?_
        exact W.iret (v := ca n f p1 j) hx hb hr (fun t h9 _ => ⟨congrArg (fun z => Outcome.returned (some (Value.int z))) (by rw [show j = n by omega]), h9⟩) (fun _ h => nomatch h) d_D_countAbove_31
      · exact absurd (show nI n ≤ nI j from nI_le (by omega) (by omega)) c1
    | succ kk ih =>
      intro j  ls hj  hl
      refine lv_iload_n hx hb d_D_countAbove_4 rfl (lv_at hl 3 rfl) ?_
      refine lv_aload_n hx hb d_D_countAbove_5 rfl (lv_at hl 0 rfl) ?_
      refine va_get (D := G.1) (ci := 1) (v := .int (nI n)) (C := R_D) (T := F_D) (N := 5) hx hb ht in_D hown hK hP 0 rfl rfl 3 (by decide) (ht _ kf_D_23) (fun _ h9 => h9) rfl d_D_countAbove_6 ?_
      refine lv_icmp_ge (tgt := 30) hx hb d_D_countAbove_9 (by decide) (fun c2 => ?_) (fun c2 => ?_)
      · exact absurd c2 (nI_ge (show j < n by omega) (by omega))
      · refine lv_aload_n hx hb d_D_countAbove_12 rfl (lv_at hl 0 rfl) ?_
        refine lv_iload_n hx hb d_D_countAbove_13 rfl (lv_at hl 3 rfl) ?_
        refine lv_iload_n hx hb d_D_countAbove_14 rfl (lv_at hl 1 rfl) ?_
        refine pr_i (ru_V (b := a) (As := [.int (nI j), .int p1]) (rest := []) ⟨hx, hb, hml, hown, ht⟩ hKN (c_D_isAbove l G _ a b sd k n fb f (nI j) p1 (hP.sub [0, 1] rfl) hn) kc_D_62 ⟨rfl, rfl⟩ ⟨Nat.le_of_ble_eq_true rfl, Nat.le_of_ble_eq_true rfl⟩ (va_recv hK hP (ci := 1) (q0 := 0) rfl rfl) rfl hl.1 rfl (Nat.le_of_ble_eq_true rfl) d_D_countAbove_15 ⟨Nat.le_of_ble_eq_true rfl, Nat.le_of_ble_eq_true rfl⟩) ?_
        refine lv_if_eq (tgt := 24) hx hb d_D_countAbove_18 (by decide) (fun c3 => ?_) (fun c3 => ?_)
        · refine lv_iinc (v := nI (j + 1)) (lv' := [(3, .int (nI (j + 1))), (0, .ref a), (1, .int p1), (2, .int (ca n f p1 j))]) hx hb d_D_countAbove_24 hl (k := 3) rfl (nI_1 j) (by decide) rfl (fun ls hl => ?_)
          refine lv_goto (tgt := 4) hx hb d_D_countAbove_27 (by decide) ?_
          exact ih (j + 1) ls (by omega) (by rw [show ca n f p1 (j + 1) = ca n f p1 j from by simp only [ca]; rw [if_pos c3]]; exact lv_sub hl [1, 2, 3, 0] rfl)
        · refine lv_iinc (v := (ca n f p1 j) + 1) (lv' := [(2, .int ((ca n f p1 j) + 1)), (0, .ref a), (1, .int p1), (3, .int (nI j))]) hx hb d_D_countAbove_21 hl (k := 2) rfl rfl (by decide) rfl (fun ls hl => ?_)
          refine lv_iinc (v := nI (j + 1)) (lv' := [(3, .int (nI (j + 1))), (2, .int ((ca n f p1 j) + 1)), (0, .ref a), (1, .int p1)]) hx hb d_D_countAbove_24 hl (k := 3) rfl (nI_1 j) (by decide) rfl (fun ls hl => ?_)
          refine lv_goto (tgt := 4) hx hb d_D_countAbove_27 (by decide) ?_
          exact ih (j + 1) ls (by omega) (by rw [show ca n f p1 (j + 1) = (ca n f p1 j) + 1 from by simp only [ca]; rw [if_neg c3]]; exact lv_sub hl [2, 3, 1, 0] rfl)
  exact loop n 0 ls (by omega) (by exact lv_sub hl [2, 3, 1, 0] rfl)
def gh (n : Nat) (f : Nat → Int64) : Nat → Int32
  | 0 => 0
  | i + 1 => if nI n / 2 ≤ ca n f (nI i) n then gh n f i else gh n f i ||| ((1 : Int32) <<< (nI i &&& 31))
set_option maxHeartbeats 4000000 in
set_option maxRecDepth 100000 in
theorem c_D_greaterHalf (l : Launch) (G : GT) (H : Heap) (a : Nat) (b : Nat) (sd : Int64) (k : Int32) (n : Nat) (fb : Int32) (f : Nat → Int64) (hP : va_P G.1 classes [(a, .inr (1, [.ref b, .long sd, .int k, .int (nI n), .int fb])), (b, .inl (G.2.1, 16, .inr (.inl f)))] H) (hn : n ≤ 16) : Met l y_D_greaterHalf (Cond.code y_D_greaterHalf b_D_greaterHalf 3 (some .int) :: TG) ({ frames := 3, cells := 0, slots := 0, locals := 70 }) (PC G H [.ref a]) (QcRead (gh n f n)) 0 0 (fun _ => False) := by
  refine Met.ofW (cc := b_D_greaterHalf) (maxL := 3) (ret := (some .int)) (by decide) rfl ?_
  intro p e s m args below meth c s₁ B hml hv
  obtain ⟨rfl, hH, hKN⟩ := hv
  subst hH
  have hx := B.exec
  have hb := B.bytes
  have hr := B.returns
  have hts := atoms_spec (ws := (Cond.code y_D_greaterHalf b_D_greaterHalf 3 (some .int) :: TG)) B.pre
  have ht : ∀ w ∈ TG, w.before _ s = true := fun w h => hts w (List.mem_cons_of_mem _ h)
  have hown : s.vm.findClass R_D = some m.cls := findClass_of_methodNamed B.named
  have hlocks := B.notSynchronized
  have hK := hKN.1
  have hl := lv_entry ([.ref a]) (n := 3) (Nat.le_of_ble_eq_true rfl)
  rw [lg_entry_eq]
  generalize (lg_sl ([.ref a]) ++ List.replicate (3 - (lg_sl ([.ref a])).length) Slot.unset).toArray = ls at hl ⊢
  have hl : lv_has ls 3 [(0, .ref a)] := hl
  refine lv_iconst (v := 0) hx hb d_D_greaterHalf_0 (by decide) ?_
  refine lv_istore_n (lv' := [(1, .int 0), (0, .ref a)]) hx hb d_D_greaterHalf_1 rfl hl (by decide) rfl (fun ls hl => ?_)
  refine lv_iconst (v := 0) hx hb d_D_greaterHalf_2 (by decide) ?_
  refine lv_istore_n (lv' := [(2, .int 0), (1, .int 0), (0, .ref a)]) hx hb d_D_greaterHalf_3 rfl hl (by decide) rfl (fun ls hl => ?_)
  have loop : ∀ (kk j : Nat) (ls : Array Slot), j + kk = n → lv_has ls 3 [(0, .ref a), (1, .int (gh n f j)), (2, .int (nI j))] → W p l e (headSpec (Cond.code y_D_greaterHalf b_D_greaterHalf 3 (some .int) :: TG) ({ frames := 3, cells := 0, slots := 0, locals := 70 })).room s m ([.ref a] : List Value).toArray below meth c s.heap [] 0 0 (MQ below (QcRead (gh n f n)) ([.ref a] : List Value).toArray s 0 0 (fun _ => False)) (F0 m 4 ls []) := by
    intro kk
    induction kk with
    | zero =>
      intro j  ls hj  hl
      refine lv_iload_n hx hb d_D_greaterHalf_4 rfl (lv_at hl 2 rfl) ?_
      refine lv_aload_n hx hb d_D_greaterHalf_5 rfl (lv_at hl 0 rfl) ?_
      refine va_get (D := G.1) (ci := 1) (v := .int (nI n)) (C := R_D) (T := F_D) (N := 5) hx hb ht in_D hown hK hP 0 rfl rfl 3 (by decide) (ht _ kf_D_23) (fun _ h9 => h9) rfl d_D_greaterHalf_6 ?_
      refine lv_icmp_ge (tgt := 38) hx hb d_D_greaterHalf_9 (by decide) (fun c1 => ?_) (fun c1 => ?_)
      · refine lv_iload_n hx hb d_D_greaterHalf_38 rfl (lv_at hl 1 rfl) ?_
        exact W.iret (v := gh n f j) hx hb hr (fun t h9 _ => ⟨congrArg (fun z => Outcome.returned (some (Value.int z))) (by rw [show j = n by omega]), h9⟩) (fun _ h => nomatch h) d_D_greaterHalf_39
      · exact absurd (show nI n ≤ nI j from nI_le (by omega) (by omega)) c1
    | succ kk ih =>
      intro j  ls hj  hl
      refine lv_iload_n hx hb d_D_greaterHalf_4 rfl (lv_at hl 2 rfl) ?_
      refine lv_aload_n hx hb d_D_greaterHalf_5 rfl (lv_at hl 0 rfl) ?_
      refine va_get (D := G.1) (ci := 1) (v := .int (nI n)) (C := R_D) (T := F_D) (N := 5) hx hb ht in_D hown hK hP 0 rfl rfl 3 (by decide) (ht _ kf_D_23) (fun _ h9 => h9) rfl d_D_greaterHalf_6 ?_
      refine lv_icmp_ge (tgt := 38) hx hb d_D_greaterHalf_9 (by decide) (fun c2 => ?_) (fun c2 => ?_)
      · exact absurd c2 (nI_ge (show j < n by omega) (by omega))
      · refine lv_aload_n hx hb d_D_greaterHalf_12 rfl (lv_at hl 0 rfl) ?_
        refine lv_iload_n hx hb d_D_greaterHalf_13 rfl (lv_at hl 2 rfl) ?_
        refine pr_i (ru_V (b := a) (As := [.int (nI j)]) (rest := []) ⟨hx, hb, hml, hown, ht⟩ hKN (c_D_countAbove l G _ a b sd k n fb f (nI j) (hP.sub [0, 1] rfl) hn) kc_D_58 ⟨rfl, rfl⟩ ⟨Nat.le_of_ble_eq_true rfl, Nat.le_of_ble_eq_true rfl⟩ (va_recv hK hP (ci := 1) (q0 := 0) rfl rfl) rfl hl.1 rfl (Nat.le_of_ble_eq_true rfl) d_D_greaterHalf_14 ⟨Nat.le_of_ble_eq_true rfl, Nat.le_of_ble_eq_true rfl⟩) ?_
        refine lv_aload_n hx hb d_D_greaterHalf_17 rfl (lv_at hl 0 rfl) ?_
        refine va_get (D := G.1) (ci := 1) (v := .int (nI n)) (C := R_D) (T := F_D) (N := 5) hx hb ht in_D hown hK hP 0 rfl rfl 3 (by decide) (ht _ kf_D_23) (fun _ h9 => h9) rfl d_D_greaterHalf_18 ?_
        refine lv_iconst (v := 2) hx hb d_D_greaterHalf_21 (by decide) ?_
        refine lv_idiv hx hb d_D_greaterHalf_22 (by decide) ?_
        refine lv_icmp_ge (tgt := 32) hx hb d_D_greaterHalf_23 (by decide) (fun c3 => ?_) (fun c3 => ?_)
        · refine lv_iinc (v := nI (j + 1)) (lv' := [(2, .int (nI (j + 1))), (0, .ref a), (1, .int (gh n f j))]) hx hb d_D_greaterHalf_32 hl (k := 2) rfl (nI_1 j) (by decide) rfl (fun ls hl => ?_)
          refine lv_goto (tgt := 4) hx hb d_D_greaterHalf_35 (by decide) ?_
          exact ih (j + 1) ls (by omega) (by rw [show gh n f (j + 1) = gh n f j from by simp only [gh]; rw [if_pos c3]]; exact lv_sub hl [1, 2, 0] rfl)
        · refine lv_iload_n hx hb d_D_greaterHalf_26 rfl (lv_at hl 1 rfl) ?_
          refine lv_iconst (v := 1) hx hb d_D_greaterHalf_27 (by decide) ?_
          refine lv_iload_n hx hb d_D_greaterHalf_28 rfl (lv_at hl 2 rfl) ?_
          refine lv_ishl hx hb d_D_greaterHalf_29 ?_
          refine lv_ior hx hb d_D_greaterHalf_30 ?_
          refine lv_istore_n (lv' := [(1, .int ((gh n f j) ||| ((1 : Int32) <<< ((nI j) &&& 31)))), (0, .ref a), (2, .int (nI j))]) hx hb d_D_greaterHalf_31 rfl hl (by decide) rfl (fun ls hl => ?_)
          refine lv_iinc (v := nI (j + 1)) (lv' := [(2, .int (nI (j + 1))), (1, .int ((gh n f j) ||| ((1 : Int32) <<< ((nI j) &&& 31)))), (0, .ref a)]) hx hb d_D_greaterHalf_32 hl (k := 2) rfl (nI_1 j) (by decide) rfl (fun ls hl => ?_)
          refine lv_goto (tgt := 4) hx hb d_D_greaterHalf_35 (by decide) ?_
          exact ih (j + 1) ls (by omega) (by rw [show gh n f (j + 1) = ((gh n f j) ||| ((1 : Int32) <<< ((nI j) &&& 31))) from by simp only [gh]; rw [if_neg c3]]; exact lv_sub hl [2, 1, 0] rfl)
  exact loop n 0 ls (by omega) (by exact lv_sub hl [2, 1, 0] rfl)
end
