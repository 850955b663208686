-- ===== PART A: goes FIRST, ahead of the names: the tables' words, and 'selects' of the private methods out of them =====
/-- a private method of a class that the tables say can be made, by its rows of tables_1 -/
def lw_okq (q : MethodName × Nat) : Prop := (q.1.cls ≠ "java/lang/invoke/MethodHandle" ∧ q.1.cls ≠ "java/lang/invoke/VarHandle") ∧ Cond.instantiable q.1.cls q.2 ∈ tables_1 ∧ Cond.privateMethod q.1 ∈ tables_1 ∧ Cond.instanceMethod q.1 ∈ tables_1
theorem lw_p0 : lw_okq (⟨"ClerkRows", "isTime", "(J)Z"⟩, 6) := ⟨⟨by decide +kernel, by decide +kernel⟩, List.mem_of_getElem? (i := 8) (by decide +kernel), List.mem_of_getElem? (i := 79) (by decide +kernel), List.mem_of_getElem? (i := 80) (by decide +kernel)⟩
theorem lw_p1 : lw_okq (⟨"ClerkRows", "findClerk", "(I)LClerkRows$Clerk;"⟩, 6) := ⟨⟨by decide +kernel, by decide +kernel⟩, List.mem_of_getElem? (i := 8) (by decide +kernel), List.mem_of_getElem? (i := 133) (by decide +kernel), List.mem_of_getElem? (i := 134) (by decide +kernel)⟩
theorem lw_p2 : lw_okq (⟨"ClerkRows", "passTo", "(J)V"⟩, 6) := ⟨⟨by decide +kernel, by decide +kernel⟩, List.mem_of_getElem? (i := 8) (by decide +kernel), List.mem_of_getElem? (i := 137) (by decide +kernel), List.mem_of_getElem? (i := 138) (by decide +kernel)⟩
theorem lw_p3 : lw_okq (⟨"ClerkRows", "findGiven", "(LClerkRows$Clerk;)LClerkRows$Picture;"⟩, 6) := ⟨⟨by decide +kernel, by decide +kernel⟩, List.mem_of_getElem? (i := 8) (by decide +kernel), List.mem_of_getElem? (i := 141) (by decide +kernel), List.mem_of_getElem? (i := 142) (by decide +kernel)⟩
theorem lw_p4 : lw_okq (⟨"ClerkRows$Picture", "isWanting", "()Z"⟩, 8) := ⟨⟨by decide +kernel, by decide +kernel⟩, List.mem_of_getElem? (i := 94) (by decide +kernel), List.mem_of_getElem? (i := 150) (by decide +kernel), List.mem_of_getElem? (i := 151) (by decide +kernel)⟩
theorem lw_p5 : lw_okq (⟨"ClerkRows$Picture", "isBarredBy", "(LClerkRows$Clerk;)Z"⟩, 8) := ⟨⟨by decide +kernel, by decide +kernel⟩, List.mem_of_getElem? (i := 94) (by decide +kernel), List.mem_of_getElem? (i := 154) (by decide +kernel), List.mem_of_getElem? (i := 155) (by decide +kernel)⟩
theorem lw_p6 : lw_okq (⟨"ClerkRows", "findPicture", "(I)LClerkRows$Picture;"⟩, 6) := ⟨⟨by decide +kernel, by decide +kernel⟩, List.mem_of_getElem? (i := 8) (by decide +kernel), List.mem_of_getElem? (i := 194) (by decide +kernel), List.mem_of_getElem? (i := 195) (by decide +kernel)⟩
theorem lw_p7 : lw_okq (⟨"ClerkRows$Picture", "hasEntry", "(I)Z"⟩, 8) := ⟨⟨by decide +kernel, by decide +kernel⟩, List.mem_of_getElem? (i := 94) (by decide +kernel), List.mem_of_getElem? (i := 202) (by decide +kernel), List.mem_of_getElem? (i := 203) (by decide +kernel)⟩
theorem lw_p8 : lw_okq (⟨"ClerkRows$Picture", "endAlike", "(I)V"⟩, 8) := ⟨⟨by decide +kernel, by decide +kernel⟩, List.mem_of_getElem? (i := 94) (by decide +kernel), List.mem_of_getElem? (i := 206) (by decide +kernel), List.mem_of_getElem? (i := 207) (by decide +kernel)⟩
theorem lw_p9 : lw_okq (⟨"ClerkRowsModel", "isTime", "(J)Z"⟩, 17) := ⟨⟨by decide +kernel, by decide +kernel⟩, List.mem_of_getElem? (i := 248) (by decide +kernel), List.mem_of_getElem? (i := 313) (by decide +kernel), List.mem_of_getElem? (i := 314) (by decide +kernel)⟩
theorem lw_p10 : lw_okq (⟨"ClerkRowsModel", "open", "()I"⟩, 17) := ⟨⟨by decide +kernel, by decide +kernel⟩, List.mem_of_getElem? (i := 248) (by decide +kernel), List.mem_of_getElem? (i := 322) (by decide +kernel), List.mem_of_getElem? (i := 323) (by decide +kernel)⟩
theorem lw_p11 : lw_okq (⟨"ClerkRowsModel", "held", "(I)I"⟩, 17) := ⟨⟨by decide +kernel, by decide +kernel⟩, List.mem_of_getElem? (i := 248) (by decide +kernel), List.mem_of_getElem? (i := 334) (by decide +kernel), List.mem_of_getElem? (i := 335) (by decide +kernel)⟩
theorem lw_p12 : lw_okq (⟨"ClerkRowsModel", "pass", "(J)V"⟩, 17) := ⟨⟨by decide +kernel, by decide +kernel⟩, List.mem_of_getElem? (i := 248) (by decide +kernel), List.mem_of_getElem? (i := 338) (by decide +kernel), List.mem_of_getElem? (i := 339) (by decide +kernel)⟩
theorem lw_p13 : lw_okq (⟨"ClerkRowsModel", "isFree", "(II)Z"⟩, 17) := ⟨⟨by decide +kernel, by decide +kernel⟩, List.mem_of_getElem? (i := 248) (by decide +kernel), List.mem_of_getElem? (i := 342) (by decide +kernel), List.mem_of_getElem? (i := 343) (by decide +kernel)⟩
theorem lw_p14 : lw_okq (⟨"ClerkRowsModel", "isTaken", "(I)Z"⟩, 17) := ⟨⟨by decide +kernel, by decide +kernel⟩, List.mem_of_getElem? (i := 248) (by decide +kernel), List.mem_of_getElem? (i := 346) (by decide +kernel), List.mem_of_getElem? (i := 347) (by decide +kernel)⟩
theorem lw_p15 : lw_okq (⟨"ClerkRowsModel", "differ", "(I)Z"⟩, 17) := ⟨⟨by decide +kernel, by decide +kernel⟩, List.mem_of_getElem? (i := 248) (by decide +kernel), List.mem_of_getElem? (i := 350) (by decide +kernel), List.mem_of_getElem? (i := 351) (by decide +kernel)⟩
def lw_privs_1 : List (MethodName × Nat) := [(⟨"ClerkRows", "isTime", "(J)Z"⟩, 6), (⟨"ClerkRows", "findClerk", "(I)LClerkRows$Clerk;"⟩, 6), (⟨"ClerkRows", "passTo", "(J)V"⟩, 6), (⟨"ClerkRows", "findGiven", "(LClerkRows$Clerk;)LClerkRows$Picture;"⟩, 6), (⟨"ClerkRows$Picture", "isWanting", "()Z"⟩, 8), (⟨"ClerkRows$Picture", "isBarredBy", "(LClerkRows$Clerk;)Z"⟩, 8), (⟨"ClerkRows", "findPicture", "(I)LClerkRows$Picture;"⟩, 6), (⟨"ClerkRows$Picture", "hasEntry", "(I)Z"⟩, 8), (⟨"ClerkRows$Picture", "endAlike", "(I)V"⟩, 8), (⟨"ClerkRowsModel", "isTime", "(J)Z"⟩, 17), (⟨"ClerkRowsModel", "open", "()I"⟩, 17), (⟨"ClerkRowsModel", "held", "(I)I"⟩, 17), (⟨"ClerkRowsModel", "pass", "(J)V"⟩, 17), (⟨"ClerkRowsModel", "isFree", "(II)Z"⟩, 17), (⟨"ClerkRowsModel", "isTaken", "(I)Z"⟩, 17), (⟨"ClerkRowsModel", "differ", "(I)Z"⟩, 17)]
theorem lw_r1 : ∀ q ∈ lw_privs_1, lw_okq q := List.forall_mem_cons.mpr ⟨lw_p0, List.forall_mem_cons.mpr ⟨lw_p1, List.forall_mem_cons.mpr ⟨lw_p2, List.forall_mem_cons.mpr ⟨lw_p3, List.forall_mem_cons.mpr ⟨lw_p4, List.forall_mem_cons.mpr ⟨lw_p5, List.forall_mem_cons.mpr ⟨lw_p6, List.forall_mem_cons.mpr ⟨lw_p7, List.forall_mem_cons.mpr ⟨lw_p8, List.forall_mem_cons.mpr ⟨lw_p9, List.forall_mem_cons.mpr ⟨lw_p10, List.forall_mem_cons.mpr ⟨lw_p11, List.forall_mem_cons.mpr ⟨lw_p12, List.forall_mem_cons.mpr ⟨lw_p13, List.forall_mem_cons.mpr ⟨lw_p14, List.forall_mem_cons.mpr ⟨lw_p15, fun _ h => absurd h List.not_mem_nil⟩⟩⟩⟩⟩⟩⟩⟩⟩⟩⟩⟩⟩⟩⟩⟩
theorem lw_p16 : lw_okq (⟨"ClerkRowsModel", "isPicture", "(I)Z"⟩, 17) := ⟨⟨by decide +kernel, by decide +kernel⟩, List.mem_of_getElem? (i := 248) (by decide +kernel), List.mem_of_getElem? (i := 358) (by decide +kernel), List.mem_of_getElem? (i := 359) (by decide +kernel)⟩
theorem lw_p17 : lw_okq (⟨"ClerkRowsModel", "take", "(II)V"⟩, 17) := ⟨⟨by decide +kernel, by decide +kernel⟩, List.mem_of_getElem? (i := 248) (by decide +kernel), List.mem_of_getElem? (i := 363) (by decide +kernel), List.mem_of_getElem? (i := 364) (by decide +kernel)⟩
theorem lw_p18 : lw_okq (⟨"ClerkRowsModel", "stateOf", "(I)I"⟩, 17) := ⟨⟨by decide +kernel, by decide +kernel⟩, List.mem_of_getElem? (i := 248) (by decide +kernel), List.mem_of_getElem? (i := 367) (by decide +kernel), List.mem_of_getElem? (i := 368) (by decide +kernel)⟩
def lw_privs_2 : List (MethodName × Nat) := [(⟨"ClerkRowsModel", "isPicture", "(I)Z"⟩, 17), (⟨"ClerkRowsModel", "take", "(II)V"⟩, 17), (⟨"ClerkRowsModel", "stateOf", "(I)I"⟩, 17)]
theorem lw_r2 : ∀ q ∈ lw_privs_2, lw_okq q := List.forall_mem_cons.mpr ⟨lw_p16, List.forall_mem_cons.mpr ⟨lw_p17, List.forall_mem_cons.mpr ⟨lw_p18, fun _ h => absurd h List.not_mem_nil⟩⟩⟩
def lw_privs : List (MethodName × Nat) := lw_privs_1 ++ (lw_privs_2)
def lw_tbl : List Cond := k2_sels lw_privs ++ tables_1
theorem lw_privs_ok : ∀ q ∈ lw_privs, lw_okq q := by
  show ∀ q ∈ lw_privs_1 ++ (lw_privs_2), lw_okq q
  exact List.forall_mem_append.mpr ⟨lw_r1, lw_r2⟩
-- names
abbrev R_ClerkRows : String := "ClerkRows"
def F_ClerkRows : u_T := fun k => match k with
  | 0 => ("ClerkRows", "mostOpen", "I", true)
  | 1 => ("ClerkRows", "pictures", "[LClerkRows$Picture;", true)
  | 2 => ("ClerkRows", "clerks", "[LClerkRows$Clerk;", true)
  | 3 => ("ClerkRows", "made", "I", false)
  | 4 => ("ClerkRows", "now", "J", false)
  | _ => ("ClerkRows", "lateSinceTick", "I", false)
def t_ClerkRows : Nat → FieldType := fun k => match k with
  | 0 => .int
  | 1 => .array (.object "ClerkRows$Picture")
  | 2 => .array (.object "ClerkRows$Clerk")
  | 3 => .int
  | 4 => .long
  | _ => .int
theorem n_ClerkRows : ∀ a, a < 6 → ∀ b, b < 6 → a ≠ b → (F_ClerkRows a).2.1 ≠ (F_ClerkRows b).2.1 := by decide +kernel
theorem t_ClerkRows_ok : ∀ k, k < 6 → parseFieldDescriptor (F_ClerkRows k).2.2.1 = some (t_ClerkRows k) := by decide +kernel
abbrev R_Clerk : String := "ClerkRows$Clerk"
def F_Clerk : u_T := fun k => match k with
  | 0 => ("ClerkRows$Clerk", "number", "I", true)
  | 1 => ("ClerkRows$Clerk", "in", "Z", false)
  | 2 => ("ClerkRows$Clerk", "office", "I", false)
  | 3 => ("ClerkRows$Clerk", "skill", "I", false)
  | _ => ("ClerkRows$Clerk", "turn", "LClerkRows$Turn;", false)
def t_Clerk : Nat → FieldType := fun k => match k with
  | 0 => .int
  | 1 => .boolean
  | 2 => .int
  | 3 => .int
  | _ => .object "ClerkRows$Turn"
theorem n_Clerk : ∀ a, a < 5 → ∀ b, b < 5 → a ≠ b → (F_Clerk a).2.1 ≠ (F_Clerk b).2.1 := by decide +kernel
theorem t_Clerk_ok : ∀ k, k < 5 → parseFieldDescriptor (F_Clerk k).2.2.1 = some (t_Clerk k) := by decide +kernel
abbrev R_Turn : String := "ClerkRows$Turn"
def F_Turn : u_T := fun k => match k with
  | 0 => ("ClerkRows$Turn", "picture", "I", true)
  | 1 => ("ClerkRows$Turn", "clerk", "I", true)
  | 2 => ("ClerkRows$Turn", "office", "I", true)
  | 3 => ("ClerkRows$Turn", "earlier", "LClerkRows$Turn;", true)
  | _ => ("ClerkRows$Turn", "entry", "I", false)
def t_Turn : Nat → FieldType := fun k => match k with
  | 0 => .int
  | 1 => .int
  | 2 => .int
  | 3 => .object "ClerkRows$Turn"
  | _ => .int
theorem n_Turn : ∀ a, a < 5 → ∀ b, b < 5 → a ≠ b → (F_Turn a).2.1 ≠ (F_Turn b).2.1 := by decide +kernel
theorem t_Turn_ok : ∀ k, k < 5 → parseFieldDescriptor (F_Turn k).2.2.1 = some (t_Turn k) := by decide +kernel
abbrev R_Picture : String := "ClerkRows$Picture"
def F_Picture : u_T := fun k => match k with
  | 0 => ("ClerkRows$Picture", "number", "I", true)
  | 1 => ("ClerkRows$Picture", "due", "J", true)
  | 2 => ("ClerkRows$Picture", "skill", "I", true)
  | 3 => ("ClerkRows$Picture", "wants", "I", false)
  | 4 => ("ClerkRows$Picture", "answers", "I", false)
  | 5 => ("ClerkRows$Picture", "end", "I", false)
  | 6 => ("ClerkRows$Picture", "settledWith", "I", false)
  | _ => ("ClerkRows$Picture", "last", "LClerkRows$Turn;", false)
def t_Picture : Nat → FieldType := fun k => match k with
  | 0 => .int
  | 1 => .long
  | 2 => .int
  | 3 => .int
  | 4 => .int
  | 5 => .int
  | 6 => .int
  | _ => .object "ClerkRows$Turn"
theorem n_Picture : ∀ a, a < 8 → ∀ b, b < 8 → a ≠ b → (F_Picture a).2.1 ≠ (F_Picture b).2.1 := by decide +kernel
theorem t_Picture_ok : ∀ k, k < 8 → parseFieldDescriptor (F_Picture k).2.2.1 = some (t_Picture k) := by decide +kernel
abbrev R_Model : String := "ClerkRowsModel"
def F_Model : u_T := fun k => match k with
  | 0 => ("ClerkRowsModel", "thrown", "I", false)
  | 1 => ("ClerkRowsModel", "most", "I", true)
  | 2 => ("ClerkRowsModel", "count", "I", false)
  | 3 => ("ClerkRowsModel", "dues", "[J", true)
  | 4 => ("ClerkRowsModel", "skills", "[I", true)
  | 5 => ("ClerkRowsModel", "ends", "[I", true)
  | 6 => ("ClerkRowsModel", "settled", "[I", true)
  | 7 => ("ClerkRowsModel", "answers", "[I", true)
  | 8 => ("ClerkRowsModel", "entries", "[I", true)
  | 9 => ("ClerkRowsModel", "did", "[I", true)
  | 10 => ("ClerkRowsModel", "where", "[I", true)
  | 11 => ("ClerkRowsModel", "said", "[I", true)
  | 12 => ("ClerkRowsModel", "in", "[Z", true)
  | 13 => ("ClerkRowsModel", "offices", "[I", true)
  | 14 => ("ClerkRowsModel", "levels", "[I", true)
  | 15 => ("ClerkRowsModel", "now", "J", false)
  | _ => ("ClerkRowsModel", "late", "I", false)
def t_Model : Nat → FieldType := fun k => match k with
  | 0 => .int
  | 1 => .int
  | 2 => .int
  | 3 => .array (.long)
  | 4 => .array (.int)
  | 5 => .array (.int)
  | 6 => .array (.int)
  | 7 => .array (.int)
  | 8 => .array (.int)
  | 9 => .array (.int)
  | 10 => .array (.int)
  | 11 => .array (.int)
  | 12 => .array (.boolean)
  | 13 => .array (.int)
  | 14 => .array (.int)
  | 15 => .long
  | _ => .int
theorem n_Model : ∀ a, a < 17 → ∀ b, b < 17 → a ≠ b → (F_Model a).2.1 ≠ (F_Model b).2.1 := by decide +kernel
theorem t_Model_ok : ∀ k, k < 17 → parseFieldDescriptor (F_Model k).2.2.1 = some (t_Model k) := by decide +kernel
abbrev R_Law : String := "ClerkRowsLaw"
abbrev classes : List vw_C := [(R_ClerkRows, F_ClerkRows, 6), (R_Clerk, F_Clerk, 5), (R_Turn, F_Turn, 5), (R_Picture, F_Picture, 8), (R_Model, F_Model, 17)]
abbrev ty (ca : Nat → ClassId) : List (ClassId × FieldType) := [(ca 0, .object "ClerkRows$Picture"), (ca 1, .object "ClerkRows$Clerk"), (ca 2, .int), (ca 3, .long), (ca 4, .boolean)]
abbrev b_ClerkRows_init : ByteArray := prog_1_method_1_code
abbrev y_ClerkRows_init : MethodName := ⟨R_ClerkRows, "<init>", "(I)V"⟩
abbrev b_ClerkRows_picture : ByteArray := prog_1_method_2_code
abbrev y_ClerkRows_picture : MethodName := ⟨R_ClerkRows, "picture", "(JI)I"⟩
abbrev b_ClerkRows_give : ByteArray := prog_1_method_3_code
abbrev y_ClerkRows_give : MethodName := ⟨R_ClerkRows, "give", "(IJ)I"⟩
abbrev b_ClerkRows_answer : ByteArray := prog_1_method_4_code
abbrev y_ClerkRows_answer : MethodName := ⟨R_ClerkRows, "answer", "(IIIJ)I"⟩
abbrev b_ClerkRows_office : ByteArray := prog_1_method_5_code
abbrev y_ClerkRows_office : MethodName := ⟨R_ClerkRows, "office", "(III)I"⟩
abbrev b_ClerkRows_leave : ByteArray := prog_1_method_6_code
abbrev y_ClerkRows_leave : MethodName := ⟨R_ClerkRows, "leave", "(I)I"⟩
abbrev b_ClerkRows_tick : ByteArray := prog_1_method_7_code
abbrev y_ClerkRows_tick : MethodName := ⟨R_ClerkRows, "tick", "(J)I"⟩
abbrev b_ClerkRows_settled : ByteArray := prog_1_method_8_code
abbrev y_ClerkRows_settled : MethodName := ⟨R_ClerkRows, "settled", "(I)I"⟩
abbrev b_ClerkRows_state : ByteArray := prog_1_method_9_code
abbrev y_ClerkRows_state : MethodName := ⟨R_ClerkRows, "state", "(I)I"⟩
abbrev b_ClerkRows_agreement : ByteArray := prog_1_method_10_code
abbrev y_ClerkRows_agreement : MethodName := ⟨R_ClerkRows, "agreement", "(III)J"⟩
abbrev b_ClerkRows_waiting : ByteArray := prog_1_method_11_code
abbrev y_ClerkRows_waiting : MethodName := ⟨R_ClerkRows, "waiting", "()I"⟩
abbrev b_ClerkRows_isWithin : ByteArray := prog_1_method_12_code
abbrev y_ClerkRows_isWithin : MethodName := ⟨R_ClerkRows, "isWithin", "(II)Z"⟩
abbrev b_ClerkRows_isTime : ByteArray := prog_1_method_13_code
abbrev y_ClerkRows_isTime : MethodName := ⟨R_ClerkRows, "isTime", "(J)Z"⟩
abbrev b_ClerkRows_findClerk : ByteArray := prog_1_method_14_code
abbrev y_ClerkRows_findClerk : MethodName := ⟨R_ClerkRows, "findClerk", "(I)LClerkRows$Clerk;"⟩
abbrev b_ClerkRows_findPicture : ByteArray := prog_1_method_15_code
abbrev y_ClerkRows_findPicture : MethodName := ⟨R_ClerkRows, "findPicture", "(I)LClerkRows$Picture;"⟩
abbrev b_ClerkRows_passTo : ByteArray := prog_1_method_16_code
abbrev y_ClerkRows_passTo : MethodName := ⟨R_ClerkRows, "passTo", "(J)V"⟩
abbrev b_ClerkRows_findGiven : ByteArray := prog_1_method_17_code
abbrev y_ClerkRows_findGiven : MethodName := ⟨R_ClerkRows, "findGiven", "(LClerkRows$Clerk;)LClerkRows$Picture;"⟩
abbrev b_Model_init : ByteArray := prog_6_method_1_code
abbrev y_Model_init : MethodName := ⟨R_Model, "<init>", "(I)V"⟩
abbrev b_Model_isIn : ByteArray := prog_6_method_3_code
abbrev y_Model_isIn : MethodName := ⟨R_Model, "isIn", "(JJJ)Z"⟩
abbrev b_Model_isPicture : ByteArray := prog_6_method_4_code
abbrev y_Model_isPicture : MethodName := ⟨R_Model, "isPicture", "(I)Z"⟩
abbrev b_Model_isClerk : ByteArray := prog_6_method_5_code
abbrev y_Model_isClerk : MethodName := ⟨R_Model, "isClerk", "(I)Z"⟩
abbrev b_Model_isTime : ByteArray := prog_6_method_6_code
abbrev y_Model_isTime : MethodName := ⟨R_Model, "isTime", "(J)Z"⟩
abbrev b_Model_open : ByteArray := prog_6_method_7_code
abbrev y_Model_open : MethodName := ⟨R_Model, "open", "()I"⟩
abbrev b_Model_picture : ByteArray := prog_6_method_8_code
abbrev y_Model_picture : MethodName := ⟨R_Model, "picture", "(JI)I"⟩
abbrev b_Model_pass : ByteArray := prog_6_method_9_code
abbrev y_Model_pass : MethodName := ⟨R_Model, "pass", "(J)V"⟩
abbrev b_Model_held : ByteArray := prog_6_method_10_code
abbrev y_Model_held : MethodName := ⟨R_Model, "held", "(I)I"⟩
abbrev b_Model_differ : ByteArray := prog_6_method_11_code
abbrev y_Model_differ : MethodName := ⟨R_Model, "differ", "(I)Z"⟩
abbrev b_Model_isTaken : ByteArray := prog_6_method_12_code
abbrev y_Model_isTaken : MethodName := ⟨R_Model, "isTaken", "(I)Z"⟩
abbrev b_Model_isFree : ByteArray := prog_6_method_13_code
abbrev y_Model_isFree : MethodName := ⟨R_Model, "isFree", "(II)Z"⟩
abbrev b_Model_give : ByteArray := prog_6_method_14_code
abbrev y_Model_give : MethodName := ⟨R_Model, "give", "(IJ)I"⟩
abbrev b_Model_stateOf : ByteArray := prog_6_method_15_code
abbrev y_Model_stateOf : MethodName := ⟨R_Model, "stateOf", "(I)I"⟩
abbrev b_Model_take : ByteArray := prog_6_method_16_code
abbrev y_Model_take : MethodName := ⟨R_Model, "take", "(II)V"⟩
abbrev b_Model_answer : ByteArray := prog_6_method_17_code
abbrev y_Model_answer : MethodName := ⟨R_Model, "answer", "(IIIJ)I"⟩
abbrev b_Model_office : ByteArray := prog_6_method_18_code
abbrev y_Model_office : MethodName := ⟨R_Model, "office", "(III)I"⟩
abbrev b_Model_leave : ByteArray := prog_6_method_19_code
abbrev y_Model_leave : MethodName := ⟨R_Model, "leave", "(I)I"⟩
abbrev b_Model_tick : ByteArray := prog_6_method_20_code
abbrev y_Model_tick : MethodName := ⟨R_Model, "tick", "(J)I"⟩
abbrev b_Model_settled : ByteArray := prog_6_method_21_code
abbrev y_Model_settled : MethodName := ⟨R_Model, "settled", "(I)I"⟩
abbrev b_Model_state : ByteArray := prog_6_method_22_code
abbrev y_Model_state : MethodName := ⟨R_Model, "state", "(I)I"⟩
abbrev b_Model_agreement : ByteArray := prog_6_method_23_code
abbrev y_Model_agreement : MethodName := ⟨R_Model, "agreement", "(III)J"⟩
abbrev b_Model_waiting : ByteArray := prog_6_method_24_code
abbrev y_Model_waiting : MethodName := ⟨R_Model, "waiting", "()I"⟩
abbrev b_Clerk_init : ByteArray := prog_2_method_1_code
abbrev y_Clerk_init : MethodName := ⟨R_Clerk, "<init>", "(I)V"⟩
abbrev b_Picture_init : ByteArray := prog_3_method_1_code
abbrev y_Picture_init : MethodName := ⟨R_Picture, "<init>", "(IJI)V"⟩
abbrev b_Picture_hasEnded : ByteArray := prog_3_method_2_code
abbrev y_Picture_hasEnded : MethodName := ⟨R_Picture, "hasEnded", "()Z"⟩
abbrev b_Picture_findState : ByteArray := prog_3_method_3_code
abbrev y_Picture_findState : MethodName := ⟨R_Picture, "findState", "()I"⟩
abbrev b_Picture_isFreeFor : ByteArray := prog_3_method_4_code
abbrev y_Picture_isFreeFor : MethodName := ⟨R_Picture, "isFreeFor", "(LClerkRows$Clerk;)Z"⟩
abbrev b_Picture_addTurn : ByteArray := prog_3_method_5_code
abbrev y_Picture_addTurn : MethodName := ⟨R_Picture, "addTurn", "(LClerkRows$Clerk;)LClerkRows$Turn;"⟩
abbrev b_Picture_takeEntry : ByteArray := prog_3_method_6_code
abbrev y_Picture_takeEntry : MethodName := ⟨R_Picture, "takeEntry", "(LClerkRows$Turn;I)V"⟩
abbrev b_Picture_findEntry : ByteArray := prog_3_method_7_code
abbrev y_Picture_findEntry : MethodName := ⟨R_Picture, "findEntry", "(I)I"⟩
abbrev b_Picture_endAlike : ByteArray := prog_3_method_8_code
abbrev y_Picture_endAlike : MethodName := ⟨R_Picture, "endAlike", "(I)V"⟩
abbrev b_Picture_hasEntry : ByteArray := prog_3_method_9_code
abbrev y_Picture_hasEntry : MethodName := ⟨R_Picture, "hasEntry", "(I)Z"⟩
abbrev b_Picture_isWanting : ByteArray := prog_3_method_10_code
abbrev y_Picture_isWanting : MethodName := ⟨R_Picture, "isWanting", "()Z"⟩
abbrev b_Picture_isBarredBy : ByteArray := prog_3_method_11_code
abbrev y_Picture_isBarredBy : MethodName := ⟨R_Picture, "isBarredBy", "(LClerkRows$Clerk;)Z"⟩
abbrev b_Turn_init : ByteArray := prog_4_method_1_code
abbrev y_Turn_init : MethodName := ⟨R_Turn, "<init>", "(ILClerkRows$Clerk;LClerkRows$Turn;)V"⟩
abbrev b_Law_cell : ByteArray := method_2_code
abbrev y_Law_cell : MethodName := ⟨R_Law, "cell", "([II)I"⟩
def tb : List Cond := lw_tbl.filter (fun w => k2_isCode w || goodWord w)
theorem tb_of {w : Cond} (h : w ∈ lw_tbl) (g : (k2_isCode w || goodWord w) = true) : w ∈ tb := List.mem_filter.mpr ⟨h, g⟩
theorem tb_sub {w : Cond} (h : w ∈ tb) : w ∈ lw_tbl := (List.mem_filter.mp h).1
theorem tb_good {w : Cond} (h : w ∈ tb) : (w.onTables && w.keeps) = true ∨ ∃ ty, w = .arrayClass ty := by
  have h1 := (List.mem_filter.mp h).2
  rcases (Bool.or_eq_true _ _).mp h1 with hc | hg
  · cases w <;> first | (simp [k2_isCode] at hc; done) | exact Or.inl rfl
  · exact good_of_word hg
theorem gd_0 {y : MethodName} {b : ByteArray} {n : Nat} {r : Option FieldType} (h : Cond.code y b n r ∈ tb) : GoodIn tb (.code y b n r :: tb) := fun w hw => by
  rcases List.mem_cons.mp hw with rfl | hw
  · exact ⟨h, tb_good h⟩
  · exact ⟨hw, tb_good hw⟩
theorem gd_V {own C : String} {idx : Nat} {y : MethodName} {b : ByteArray} {n : Nat} {r : Option FieldType} (h1 : Cond.methodLink own idx y ∈ tb) (h2 : Cond.instanceMethod y ∈ tb) (h3 : Cond.selects C y y ∈ tb) (h4 : Cond.initialized C ∈ tb) (h5 : Cond.code y b n r ∈ tb) : GoodIn tb (wsV own idx C y (.code y b n r :: tb)) := fun w hw => by
  simp only [wsV, List.cons_append, List.nil_append, List.mem_cons] at hw
  rcases hw with rfl | rfl | rfl | rfl | rfl | hw
  · exact ⟨h1, tb_good h1⟩
  · exact ⟨h2, tb_good h2⟩
  · exact ⟨h3, tb_good h3⟩
  · exact ⟨h4, tb_good h4⟩
  · exact ⟨h5, tb_good h5⟩
  · exact ⟨hw, tb_good hw⟩
theorem gd_S {own : String} {idx : Nat} {y : MethodName} {b : ByteArray} {n : Nat} {r : Option FieldType} (h1 : Cond.methodLink own idx y ∈ tb) (h2 : Cond.static y ∈ tb) (h4 : Cond.initialized own ∈ tb) (h5 : Cond.code y b n r ∈ tb) : GoodIn tb (wsS own idx y (.code y b n r :: tb)) := fun w hw => by
  simp only [wsS, List.cons_append, List.nil_append, List.mem_cons] at hw
  rcases hw with rfl | rfl | rfl | rfl | hw
  · exact ⟨h1, tb_good h1⟩
  · exact ⟨h2, tb_good h2⟩
  · exact ⟨h4, tb_good h4⟩
  · exact ⟨h5, tb_good h5⟩
  · exact ⟨hw, tb_good hw⟩
theorem i_ClerkRows : ∀ w ∈ u_ws R_ClerkRows F_ClerkRows 6, w ∈ tb := by decide +kernel
theorem in_ClerkRows : Cond.initialized R_ClerkRows ∈ tb := tb_of (by decide +kernel) (by decide +kernel)
theorem ib_ClerkRows : Cond.instantiable R_ClerkRows 6 ∈ tb := tb_of (by decide +kernel) (by decide +kernel)
theorem i_Clerk : ∀ w ∈ u_ws R_Clerk F_Clerk 5, w ∈ tb := by decide +kernel
theorem in_Clerk : Cond.initialized R_Clerk ∈ tb := tb_of (by decide +kernel) (by decide +kernel)
theorem ib_Clerk : Cond.instantiable R_Clerk 5 ∈ tb := tb_of (by decide +kernel) (by decide +kernel)
theorem i_Turn : ∀ w ∈ u_ws R_Turn F_Turn 5, w ∈ tb := by decide +kernel
theorem in_Turn : Cond.initialized R_Turn ∈ tb := tb_of (by decide +kernel) (by decide +kernel)
theorem ib_Turn : Cond.instantiable R_Turn 5 ∈ tb := tb_of (by decide +kernel) (by decide +kernel)
theorem i_Picture : ∀ w ∈ u_ws R_Picture F_Picture 8, w ∈ tb := by decide +kernel
theorem in_Picture : Cond.initialized R_Picture ∈ tb := tb_of (by decide +kernel) (by decide +kernel)
theorem ib_Picture : Cond.instantiable R_Picture 8 ∈ tb := tb_of (by decide +kernel) (by decide +kernel)
theorem i_Model : ∀ w ∈ u_ws R_Model F_Model 17, w ∈ tb := by decide +kernel
theorem in_Model : Cond.initialized R_Model ∈ tb := tb_of (by decide +kernel) (by decide +kernel)
theorem ib_Model : Cond.instantiable R_Model 17 ∈ tb := tb_of (by decide +kernel) (by decide +kernel)
theorem in_Law : Cond.initialized R_Law ∈ tb := tb_of (by decide +kernel) (by decide +kernel)
theorem in_Math : Cond.initialized "java/lang/Math" ∈ tb := tb_of (by decide +kernel) (by decide +kernel)
theorem cd_ClerkRows_init : Cond.code y_ClerkRows_init b_ClerkRows_init 3 none ∈ tb := tb_of (List.mem_of_getElem? (i := 30) rfl) rfl
theorem im_ClerkRows_init : Cond.instanceMethod y_ClerkRows_init ∈ tb := tb_of (by decide +kernel) (by decide +kernel)
theorem cd_ClerkRows_picture : Cond.code y_ClerkRows_picture b_ClerkRows_picture 4 (some .int) ∈ tb := tb_of (List.mem_of_getElem? (i := 96) rfl) rfl
theorem im_ClerkRows_picture : Cond.instanceMethod y_ClerkRows_picture ∈ tb := tb_of (by decide +kernel) (by decide +kernel)
theorem se_ClerkRows_picture : Cond.selects R_ClerkRows y_ClerkRows_picture y_ClerkRows_picture ∈ tb := tb_of (by decide +kernel) (by decide +kernel)
theorem cd_ClerkRows_give : Cond.code y_ClerkRows_give b_ClerkRows_give 6 (some .int) ∈ tb := tb_of (List.mem_of_getElem? (i := 150) rfl) rfl
theorem im_ClerkRows_give : Cond.instanceMethod y_ClerkRows_give ∈ tb := tb_of (by decide +kernel) (by decide +kernel)
theorem se_ClerkRows_give : Cond.selects R_ClerkRows y_ClerkRows_give y_ClerkRows_give ∈ tb := tb_of (by decide +kernel) (by decide +kernel)
theorem cd_ClerkRows_answer : Cond.code y_ClerkRows_answer b_ClerkRows_answer 9 (some .int) ∈ tb := tb_of (List.mem_of_getElem? (i := 211) rfl) rfl
theorem im_ClerkRows_answer : Cond.instanceMethod y_ClerkRows_answer ∈ tb := tb_of (by decide +kernel) (by decide +kernel)
theorem se_ClerkRows_answer : Cond.selects R_ClerkRows y_ClerkRows_answer y_ClerkRows_answer ∈ tb := tb_of (by decide +kernel) (by decide +kernel)
theorem cd_ClerkRows_office : Cond.code y_ClerkRows_office b_ClerkRows_office 5 (some .int) ∈ tb := tb_of (List.mem_of_getElem? (i := 235) rfl) rfl
theorem im_ClerkRows_office : Cond.instanceMethod y_ClerkRows_office ∈ tb := tb_of (by decide +kernel) (by decide +kernel)
theorem se_ClerkRows_office : Cond.selects R_ClerkRows y_ClerkRows_office y_ClerkRows_office ∈ tb := tb_of (by decide +kernel) (by decide +kernel)
theorem cd_ClerkRows_leave : Cond.code y_ClerkRows_leave b_ClerkRows_leave 4 (some .int) ∈ tb := tb_of (List.mem_of_getElem? (i := 239) rfl) rfl
theorem im_ClerkRows_leave : Cond.instanceMethod y_ClerkRows_leave ∈ tb := tb_of (by decide +kernel) (by decide +kernel)
theorem se_ClerkRows_leave : Cond.selects R_ClerkRows y_ClerkRows_leave y_ClerkRows_leave ∈ tb := tb_of (by decide +kernel) (by decide +kernel)
theorem cd_ClerkRows_tick : Cond.code y_ClerkRows_tick b_ClerkRows_tick 4 (some .int) ∈ tb := tb_of (List.mem_of_getElem? (i := 243) rfl) rfl
theorem im_ClerkRows_tick : Cond.instanceMethod y_ClerkRows_tick ∈ tb := tb_of (by decide +kernel) (by decide +kernel)
theorem se_ClerkRows_tick : Cond.selects R_ClerkRows y_ClerkRows_tick y_ClerkRows_tick ∈ tb := tb_of (by decide +kernel) (by decide +kernel)
theorem cd_ClerkRows_settled : Cond.code y_ClerkRows_settled b_ClerkRows_settled 3 (some .int) ∈ tb := tb_of (List.mem_of_getElem? (i := 247) rfl) rfl
theorem im_ClerkRows_settled : Cond.instanceMethod y_ClerkRows_settled ∈ tb := tb_of (by decide +kernel) (by decide +kernel)
theorem se_ClerkRows_settled : Cond.selects R_ClerkRows y_ClerkRows_settled y_ClerkRows_settled ∈ tb := tb_of (by decide +kernel) (by decide +kernel)
theorem cd_ClerkRows_state : Cond.code y_ClerkRows_state b_ClerkRows_state 3 (some .int) ∈ tb := tb_of (List.mem_of_getElem? (i := 251) rfl) rfl
theorem im_ClerkRows_state : Cond.instanceMethod y_ClerkRows_state ∈ tb := tb_of (by decide +kernel) (by decide +kernel)
theorem se_ClerkRows_state : Cond.selects R_ClerkRows y_ClerkRows_state y_ClerkRows_state ∈ tb := tb_of (by decide +kernel) (by decide +kernel)
theorem cd_ClerkRows_agreement : Cond.code y_ClerkRows_agreement b_ClerkRows_agreement 14 (some .long) ∈ tb := tb_of (List.mem_of_getElem? (i := 255) rfl) rfl
theorem im_ClerkRows_agreement : Cond.instanceMethod y_ClerkRows_agreement ∈ tb := tb_of (by decide +kernel) (by decide +kernel)
theorem se_ClerkRows_agreement : Cond.selects R_ClerkRows y_ClerkRows_agreement y_ClerkRows_agreement ∈ tb := tb_of (by decide +kernel) (by decide +kernel)
theorem cd_ClerkRows_waiting : Cond.code y_ClerkRows_waiting b_ClerkRows_waiting 6 (some .int) ∈ tb := tb_of (List.mem_of_getElem? (i := 108) rfl) rfl
theorem im_ClerkRows_waiting : Cond.instanceMethod y_ClerkRows_waiting ∈ tb := tb_of (by decide +kernel) (by decide +kernel)
theorem se_ClerkRows_waiting : Cond.selects R_ClerkRows y_ClerkRows_waiting y_ClerkRows_waiting ∈ tb := tb_of (by decide +kernel) (by decide +kernel)
theorem cd_ClerkRows_isWithin : Cond.code y_ClerkRows_isWithin b_ClerkRows_isWithin 2 (some .boolean) ∈ tb := tb_of (List.mem_of_getElem? (i := 104) rfl) rfl
theorem st_ClerkRows_isWithin : Cond.static y_ClerkRows_isWithin ∈ tb := tb_of (by decide +kernel) (by decide +kernel)
theorem cd_ClerkRows_isTime : Cond.code y_ClerkRows_isTime b_ClerkRows_isTime 3 (some .boolean) ∈ tb := tb_of (List.mem_of_getElem? (i := 100) rfl) rfl
theorem im_ClerkRows_isTime : Cond.instanceMethod y_ClerkRows_isTime ∈ tb := tb_of (by decide +kernel) (by decide +kernel)
theorem se_ClerkRows_isTime : Cond.selects R_ClerkRows y_ClerkRows_isTime y_ClerkRows_isTime ∈ tb := tb_of (by decide +kernel) (by decide +kernel)
theorem cd_ClerkRows_findClerk : Cond.code y_ClerkRows_findClerk b_ClerkRows_findClerk 2 (some (.object "ClerkRows$Clerk")) ∈ tb := tb_of (List.mem_of_getElem? (i := 154) rfl) rfl
theorem im_ClerkRows_findClerk : Cond.instanceMethod y_ClerkRows_findClerk ∈ tb := tb_of (by decide +kernel) (by decide +kernel)
theorem se_ClerkRows_findClerk : Cond.selects R_ClerkRows y_ClerkRows_findClerk y_ClerkRows_findClerk ∈ tb := tb_of (by decide +kernel) (by decide +kernel)
theorem cd_ClerkRows_findPicture : Cond.code y_ClerkRows_findPicture b_ClerkRows_findPicture 2 (some (.object "ClerkRows$Picture")) ∈ tb := tb_of (List.mem_of_getElem? (i := 215) rfl) rfl
theorem im_ClerkRows_findPicture : Cond.instanceMethod y_ClerkRows_findPicture ∈ tb := tb_of (by decide +kernel) (by decide +kernel)
theorem se_ClerkRows_findPicture : Cond.selects R_ClerkRows y_ClerkRows_findPicture y_ClerkRows_findPicture ∈ tb := tb_of (by decide +kernel) (by decide +kernel)
theorem cd_ClerkRows_passTo : Cond.code y_ClerkRows_passTo b_ClerkRows_passTo 7 none ∈ tb := tb_of (List.mem_of_getElem? (i := 158) rfl) rfl
theorem im_ClerkRows_passTo : Cond.instanceMethod y_ClerkRows_passTo ∈ tb := tb_of (by decide +kernel) (by decide +kernel)
theorem se_ClerkRows_passTo : Cond.selects R_ClerkRows y_ClerkRows_passTo y_ClerkRows_passTo ∈ tb := tb_of (by decide +kernel) (by decide +kernel)
theorem cd_ClerkRows_findGiven : Cond.code y_ClerkRows_findGiven b_ClerkRows_findGiven 7 (some (.object "ClerkRows$Picture")) ∈ tb := tb_of (List.mem_of_getElem? (i := 162) rfl) rfl
theorem im_ClerkRows_findGiven : Cond.instanceMethod y_ClerkRows_findGiven ∈ tb := tb_of (by decide +kernel) (by decide +kernel)
theorem se_ClerkRows_findGiven : Cond.selects R_ClerkRows y_ClerkRows_findGiven y_ClerkRows_findGiven ∈ tb := tb_of (by decide +kernel) (by decide +kernel)
theorem cd_Model_init : Cond.code y_Model_init b_Model_init 3 none ∈ tb := tb_of (List.mem_of_getElem? (i := 270) rfl) rfl
theorem im_Model_init : Cond.instanceMethod y_Model_init ∈ tb := tb_of (by decide +kernel) (by decide +kernel)
theorem cd_Model_isIn : Cond.code y_Model_isIn b_Model_isIn 6 (some .boolean) ∈ tb := tb_of (List.mem_of_getElem? (i := 338) rfl) rfl
theorem st_Model_isIn : Cond.static y_Model_isIn ∈ tb := tb_of (by decide +kernel) (by decide +kernel)
theorem cd_Model_isPicture : Cond.code y_Model_isPicture b_Model_isPicture 2 (some .boolean) ∈ tb := tb_of (List.mem_of_getElem? (i := 379) rfl) rfl
theorem im_Model_isPicture : Cond.instanceMethod y_Model_isPicture ∈ tb := tb_of (by decide +kernel) (by decide +kernel)
theorem se_Model_isPicture : Cond.selects R_Model y_Model_isPicture y_Model_isPicture ∈ tb := tb_of (by decide +kernel) (by decide +kernel)
theorem cd_Model_isClerk : Cond.code y_Model_isClerk b_Model_isClerk 1 (some .boolean) ∈ tb := tb_of (List.mem_of_getElem? (i := 350) rfl) rfl
theorem st_Model_isClerk : Cond.static y_Model_isClerk ∈ tb := tb_of (by decide +kernel) (by decide +kernel)
theorem cd_Model_isTime : Cond.code y_Model_isTime b_Model_isTime 3 (some .boolean) ∈ tb := tb_of (List.mem_of_getElem? (i := 334) rfl) rfl
theorem im_Model_isTime : Cond.instanceMethod y_Model_isTime ∈ tb := tb_of (by decide +kernel) (by decide +kernel)
theorem se_Model_isTime : Cond.selects R_Model y_Model_isTime y_Model_isTime ∈ tb := tb_of (by decide +kernel) (by decide +kernel)
theorem cd_Model_open : Cond.code y_Model_open b_Model_open 3 (some .int) ∈ tb := tb_of (List.mem_of_getElem? (i := 343) rfl) rfl
theorem im_Model_open : Cond.instanceMethod y_Model_open ∈ tb := tb_of (by decide +kernel) (by decide +kernel)
theorem se_Model_open : Cond.selects R_Model y_Model_open y_Model_open ∈ tb := tb_of (by decide +kernel) (by decide +kernel)
theorem cd_Model_picture : Cond.code y_Model_picture b_Model_picture 4 (some .int) ∈ tb := tb_of (List.mem_of_getElem? (i := 330) rfl) rfl
theorem im_Model_picture : Cond.instanceMethod y_Model_picture ∈ tb := tb_of (by decide +kernel) (by decide +kernel)
theorem se_Model_picture : Cond.selects R_Model y_Model_picture y_Model_picture ∈ tb := tb_of (by decide +kernel) (by decide +kernel)
theorem cd_Model_pass : Cond.code y_Model_pass b_Model_pass 4 none ∈ tb := tb_of (List.mem_of_getElem? (i := 359) rfl) rfl
theorem im_Model_pass : Cond.instanceMethod y_Model_pass ∈ tb := tb_of (by decide +kernel) (by decide +kernel)
theorem se_Model_pass : Cond.selects R_Model y_Model_pass y_Model_pass ∈ tb := tb_of (by decide +kernel) (by decide +kernel)
theorem cd_Model_held : Cond.code y_Model_held b_Model_held 4 (some .int) ∈ tb := tb_of (List.mem_of_getElem? (i := 355) rfl) rfl
theorem im_Model_held : Cond.instanceMethod y_Model_held ∈ tb := tb_of (by decide +kernel) (by decide +kernel)
theorem se_Model_held : Cond.selects R_Model y_Model_held y_Model_held ∈ tb := tb_of (by decide +kernel) (by decide +kernel)
theorem cd_Model_differ : Cond.code y_Model_differ b_Model_differ 2 (some .boolean) ∈ tb := tb_of (List.mem_of_getElem? (i := 371) rfl) rfl
theorem im_Model_differ : Cond.instanceMethod y_Model_differ ∈ tb := tb_of (by decide +kernel) (by decide +kernel)
theorem se_Model_differ : Cond.selects R_Model y_Model_differ y_Model_differ ∈ tb := tb_of (by decide +kernel) (by decide +kernel)
theorem cd_Model_isTaken : Cond.code y_Model_isTaken b_Model_isTaken 4 (some .boolean) ∈ tb := tb_of (List.mem_of_getElem? (i := 367) rfl) rfl
theorem im_Model_isTaken : Cond.instanceMethod y_Model_isTaken ∈ tb := tb_of (by decide +kernel) (by decide +kernel)
theorem se_Model_isTaken : Cond.selects R_Model y_Model_isTaken y_Model_isTaken ∈ tb := tb_of (by decide +kernel) (by decide +kernel)
theorem cd_Model_isFree : Cond.code y_Model_isFree b_Model_isFree 6 (some .boolean) ∈ tb := tb_of (List.mem_of_getElem? (i := 363) rfl) rfl
theorem im_Model_isFree : Cond.instanceMethod y_Model_isFree ∈ tb := tb_of (by decide +kernel) (by decide +kernel)
theorem se_Model_isFree : Cond.selects R_Model y_Model_isFree y_Model_isFree ∈ tb := tb_of (by decide +kernel) (by decide +kernel)
theorem cd_Model_give : Cond.code y_Model_give b_Model_give 6 (some .int) ∈ tb := tb_of (List.mem_of_getElem? (i := 347) rfl) rfl
theorem im_Model_give : Cond.instanceMethod y_Model_give ∈ tb := tb_of (by decide +kernel) (by decide +kernel)
theorem se_Model_give : Cond.selects R_Model y_Model_give y_Model_give ∈ tb := tb_of (by decide +kernel) (by decide +kernel)
theorem cd_Model_stateOf : Cond.code y_Model_stateOf b_Model_stateOf 2 (some .int) ∈ tb := tb_of (List.mem_of_getElem? (i := 388) rfl) rfl
theorem im_Model_stateOf : Cond.instanceMethod y_Model_stateOf ∈ tb := tb_of (by decide +kernel) (by decide +kernel)
theorem se_Model_stateOf : Cond.selects R_Model y_Model_stateOf y_Model_stateOf ∈ tb := tb_of (by decide +kernel) (by decide +kernel)
theorem cd_Model_take : Cond.code y_Model_take b_Model_take 6 none ∈ tb := tb_of (List.mem_of_getElem? (i := 384) rfl) rfl
theorem im_Model_take : Cond.instanceMethod y_Model_take ∈ tb := tb_of (by decide +kernel) (by decide +kernel)
theorem se_Model_take : Cond.selects R_Model y_Model_take y_Model_take ∈ tb := tb_of (by decide +kernel) (by decide +kernel)
theorem cd_Model_answer : Cond.code y_Model_answer b_Model_answer 6 (some .int) ∈ tb := tb_of (List.mem_of_getElem? (i := 375) rfl) rfl
theorem im_Model_answer : Cond.instanceMethod y_Model_answer ∈ tb := tb_of (by decide +kernel) (by decide +kernel)
theorem se_Model_answer : Cond.selects R_Model y_Model_answer y_Model_answer ∈ tb := tb_of (by decide +kernel) (by decide +kernel)
theorem cd_Model_office : Cond.code y_Model_office b_Model_office 5 (some .int) ∈ tb := tb_of (List.mem_of_getElem? (i := 392) rfl) rfl
theorem im_Model_office : Cond.instanceMethod y_Model_office ∈ tb := tb_of (by decide +kernel) (by decide +kernel)
theorem se_Model_office : Cond.selects R_Model y_Model_office y_Model_office ∈ tb := tb_of (by decide +kernel) (by decide +kernel)
theorem cd_Model_leave : Cond.code y_Model_leave b_Model_leave 3 (some .int) ∈ tb := tb_of (List.mem_of_getElem? (i := 397) rfl) rfl
theorem im_Model_leave : Cond.instanceMethod y_Model_leave ∈ tb := tb_of (by decide +kernel) (by decide +kernel)
theorem se_Model_leave : Cond.selects R_Model y_Model_leave y_Model_leave ∈ tb := tb_of (by decide +kernel) (by decide +kernel)
theorem cd_Model_tick : Cond.code y_Model_tick b_Model_tick 4 (some .int) ∈ tb := tb_of (List.mem_of_getElem? (i := 401) rfl) rfl
theorem im_Model_tick : Cond.instanceMethod y_Model_tick ∈ tb := tb_of (by decide +kernel) (by decide +kernel)
theorem se_Model_tick : Cond.selects R_Model y_Model_tick y_Model_tick ∈ tb := tb_of (by decide +kernel) (by decide +kernel)
theorem cd_Model_settled : Cond.code y_Model_settled b_Model_settled 2 (some .int) ∈ tb := tb_of (List.mem_of_getElem? (i := 405) rfl) rfl
theorem im_Model_settled : Cond.instanceMethod y_Model_settled ∈ tb := tb_of (by decide +kernel) (by decide +kernel)
theorem se_Model_settled : Cond.selects R_Model y_Model_settled y_Model_settled ∈ tb := tb_of (by decide +kernel) (by decide +kernel)
theorem cd_Model_state : Cond.code y_Model_state b_Model_state 2 (some .int) ∈ tb := tb_of (List.mem_of_getElem? (i := 409) rfl) rfl
theorem im_Model_state : Cond.instanceMethod y_Model_state ∈ tb := tb_of (by decide +kernel) (by decide +kernel)
theorem se_Model_state : Cond.selects R_Model y_Model_state y_Model_state ∈ tb := tb_of (by decide +kernel) (by decide +kernel)
theorem cd_Model_agreement : Cond.code y_Model_agreement b_Model_agreement 8 (some .long) ∈ tb := tb_of (List.mem_of_getElem? (i := 413) rfl) rfl
theorem im_Model_agreement : Cond.instanceMethod y_Model_agreement ∈ tb := tb_of (by decide +kernel) (by decide +kernel)
theorem se_Model_agreement : Cond.selects R_Model y_Model_agreement y_Model_agreement ∈ tb := tb_of (by decide +kernel) (by decide +kernel)
theorem cd_Model_waiting : Cond.code y_Model_waiting b_Model_waiting 1 (some .int) ∈ tb := tb_of (List.mem_of_getElem? (i := 419) rfl) rfl
theorem im_Model_waiting : Cond.instanceMethod y_Model_waiting ∈ tb := tb_of (by decide +kernel) (by decide +kernel)
theorem se_Model_waiting : Cond.selects R_Model y_Model_waiting y_Model_waiting ∈ tb := tb_of (by decide +kernel) (by decide +kernel)
theorem cd_Clerk_init : Cond.code y_Clerk_init b_Clerk_init 2 none ∈ tb := tb_of (List.mem_of_getElem? (i := 47) rfl) rfl
theorem im_Clerk_init : Cond.instanceMethod y_Clerk_init ∈ tb := tb_of (by decide +kernel) (by decide +kernel)
theorem cd_Picture_init : Cond.code y_Picture_init b_Picture_init 5 none ∈ tb := tb_of (List.mem_of_getElem? (i := 116) rfl) rfl
theorem im_Picture_init : Cond.instanceMethod y_Picture_init ∈ tb := tb_of (by decide +kernel) (by decide +kernel)
theorem cd_Picture_hasEnded : Cond.code y_Picture_hasEnded b_Picture_hasEnded 1 (some .boolean) ∈ tb := tb_of (List.mem_of_getElem? (i := 112) rfl) rfl
theorem im_Picture_hasEnded : Cond.instanceMethod y_Picture_hasEnded ∈ tb := tb_of (by decide +kernel) (by decide +kernel)
theorem se_Picture_hasEnded : Cond.selects R_Picture y_Picture_hasEnded y_Picture_hasEnded ∈ tb := tb_of (by decide +kernel) (by decide +kernel)
theorem cd_Picture_findState : Cond.code y_Picture_findState b_Picture_findState 1 (some .int) ∈ tb := tb_of (List.mem_of_getElem? (i := 231) rfl) rfl
theorem im_Picture_findState : Cond.instanceMethod y_Picture_findState ∈ tb := tb_of (by decide +kernel) (by decide +kernel)
theorem se_Picture_findState : Cond.selects R_Picture y_Picture_findState y_Picture_findState ∈ tb := tb_of (by decide +kernel) (by decide +kernel)
theorem cd_Picture_isFreeFor : Cond.code y_Picture_isFreeFor b_Picture_isFreeFor 2 (some .boolean) ∈ tb := tb_of (List.mem_of_getElem? (i := 166) rfl) rfl
theorem im_Picture_isFreeFor : Cond.instanceMethod y_Picture_isFreeFor ∈ tb := tb_of (by decide +kernel) (by decide +kernel)
theorem se_Picture_isFreeFor : Cond.selects R_Picture y_Picture_isFreeFor y_Picture_isFreeFor ∈ tb := tb_of (by decide +kernel) (by decide +kernel)
theorem cd_Picture_addTurn : Cond.code y_Picture_addTurn b_Picture_addTurn 2 (some (.object "ClerkRows$Turn")) ∈ tb := tb_of (List.mem_of_getElem? (i := 179) rfl) rfl
theorem im_Picture_addTurn : Cond.instanceMethod y_Picture_addTurn ∈ tb := tb_of (by decide +kernel) (by decide +kernel)
theorem se_Picture_addTurn : Cond.selects R_Picture y_Picture_addTurn y_Picture_addTurn ∈ tb := tb_of (by decide +kernel) (by decide +kernel)
theorem cd_Picture_takeEntry : Cond.code y_Picture_takeEntry b_Picture_takeEntry 4 none ∈ tb := tb_of (List.mem_of_getElem? (i := 219) rfl) rfl
theorem im_Picture_takeEntry : Cond.instanceMethod y_Picture_takeEntry ∈ tb := tb_of (by decide +kernel) (by decide +kernel)
theorem se_Picture_takeEntry : Cond.selects R_Picture y_Picture_takeEntry y_Picture_takeEntry ∈ tb := tb_of (by decide +kernel) (by decide +kernel)
theorem cd_Picture_findEntry : Cond.code y_Picture_findEntry b_Picture_findEntry 3 (some .int) ∈ tb := tb_of (List.mem_of_getElem? (i := 261) rfl) rfl
theorem im_Picture_findEntry : Cond.instanceMethod y_Picture_findEntry ∈ tb := tb_of (by decide +kernel) (by decide +kernel)
theorem se_Picture_findEntry : Cond.selects R_Picture y_Picture_findEntry y_Picture_findEntry ∈ tb := tb_of (by decide +kernel) (by decide +kernel)
theorem cd_Picture_endAlike : Cond.code y_Picture_endAlike b_Picture_endAlike 2 none ∈ tb := tb_of (List.mem_of_getElem? (i := 227) rfl) rfl
theorem im_Picture_endAlike : Cond.instanceMethod y_Picture_endAlike ∈ tb := tb_of (by decide +kernel) (by decide +kernel)
theorem se_Picture_endAlike : Cond.selects R_Picture y_Picture_endAlike y_Picture_endAlike ∈ tb := tb_of (by decide +kernel) (by decide +kernel)
theorem cd_Picture_hasEntry : Cond.code y_Picture_hasEntry b_Picture_hasEntry 3 (some .boolean) ∈ tb := tb_of (List.mem_of_getElem? (i := 223) rfl) rfl
theorem im_Picture_hasEntry : Cond.instanceMethod y_Picture_hasEntry ∈ tb := tb_of (by decide +kernel) (by decide +kernel)
theorem se_Picture_hasEntry : Cond.selects R_Picture y_Picture_hasEntry y_Picture_hasEntry ∈ tb := tb_of (by decide +kernel) (by decide +kernel)
theorem cd_Picture_isWanting : Cond.code y_Picture_isWanting b_Picture_isWanting 3 (some .boolean) ∈ tb := tb_of (List.mem_of_getElem? (i := 171) rfl) rfl
theorem im_Picture_isWanting : Cond.instanceMethod y_Picture_isWanting ∈ tb := tb_of (by decide +kernel) (by decide +kernel)
theorem se_Picture_isWanting : Cond.selects R_Picture y_Picture_isWanting y_Picture_isWanting ∈ tb := tb_of (by decide +kernel) (by decide +kernel)
theorem cd_Picture_isBarredBy : Cond.code y_Picture_isBarredBy b_Picture_isBarredBy 4 (some .boolean) ∈ tb := tb_of (List.mem_of_getElem? (i := 175) rfl) rfl
theorem im_Picture_isBarredBy : Cond.instanceMethod y_Picture_isBarredBy ∈ tb := tb_of (by decide +kernel) (by decide +kernel)
theorem se_Picture_isBarredBy : Cond.selects R_Picture y_Picture_isBarredBy y_Picture_isBarredBy ∈ tb := tb_of (by decide +kernel) (by decide +kernel)
theorem cd_Turn_init : Cond.code y_Turn_init b_Turn_init 4 none ∈ tb := tb_of (List.mem_of_getElem? (i := 184) rfl) rfl
theorem im_Turn_init : Cond.instanceMethod y_Turn_init ∈ tb := tb_of (by decide +kernel) (by decide +kernel)
theorem cd_Law_cell : Cond.code y_Law_cell b_Law_cell 2 (some .int) ∈ tb := tb_of (List.mem_of_getElem? (i := 265) rfl) rfl
theorem st_Law_cell : Cond.static y_Law_cell ∈ tb := tb_of (by decide +kernel) (by decide +kernel)
theorem im_obj : Cond.instanceMethod Lib.objectInit ∈ tb := tb_of (by decide +kernel) (by decide +kernel)
theorem cd_obj : Cond.code Lib.objectInit ⟨#[0xb1]⟩ 1 none ∈ tb := tb_of (List.mem_of_getElem? (i := 33) rfl) rfl
theorem sm_min : Cond.static Lib.Math.min.name ∈ tb := tb_of (by decide +kernel) (by decide +kernel)
theorem cd_min : Cond.code Lib.Math.min.name Lib.Math.min.code 2 (some .int) ∈ tb := tb_of (List.mem_of_getElem? (i := 40) rfl) rfl
theorem sm_max : Cond.static Lib.Math.max.name ∈ tb := tb_of (by decide +kernel) (by decide +kernel)
theorem cd_max : Cond.code Lib.Math.max.name Lib.Math.max.code 2 (some .int) ∈ tb := tb_of (List.mem_of_getElem? (i := 43) rfl) rfl
theorem ac_int : Cond.arrayClass .int ∈ tb := tb_of (by decide +kernel) (by decide +kernel)
theorem ac_long : Cond.arrayClass .long ∈ tb := tb_of (by decide +kernel) (by decide +kernel)
theorem ac_boolean : Cond.arrayClass .boolean ∈ tb := tb_of (by decide +kernel) (by decide +kernel)
theorem ml_ClerkRows_1 : Cond.methodLink R_ClerkRows 1 Lib.objectInit ∈ tb := tb_of (by decide +kernel) (by decide +kernel)
theorem cl_ClerkRows_9 : Cond.classLink R_ClerkRows 9 R_Picture ∈ tb := tb_of (by decide +kernel) (by decide +kernel)
theorem fl_ClerkRows_11 : Cond.fieldLink R_ClerkRows 11 R_ClerkRows "pictures" "[LClerkRows$Picture;" ∈ tb := tb_of (by decide +kernel) (by decide +kernel)
theorem cl_ClerkRows_15 : Cond.classLink R_ClerkRows 15 R_Clerk ∈ tb := tb_of (by decide +kernel) (by decide +kernel)
theorem fl_ClerkRows_17 : Cond.fieldLink R_ClerkRows 17 R_ClerkRows "clerks" "[LClerkRows$Clerk;" ∈ tb := tb_of (by decide +kernel) (by decide +kernel)
theorem fl_ClerkRows_21 : Cond.fieldLink R_ClerkRows 21 R_ClerkRows "made" "I" ∈ tb := tb_of (by decide +kernel) (by decide +kernel)
theorem fl_ClerkRows_25 : Cond.fieldLink R_ClerkRows 25 R_ClerkRows "now" "J" ∈ tb := tb_of (by decide +kernel) (by decide +kernel)
theorem fl_ClerkRows_29 : Cond.fieldLink R_ClerkRows 29 R_ClerkRows "lateSinceTick" "I" ∈ tb := tb_of (by decide +kernel) (by decide +kernel)
theorem ml_ClerkRows_32 : Cond.methodLink R_ClerkRows 32 Lib.Math.min.name ∈ tb := tb_of (by decide +kernel) (by decide +kernel)
theorem ml_ClerkRows_38 : Cond.methodLink R_ClerkRows 38 Lib.Math.max.name ∈ tb := tb_of (by decide +kernel) (by decide +kernel)
theorem fl_ClerkRows_41 : Cond.fieldLink R_ClerkRows 41 R_ClerkRows "mostOpen" "I" ∈ tb := tb_of (by decide +kernel) (by decide +kernel)
theorem ml_ClerkRows_44 : Cond.methodLink R_ClerkRows 44 y_Clerk_init ∈ tb := tb_of (by decide +kernel) (by decide +kernel)
theorem ml_ClerkRows_47 : Cond.methodLink R_ClerkRows 47 y_ClerkRows_isTime ∈ tb := tb_of (by decide +kernel) (by decide +kernel)
theorem ml_ClerkRows_51 : Cond.methodLink R_ClerkRows 51 y_ClerkRows_isWithin ∈ tb := tb_of (by decide +kernel) (by decide +kernel)
theorem ml_ClerkRows_55 : Cond.methodLink R_ClerkRows 55 y_ClerkRows_waiting ∈ tb := tb_of (by decide +kernel) (by decide +kernel)
theorem ml_ClerkRows_59 : Cond.methodLink R_ClerkRows 59 y_Picture_init ∈ tb := tb_of (by decide +kernel) (by decide +kernel)
theorem ml_ClerkRows_62 : Cond.methodLink R_ClerkRows 62 y_ClerkRows_findClerk ∈ tb := tb_of (by decide +kernel) (by decide +kernel)
theorem fl_ClerkRows_66 : Cond.fieldLink R_ClerkRows 66 R_Clerk "in" "Z" ∈ tb := tb_of (by decide +kernel) (by decide +kernel)
theorem fl_ClerkRows_70 : Cond.fieldLink R_ClerkRows 70 R_Clerk "turn" "LClerkRows$Turn;" ∈ tb := tb_of (by decide +kernel) (by decide +kernel)
theorem ml_ClerkRows_74 : Cond.methodLink R_ClerkRows 74 y_ClerkRows_passTo ∈ tb := tb_of (by decide +kernel) (by decide +kernel)
theorem ml_ClerkRows_78 : Cond.methodLink R_ClerkRows 78 y_ClerkRows_findGiven ∈ tb := tb_of (by decide +kernel) (by decide +kernel)
theorem ml_ClerkRows_82 : Cond.methodLink R_ClerkRows 82 y_Picture_addTurn ∈ tb := tb_of (by decide +kernel) (by decide +kernel)
theorem fl_ClerkRows_86 : Cond.fieldLink R_ClerkRows 86 R_Picture "number" "I" ∈ tb := tb_of (by decide +kernel) (by decide +kernel)
theorem ml_ClerkRows_89 : Cond.methodLink R_ClerkRows 89 y_ClerkRows_findPicture ∈ tb := tb_of (by decide +kernel) (by decide +kernel)
theorem fl_ClerkRows_93 : Cond.fieldLink R_ClerkRows 93 R_Turn "picture" "I" ∈ tb := tb_of (by decide +kernel) (by decide +kernel)
theorem ml_ClerkRows_98 : Cond.methodLink R_ClerkRows 98 y_Picture_takeEntry ∈ tb := tb_of (by decide +kernel) (by decide +kernel)
theorem ml_ClerkRows_102 : Cond.methodLink R_ClerkRows 102 y_Picture_findState ∈ tb := tb_of (by decide +kernel) (by decide +kernel)
theorem fl_ClerkRows_105 : Cond.fieldLink R_ClerkRows 105 R_Clerk "office" "I" ∈ tb := tb_of (by decide +kernel) (by decide +kernel)
theorem fl_ClerkRows_108 : Cond.fieldLink R_ClerkRows 108 R_Clerk "skill" "I" ∈ tb := tb_of (by decide +kernel) (by decide +kernel)
theorem fl_ClerkRows_111 : Cond.fieldLink R_ClerkRows 111 R_Turn "entry" "I" ∈ tb := tb_of (by decide +kernel) (by decide +kernel)
theorem ml_ClerkRows_114 : Cond.methodLink R_ClerkRows 114 y_Picture_hasEnded ∈ tb := tb_of (by decide +kernel) (by decide +kernel)
theorem fl_ClerkRows_118 : Cond.fieldLink R_ClerkRows 118 R_Picture "settledWith" "I" ∈ tb := tb_of (by decide +kernel) (by decide +kernel)
theorem k_ClerkRows_121 : Cond.constantLong R_ClerkRows 121 (-101) ∈ tb := tb_of (by decide +kernel) (by decide +kernel)
theorem k_ClerkRows_123 : Cond.constantLong R_ClerkRows 123 (-102) ∈ tb := tb_of (by decide +kernel) (by decide +kernel)
theorem ml_ClerkRows_125 : Cond.methodLink R_ClerkRows 125 y_Picture_findEntry ∈ tb := tb_of (by decide +kernel) (by decide +kernel)
theorem k_ClerkRows_129 : Cond.constantLong R_ClerkRows 129 1000000000 ∈ tb := tb_of (by decide +kernel) (by decide +kernel)
theorem fl_ClerkRows_131 : Cond.fieldLink R_ClerkRows 131 R_Picture "due" "J" ∈ tb := tb_of (by decide +kernel) (by decide +kernel)
theorem fl_ClerkRows_134 : Cond.fieldLink R_ClerkRows 134 R_Picture "end" "I" ∈ tb := tb_of (by decide +kernel) (by decide +kernel)
theorem ml_ClerkRows_137 : Cond.methodLink R_ClerkRows 137 y_Picture_isFreeFor ∈ tb := tb_of (by decide +kernel) (by decide +kernel)
theorem ml_Model_1 : Cond.methodLink R_Model 1 Lib.objectInit ∈ tb := tb_of (by decide +kernel) (by decide +kernel)
theorem fl_Model_7 : Cond.fieldLink R_Model 7 R_Model "dues" "[J" ∈ tb := tb_of (by decide +kernel) (by decide +kernel)
theorem fl_Model_13 : Cond.fieldLink R_Model 13 R_Model "skills" "[I" ∈ tb := tb_of (by decide +kernel) (by decide +kernel)
theorem fl_Model_17 : Cond.fieldLink R_Model 17 R_Model "ends" "[I" ∈ tb := tb_of (by decide +kernel) (by decide +kernel)
theorem fl_Model_20 : Cond.fieldLink R_Model 20 R_Model "settled" "[I" ∈ tb := tb_of (by decide +kernel) (by decide +kernel)
theorem fl_Model_23 : Cond.fieldLink R_Model 23 R_Model "answers" "[I" ∈ tb := tb_of (by decide +kernel) (by decide +kernel)
theorem fl_Model_26 : Cond.fieldLink R_Model 26 R_Model "entries" "[I" ∈ tb := tb_of (by decide +kernel) (by decide +kernel)
theorem fl_Model_29 : Cond.fieldLink R_Model 29 R_Model "did" "[I" ∈ tb := tb_of (by decide +kernel) (by decide +kernel)
theorem fl_Model_32 : Cond.fieldLink R_Model 32 R_Model "where" "[I" ∈ tb := tb_of (by decide +kernel) (by decide +kernel)
theorem fl_Model_35 : Cond.fieldLink R_Model 35 R_Model "said" "[I" ∈ tb := tb_of (by decide +kernel) (by decide +kernel)
theorem fl_Model_38 : Cond.fieldLink R_Model 38 R_Model "in" "[Z" ∈ tb := tb_of (by decide +kernel) (by decide +kernel)
theorem fl_Model_42 : Cond.fieldLink R_Model 42 R_Model "offices" "[I" ∈ tb := tb_of (by decide +kernel) (by decide +kernel)
theorem fl_Model_45 : Cond.fieldLink R_Model 45 R_Model "levels" "[I" ∈ tb := tb_of (by decide +kernel) (by decide +kernel)
theorem fl_Model_48 : Cond.fieldLink R_Model 48 R_Model "most" "I" ∈ tb := tb_of (by decide +kernel) (by decide +kernel)
theorem fl_Model_55 : Cond.fieldLink R_Model 55 R_Model "count" "I" ∈ tb := tb_of (by decide +kernel) (by decide +kernel)
theorem ml_Model_58 : Cond.methodLink R_Model 58 y_Model_isIn ∈ tb := tb_of (by decide +kernel) (by decide +kernel)
theorem k_Model_62 : Cond.constantLong R_Model 62 19 ∈ tb := tb_of (by decide +kernel) (by decide +kernel)
theorem fl_Model_64 : Cond.fieldLink R_Model 64 R_Model "now" "J" ∈ tb := tb_of (by decide +kernel) (by decide +kernel)
theorem k_Model_68 : Cond.constantLong R_Model 68 1000000000 ∈ tb := tb_of (by decide +kernel) (by decide +kernel)
theorem fl_Model_52 : Cond.fieldLink R_Model 52 R_Model "thrown" "I" ∈ tb := tb_of (by decide +kernel) (by decide +kernel)
theorem ml_Model_70 : Cond.methodLink R_Model 70 y_Model_isTime ∈ tb := tb_of (by decide +kernel) (by decide +kernel)
theorem k_Model_74 : Cond.constantLong R_Model 74 3 ∈ tb := tb_of (by decide +kernel) (by decide +kernel)
theorem ml_Model_76 : Cond.methodLink R_Model 76 y_Model_open ∈ tb := tb_of (by decide +kernel) (by decide +kernel)
theorem fl_Model_80 : Cond.fieldLink R_Model 80 R_Model "late" "I" ∈ tb := tb_of (by decide +kernel) (by decide +kernel)
theorem ml_Model_83 : Cond.methodLink R_Model 83 y_Model_differ ∈ tb := tb_of (by decide +kernel) (by decide +kernel)
theorem ml_Model_87 : Cond.methodLink R_Model 87 y_Model_isTaken ∈ tb := tb_of (by decide +kernel) (by decide +kernel)
theorem ml_Model_90 : Cond.methodLink R_Model 90 y_Model_isClerk ∈ tb := tb_of (by decide +kernel) (by decide +kernel)
theorem ml_Model_93 : Cond.methodLink R_Model 93 y_Model_held ∈ tb := tb_of (by decide +kernel) (by decide +kernel)
theorem ml_Model_97 : Cond.methodLink R_Model 97 y_Model_pass ∈ tb := tb_of (by decide +kernel) (by decide +kernel)
theorem ml_Model_101 : Cond.methodLink R_Model 101 y_Model_isFree ∈ tb := tb_of (by decide +kernel) (by decide +kernel)
theorem ml_Model_105 : Cond.methodLink R_Model 105 y_Model_isPicture ∈ tb := tb_of (by decide +kernel) (by decide +kernel)
theorem k_Model_108 : Cond.constantLong R_Model 108 9999 ∈ tb := tb_of (by decide +kernel) (by decide +kernel)
theorem ml_Model_110 : Cond.methodLink R_Model 110 y_Model_take ∈ tb := tb_of (by decide +kernel) (by decide +kernel)
theorem ml_Model_114 : Cond.methodLink R_Model 114 y_Model_stateOf ∈ tb := tb_of (by decide +kernel) (by decide +kernel)
theorem k_Model_117 : Cond.constantLong R_Model 117 4 ∈ tb := tb_of (by decide +kernel) (by decide +kernel)
theorem k_Model_119 : Cond.constantLong R_Model 119 (-101) ∈ tb := tb_of (by decide +kernel) (by decide +kernel)
theorem k_Model_121 : Cond.constantLong R_Model 121 (-102) ∈ tb := tb_of (by decide +kernel) (by decide +kernel)
theorem ml_Clerk_1 : Cond.methodLink R_Clerk 1 Lib.objectInit ∈ tb := tb_of (by decide +kernel) (by decide +kernel)
theorem fl_Clerk_7 : Cond.fieldLink R_Clerk 7 R_Clerk "in" "Z" ∈ tb := tb_of (by decide +kernel) (by decide +kernel)
theorem fl_Clerk_13 : Cond.fieldLink R_Clerk 13 R_Clerk "office" "I" ∈ tb := tb_of (by decide +kernel) (by decide +kernel)
theorem fl_Clerk_17 : Cond.fieldLink R_Clerk 17 R_Clerk "skill" "I" ∈ tb := tb_of (by decide +kernel) (by decide +kernel)
theorem fl_Clerk_20 : Cond.fieldLink R_Clerk 20 R_Clerk "turn" "LClerkRows$Turn;" ∈ tb := tb_of (by decide +kernel) (by decide +kernel)
theorem fl_Clerk_24 : Cond.fieldLink R_Clerk 24 R_Clerk "number" "I" ∈ tb := tb_of (by decide +kernel) (by decide +kernel)
theorem ml_Picture_3 : Cond.methodLink R_Picture 3 Lib.objectInit ∈ tb := tb_of (by decide +kernel) (by decide +kernel)
theorem fl_Picture_9 : Cond.fieldLink R_Picture 9 R_Picture "wants" "I" ∈ tb := tb_of (by decide +kernel) (by decide +kernel)
theorem fl_Picture_15 : Cond.fieldLink R_Picture 15 R_Picture "answers" "I" ∈ tb := tb_of (by decide +kernel) (by decide +kernel)
theorem fl_Picture_18 : Cond.fieldLink R_Picture 18 R_Picture "end" "I" ∈ tb := tb_of (by decide +kernel) (by decide +kernel)
theorem fl_Picture_21 : Cond.fieldLink R_Picture 21 R_Picture "settledWith" "I" ∈ tb := tb_of (by decide +kernel) (by decide +kernel)
theorem fl_Picture_24 : Cond.fieldLink R_Picture 24 R_Picture "last" "LClerkRows$Turn;" ∈ tb := tb_of (by decide +kernel) (by decide +kernel)
theorem fl_Picture_28 : Cond.fieldLink R_Picture 28 R_Picture "number" "I" ∈ tb := tb_of (by decide +kernel) (by decide +kernel)
theorem fl_Picture_31 : Cond.fieldLink R_Picture 31 R_Picture "due" "J" ∈ tb := tb_of (by decide +kernel) (by decide +kernel)
theorem fl_Picture_35 : Cond.fieldLink R_Picture 35 R_Picture "skill" "I" ∈ tb := tb_of (by decide +kernel) (by decide +kernel)
theorem ml_Picture_38 : Cond.methodLink R_Picture 38 y_Picture_hasEnded ∈ tb := tb_of (by decide +kernel) (by decide +kernel)
theorem ml_Picture_42 : Cond.methodLink R_Picture 42 y_Picture_isWanting ∈ tb := tb_of (by decide +kernel) (by decide +kernel)
theorem fl_Picture_45 : Cond.fieldLink R_Picture 45 R_Clerk "skill" "I" ∈ tb := tb_of (by decide +kernel) (by decide +kernel)
theorem ml_Picture_48 : Cond.methodLink R_Picture 48 y_Picture_isBarredBy ∈ tb := tb_of (by decide +kernel) (by decide +kernel)
theorem cl_Picture_52 : Cond.classLink R_Picture 52 R_Turn ∈ tb := tb_of (by decide +kernel) (by decide +kernel)
theorem ml_Picture_54 : Cond.methodLink R_Picture 54 y_Turn_init ∈ tb := tb_of (by decide +kernel) (by decide +kernel)
theorem ml_Picture_57 : Cond.methodLink R_Picture 57 y_Picture_hasEntry ∈ tb := tb_of (by decide +kernel) (by decide +kernel)
theorem fl_Picture_61 : Cond.fieldLink R_Picture 61 R_Turn "entry" "I" ∈ tb := tb_of (by decide +kernel) (by decide +kernel)
theorem ml_Picture_64 : Cond.methodLink R_Picture 64 y_Picture_endAlike ∈ tb := tb_of (by decide +kernel) (by decide +kernel)
theorem fl_Picture_68 : Cond.fieldLink R_Picture 68 R_Turn "clerk" "I" ∈ tb := tb_of (by decide +kernel) (by decide +kernel)
theorem fl_Picture_71 : Cond.fieldLink R_Picture 71 R_Turn "earlier" "LClerkRows$Turn;" ∈ tb := tb_of (by decide +kernel) (by decide +kernel)
theorem fl_Picture_74 : Cond.fieldLink R_Picture 74 R_Turn "office" "I" ∈ tb := tb_of (by decide +kernel) (by decide +kernel)
theorem fl_Picture_77 : Cond.fieldLink R_Picture 77 R_Clerk "office" "I" ∈ tb := tb_of (by decide +kernel) (by decide +kernel)
theorem fl_Picture_78 : Cond.fieldLink R_Picture 78 R_Clerk "number" "I" ∈ tb := tb_of (by decide +kernel) (by decide +kernel)
theorem ml_Turn_3 : Cond.methodLink R_Turn 3 Lib.objectInit ∈ tb := tb_of (by decide +kernel) (by decide +kernel)
theorem fl_Turn_9 : Cond.fieldLink R_Turn 9 R_Turn "entry" "I" ∈ tb := tb_of (by decide +kernel) (by decide +kernel)
theorem fl_Turn_15 : Cond.fieldLink R_Turn 15 R_Turn "picture" "I" ∈ tb := tb_of (by decide +kernel) (by decide +kernel)
theorem fl_Turn_18 : Cond.fieldLink R_Turn 18 R_Clerk "number" "I" ∈ tb := tb_of (by decide +kernel) (by decide +kernel)
theorem fl_Turn_23 : Cond.fieldLink R_Turn 23 R_Turn "clerk" "I" ∈ tb := tb_of (by decide +kernel) (by decide +kernel)
theorem fl_Turn_26 : Cond.fieldLink R_Turn 26 R_Clerk "office" "I" ∈ tb := tb_of (by decide +kernel) (by decide +kernel)
theorem fl_Turn_29 : Cond.fieldLink R_Turn 29 R_Turn "office" "I" ∈ tb := tb_of (by decide +kernel) (by decide +kernel)
theorem fl_Turn_30 : Cond.fieldLink R_Turn 30 R_Turn "earlier" "LClerkRows$Turn;" ∈ tb := tb_of (by decide +kernel) (by decide +kernel)
theorem cl_Law_7 : Cond.classLink R_Law 7 R_ClerkRows ∈ tb := tb_of (by decide +kernel) (by decide +kernel)
theorem ml_Law_9 : Cond.methodLink R_Law 9 y_Law_cell ∈ tb := tb_of (by decide +kernel) (by decide +kernel)
theorem ml_Law_15 : Cond.methodLink R_Law 15 y_ClerkRows_init ∈ tb := tb_of (by decide +kernel) (by decide +kernel)
theorem cl_Law_18 : Cond.classLink R_Law 18 R_Model ∈ tb := tb_of (by decide +kernel) (by decide +kernel)
theorem ml_Law_20 : Cond.methodLink R_Law 20 y_Model_init ∈ tb := tb_of (by decide +kernel) (by decide +kernel)
theorem k_Law_21 : Cond.constantLong R_Law 21 4294967295 ∈ tb := tb_of (by decide +kernel) (by decide +kernel)
theorem ml_Law_23 : Cond.methodLink R_Law 23 y_ClerkRows_picture ∈ tb := tb_of (by decide +kernel) (by decide +kernel)
theorem ml_Law_27 : Cond.methodLink R_Law 27 y_Model_picture ∈ tb := tb_of (by decide +kernel) (by decide +kernel)
theorem ml_Law_28 : Cond.methodLink R_Law 28 y_ClerkRows_give ∈ tb := tb_of (by decide +kernel) (by decide +kernel)
theorem ml_Law_32 : Cond.methodLink R_Law 32 y_Model_give ∈ tb := tb_of (by decide +kernel) (by decide +kernel)
theorem ml_Law_33 : Cond.methodLink R_Law 33 y_ClerkRows_answer ∈ tb := tb_of (by decide +kernel) (by decide +kernel)
theorem ml_Law_37 : Cond.methodLink R_Law 37 y_Model_answer ∈ tb := tb_of (by decide +kernel) (by decide +kernel)
theorem ml_Law_38 : Cond.methodLink R_Law 38 y_ClerkRows_office ∈ tb := tb_of (by decide +kernel) (by decide +kernel)
theorem ml_Law_42 : Cond.methodLink R_Law 42 y_Model_office ∈ tb := tb_of (by decide +kernel) (by decide +kernel)
theorem ml_Law_43 : Cond.methodLink R_Law 43 y_ClerkRows_leave ∈ tb := tb_of (by decide +kernel) (by decide +kernel)
theorem ml_Law_47 : Cond.methodLink R_Law 47 y_Model_leave ∈ tb := tb_of (by decide +kernel) (by decide +kernel)
theorem ml_Law_48 : Cond.methodLink R_Law 48 y_ClerkRows_tick ∈ tb := tb_of (by decide +kernel) (by decide +kernel)
theorem ml_Law_52 : Cond.methodLink R_Law 52 y_Model_tick ∈ tb := tb_of (by decide +kernel) (by decide +kernel)
theorem ml_Law_53 : Cond.methodLink R_Law 53 y_ClerkRows_settled ∈ tb := tb_of (by decide +kernel) (by decide +kernel)
theorem ml_Law_56 : Cond.methodLink R_Law 56 y_Model_settled ∈ tb := tb_of (by decide +kernel) (by decide +kernel)
theorem ml_Law_57 : Cond.methodLink R_Law 57 y_ClerkRows_state ∈ tb := tb_of (by decide +kernel) (by decide +kernel)
theorem ml_Law_60 : Cond.methodLink R_Law 60 y_Model_state ∈ tb := tb_of (by decide +kernel) (by decide +kernel)
theorem ml_Law_61 : Cond.methodLink R_Law 61 y_ClerkRows_agreement ∈ tb := tb_of (by decide +kernel) (by decide +kernel)
theorem ml_Law_65 : Cond.methodLink R_Law 65 y_Model_agreement ∈ tb := tb_of (by decide +kernel) (by decide +kernel)
theorem ml_Law_66 : Cond.methodLink R_Law 66 y_ClerkRows_waiting ∈ tb := tb_of (by decide +kernel) (by decide +kernel)
theorem ml_Law_70 : Cond.methodLink R_Law 70 y_Model_waiting ∈ tb := tb_of (by decide +kernel) (by decide +kernel)
