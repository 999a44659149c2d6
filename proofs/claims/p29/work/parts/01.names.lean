-- ===== PART A: goes FIRST, ahead of the names: the tables' words, and 'selects' of the private methods out of them =====
/-- a private method of a class that the tables say can be made, by its rows of tables_1 -/
def lw_okq (q : MethodName × Nat) : Prop := (q.1.cls ≠ "java/lang/invoke/MethodHandle" ∧ q.1.cls ≠ "java/lang/invoke/VarHandle") ∧ Cond.instantiable q.1.cls q.2 ∈ tables_1 ∧ Cond.privateMethod q.1 ∈ tables_1 ∧ Cond.instanceMethod q.1 ∈ tables_1
theorem lw_p0 : lw_okq (⟨"TryLoops$History", "dropOldest", "()V"⟩, 2) := ⟨⟨by decide +kernel, by decide +kernel⟩, List.mem_of_getElem? (i := 112) (by decide +kernel), List.mem_of_getElem? (i := 245) (by decide +kernel), List.mem_of_getElem? (i := 246) (by decide +kernel)⟩
theorem lw_p1 : lw_okq (⟨"TryLoops", "countVerbRows", "()I"⟩, 8) := ⟨⟨by decide +kernel, by decide +kernel⟩, List.mem_of_getElem? (i := 16) (by decide +kernel), List.mem_of_getElem? (i := 265) (by decide +kernel), List.mem_of_getElem? (i := 266) (by decide +kernel)⟩
theorem lw_p2 : lw_okq (⟨"TryLoops$Shelf", "look", "([III)I"⟩, 7) := ⟨⟨by decide +kernel, by decide +kernel⟩, List.mem_of_getElem? (i := 45) (by decide +kernel), List.mem_of_getElem? (i := 278) (by decide +kernel), List.mem_of_getElem? (i := 279) (by decide +kernel)⟩
theorem lw_p3 : lw_okq (⟨"TryLoops", "countCommon", "(IIZ)I"⟩, 8) := ⟨⟨by decide +kernel, by decide +kernel⟩, List.mem_of_getElem? (i := 16) (by decide +kernel), List.mem_of_getElem? (i := 351) (by decide +kernel), List.mem_of_getElem? (i := 352) (by decide +kernel)⟩
theorem lw_p4 : lw_okq (⟨"TryLoops", "areAlike", "(IIIIZ)Z"⟩, 8) := ⟨⟨by decide +kernel, by decide +kernel⟩, List.mem_of_getElem? (i := 16) (by decide +kernel), List.mem_of_getElem? (i := 355) (by decide +kernel), List.mem_of_getElem? (i := 356) (by decide +kernel)⟩
theorem lw_p5 : lw_okq (⟨"TryLoops", "canGeneralise", "(II)Z"⟩, 8) := ⟨⟨by decide +kernel, by decide +kernel⟩, List.mem_of_getElem? (i := 16) (by decide +kernel), List.mem_of_getElem? (i := 367) (by decide +kernel), List.mem_of_getElem? (i := 368) (by decide +kernel)⟩
theorem lw_p6 : lw_okq (⟨"TryLoops", "countZeroStrides", "(II)I"⟩, 8) := ⟨⟨by decide +kernel, by decide +kernel⟩, List.mem_of_getElem? (i := 16) (by decide +kernel), List.mem_of_getElem? (i := 371) (by decide +kernel), List.mem_of_getElem? (i := 372) (by decide +kernel)⟩
theorem lw_p7 : lw_okq (⟨"TryLoops", "turnsInRange", "(II)I"⟩, 8) := ⟨⟨by decide +kernel, by decide +kernel⟩, List.mem_of_getElem? (i := 16) (by decide +kernel), List.mem_of_getElem? (i := 382) (by decide +kernel), List.mem_of_getElem? (i := 383) (by decide +kernel)⟩
theorem lw_p8 : lw_okq (⟨"TryLoops$Row", "put", "(II)V"⟩, 2) := ⟨⟨by decide +kernel, by decide +kernel⟩, List.mem_of_getElem? (i := 30) (by decide +kernel), List.mem_of_getElem? (i := 424) (by decide +kernel), List.mem_of_getElem? (i := 425) (by decide +kernel)⟩
theorem lw_p9 : lw_okq (⟨"TryLoops", "isTurn", "(IIII)Z"⟩, 8) := ⟨⟨by decide +kernel, by decide +kernel⟩, List.mem_of_getElem? (i := 16) (by decide +kernel), List.mem_of_getElem? (i := 432) (by decide +kernel), List.mem_of_getElem? (i := 433) (by decide +kernel)⟩
theorem lw_p10 : lw_okq (⟨"TryLoops$Shelf", "hasPlace", "(I)Z"⟩, 7) := ⟨⟨by decide +kernel, by decide +kernel⟩, List.mem_of_getElem? (i := 45) (by decide +kernel), List.mem_of_getElem? (i := 459) (by decide +kernel), List.mem_of_getElem? (i := 460) (by decide +kernel)⟩
theorem lw_p11 : lw_okq (⟨"TryLoops", "makeLoop", "(IIIII)I"⟩, 8) := ⟨⟨by decide +kernel, by decide +kernel⟩, List.mem_of_getElem? (i := 16) (by decide +kernel), List.mem_of_getElem? (i := 506) (by decide +kernel), List.mem_of_getElem? (i := 507) (by decide +kernel)⟩
theorem lw_p12 : lw_okq (⟨"TryLoops", "leastPeriod", "(I)I"⟩, 8) := ⟨⟨by decide +kernel, by decide +kernel⟩, List.mem_of_getElem? (i := 16) (by decide +kernel), List.mem_of_getElem? (i := 514) (by decide +kernel), List.mem_of_getElem? (i := 515) (by decide +kernel)⟩
theorem lw_p13 : lw_okq (⟨"TryLoops", "repeatsBy", "(II)Z"⟩, 8) := ⟨⟨by decide +kernel, by decide +kernel⟩, List.mem_of_getElem? (i := 16) (by decide +kernel), List.mem_of_getElem? (i := 518) (by decide +kernel), List.mem_of_getElem? (i := 519) (by decide +kernel)⟩
theorem lw_p14 : lw_okq (⟨"TryLoops", "riseAt", "(III)I"⟩, 8) := ⟨⟨by decide +kernel, by decide +kernel⟩, List.mem_of_getElem? (i := 16) (by decide +kernel), List.mem_of_getElem? (i := 522) (by decide +kernel), List.mem_of_getElem? (i := 523) (by decide +kernel)⟩
theorem lw_p15 : lw_okq (⟨"TryLoops$Text", "readItem", "()Z"⟩, 4) := ⟨⟨by decide +kernel, by decide +kernel⟩, List.mem_of_getElem? (i := 129) (by decide +kernel), List.mem_of_getElem? (i := 567) (by decide +kernel), List.mem_of_getElem? (i := 568) (by decide +kernel)⟩
def lw_privs_1 : List (MethodName × Nat) := [(⟨"TryLoops$History", "dropOldest", "()V"⟩, 2), (⟨"TryLoops", "countVerbRows", "()I"⟩, 8), (⟨"TryLoops$Shelf", "look", "([III)I"⟩, 7), (⟨"TryLoops", "countCommon", "(IIZ)I"⟩, 8), (⟨"TryLoops", "areAlike", "(IIIIZ)Z"⟩, 8), (⟨"TryLoops", "canGeneralise", "(II)Z"⟩, 8), (⟨"TryLoops", "countZeroStrides", "(II)I"⟩, 8), (⟨"TryLoops", "turnsInRange", "(II)I"⟩, 8), (⟨"TryLoops$Row", "put", "(II)V"⟩, 2), (⟨"TryLoops", "isTurn", "(IIII)Z"⟩, 8), (⟨"TryLoops$Shelf", "hasPlace", "(I)Z"⟩, 7), (⟨"TryLoops", "makeLoop", "(IIIII)I"⟩, 8), (⟨"TryLoops", "leastPeriod", "(I)I"⟩, 8), (⟨"TryLoops", "repeatsBy", "(II)Z"⟩, 8), (⟨"TryLoops", "riseAt", "(III)I"⟩, 8), (⟨"TryLoops$Text", "readItem", "()Z"⟩, 4)]
theorem lw_r1 : ∀ q ∈ lw_privs_1, lw_okq q := List.forall_mem_cons.mpr ⟨lw_p0, List.forall_mem_cons.mpr ⟨lw_p1, List.forall_mem_cons.mpr ⟨lw_p2, List.forall_mem_cons.mpr ⟨lw_p3, List.forall_mem_cons.mpr ⟨lw_p4, List.forall_mem_cons.mpr ⟨lw_p5, List.forall_mem_cons.mpr ⟨lw_p6, List.forall_mem_cons.mpr ⟨lw_p7, List.forall_mem_cons.mpr ⟨lw_p8, List.forall_mem_cons.mpr ⟨lw_p9, List.forall_mem_cons.mpr ⟨lw_p10, List.forall_mem_cons.mpr ⟨lw_p11, List.forall_mem_cons.mpr ⟨lw_p12, List.forall_mem_cons.mpr ⟨lw_p13, List.forall_mem_cons.mpr ⟨lw_p14, List.forall_mem_cons.mpr ⟨lw_p15, fun _ h => absurd h List.not_mem_nil⟩⟩⟩⟩⟩⟩⟩⟩⟩⟩⟩⟩⟩⟩⟩⟩
theorem lw_p16 : lw_okq (⟨"TryLoops$Text", "next", "()C"⟩, 4) := ⟨⟨by decide +kernel, by decide +kernel⟩, List.mem_of_getElem? (i := 129) (by decide +kernel), List.mem_of_getElem? (i := 572) (by decide +kernel), List.mem_of_getElem? (i := 573) (by decide +kernel)⟩
theorem lw_p17 : lw_okq (⟨"TryLoops$Text", "readStep", "(Z)Z"⟩, 4) := ⟨⟨by decide +kernel, by decide +kernel⟩, List.mem_of_getElem? (i := 129) (by decide +kernel), List.mem_of_getElem? (i := 579) (by decide +kernel), List.mem_of_getElem? (i := 580) (by decide +kernel)⟩
theorem lw_p18 : lw_okq (⟨"TryLoops$Text", "readNumber", "(II)I"⟩, 4) := ⟨⟨by decide +kernel, by decide +kernel⟩, List.mem_of_getElem? (i := 129) (by decide +kernel), List.mem_of_getElem? (i := 667) (by decide +kernel), List.mem_of_getElem? (i := 668) (by decide +kernel)⟩
theorem lw_p19 : lw_okq (⟨"TryLoops$Text", "readBody", "()Z"⟩, 4) := ⟨⟨by decide +kernel, by decide +kernel⟩, List.mem_of_getElem? (i := 129) (by decide +kernel), List.mem_of_getElem? (i := 672) (by decide +kernel), List.mem_of_getElem? (i := 673) (by decide +kernel)⟩
theorem lw_p20 : lw_okq (⟨"TryLoops$Text", "take", "(C)Z"⟩, 4) := ⟨⟨by decide +kernel, by decide +kernel⟩, List.mem_of_getElem? (i := 129) (by decide +kernel), List.mem_of_getElem? (i := 676) (by decide +kernel), List.mem_of_getElem? (i := 677) (by decide +kernel)⟩
def lw_privs_2 : List (MethodName × Nat) := [(⟨"TryLoops$Text", "next", "()C"⟩, 4), (⟨"TryLoops$Text", "readStep", "(Z)Z"⟩, 4), (⟨"TryLoops$Text", "readNumber", "(II)I"⟩, 4), (⟨"TryLoops$Text", "readBody", "()Z"⟩, 4), (⟨"TryLoops$Text", "take", "(C)Z"⟩, 4)]
theorem lw_r2 : ∀ q ∈ lw_privs_2, lw_okq q := List.forall_mem_cons.mpr ⟨lw_p16, List.forall_mem_cons.mpr ⟨lw_p17, List.forall_mem_cons.mpr ⟨lw_p18, List.forall_mem_cons.mpr ⟨lw_p19, List.forall_mem_cons.mpr ⟨lw_p20, fun _ h => absurd h List.not_mem_nil⟩⟩⟩⟩⟩
def lw_privs : List (MethodName × Nat) := lw_privs_1 ++ (lw_privs_2)
def lw_tbl : List Cond := k2_sels lw_privs ++ tables_1
theorem lw_privs_ok : ∀ q ∈ lw_privs, lw_okq q := by
  show ∀ q ∈ lw_privs_1 ++ (lw_privs_2), lw_okq q
  exact List.forall_mem_append.mpr ⟨lw_r1, lw_r2⟩
def RX0 : String := "TryLoops$History"
def TX0 : u_T := fun k => match k with
  | 0 => ("TryLoops$History", "states", "[LTryLoops$State;", true)
  | _ => ("TryLoops$History", "count", "I", false)
def tyX0 : Nat → FieldType := fun k => match k with
  | 0 => .array (.object "TryLoops$State")
  | _ => .int
abbrev wsX00 : List Cond := u_ws RX0 TX0 2
theorem nmX0 : ∀ a, a < 2 → ∀ b, b < 2 → a ≠ b → (TX0 a).2.1 ≠ (TX0 b).2.1 := by decide +kernel
theorem tyX0_ok : ∀ k, k < 2 → parseFieldDescriptor (TX0 k).2.2.1 = some (tyX0 k) := by decide +kernel
abbrev cX0_init : ByteArray := prog_2_method_1_code
def yX0_init : MethodName := ⟨RX0, "<init>", "()V"⟩
abbrev cX0_push : ByteArray := prog_2_method_2_code
def yX0_push : MethodName := ⟨RX0, "push", "(LTryLoops$State;)V"⟩
abbrev cX0_pop : ByteArray := prog_2_method_3_code
def yX0_pop : MethodName := ⟨RX0, "pop", "(LTryLoops$State;)Z"⟩
abbrev cX0_dropOldest : ByteArray := prog_2_method_4_code
def yX0_dropOldest : MethodName := ⟨RX0, "dropOldest", "()V"⟩
def RX1 : String := "TryLoops$Play"
def TX1 : u_T := fun k => match k with
  | 0 => ("TryLoops$Play", "done", "I", false)
  | 1 => ("TryLoops$Play", "testsPassed", "I", false)
  | _ => ("TryLoops$Play", "reason", "I", false)
def tyX1 : Nat → FieldType := fun k => match k with
  | 0 => .int
  | 1 => .int
  | _ => .int
abbrev wsX10 : List Cond := u_ws RX1 TX1 3
theorem nmX1 : ∀ a, a < 3 → ∀ b, b < 3 → a ≠ b → (TX1 a).2.1 ≠ (TX1 b).2.1 := by decide +kernel
theorem tyX1_ok : ∀ k, k < 3 → parseFieldDescriptor (TX1 k).2.2.1 = some (tyX1 k) := by decide +kernel
abbrev cX1_init : ByteArray := prog_3_method_1_code
def yX1_init : MethodName := ⟨RX1, "<init>", "()V"⟩
abbrev cX1_begin : ByteArray := prog_3_method_2_code
def yX1_begin : MethodName := ⟨RX1, "begin", "()V"⟩
abbrev cX1_doTurns : ByteArray := prog_3_method_3_code
def yX1_doTurns : MethodName := ⟨RX1, "doTurns", "(LTryLoops$Row;LTryLoops$Shelf;II)V"⟩
abbrev cX1_doTurn : ByteArray := prog_3_method_4_code
def yX1_doTurn : MethodName := ⟨RX1, "doTurn", "(LTryLoops$Row;LTryLoops$Shelf;II)Z"⟩
def RX2 : String := "TryLoops$Row"
def TX2 : u_T := fun k => match k with
  | 0 => ("TryLoops$Row", "cells", "[I", true)
  | _ => ("TryLoops$Row", "hand", "I", false)
def tyX2 : Nat → FieldType := fun k => match k with
  | 0 => .array .int
  | _ => .int
abbrev wsX20 : List Cond := u_ws RX2 TX2 2
theorem nmX2 : ∀ a, a < 2 → ∀ b, b < 2 → a ≠ b → (TX2 a).2.1 ≠ (TX2 b).2.1 := by decide +kernel
theorem tyX2_ok : ∀ k, k < 2 → parseFieldDescriptor (TX2 k).2.2.1 = some (tyX2 k) := by decide +kernel
abbrev cX2_init : ByteArray := prog_4_method_1_code
def yX2_init : MethodName := ⟨RX2, "<init>", "()V"⟩
abbrev cX2_valueAt : ByteArray := prog_4_method_2_code
def yX2_valueAt : MethodName := ⟨RX2, "valueAt", "(I)I"⟩
abbrev cX2_valueUnderHand : ByteArray := prog_4_method_3_code
def yX2_valueUnderHand : MethodName := ⟨RX2, "valueUnderHand", "()I"⟩
abbrev cX2_sum : ByteArray := prog_4_method_4_code
def yX2_sum : MethodName := ⟨RX2, "sum", "()I"⟩
abbrev cX2_copyFrom : ByteArray := prog_4_method_5_code
def yX2_copyFrom : MethodName := ⟨RX2, "copyFrom", "(LTryLoops$Row;)V"⟩
abbrev cX2_obey : ByteArray := prog_4_method_6_code
def yX2_obey : MethodName := ⟨RX2, "obey", "(II)Z"⟩
abbrev cX2_put : ByteArray := prog_4_method_7_code
def yX2_put : MethodName := ⟨RX2, "put", "(II)V"⟩
def RX3 : String := "TryLoops$Shelf"
def TX3 : u_T := fun k => match k with
  | 0 => ("TryLoops$Shelf", "width", "I", true)
  | 1 => ("TryLoops$Shelf", "verbs", "[I", true)
  | 2 => ("TryLoops$Shelf", "numbers", "[I", true)
  | 3 => ("TryLoops$Shelf", "strides", "[I", true)
  | 4 => ("TryLoops$Shelf", "sizes", "[I", true)
  | 5 => ("TryLoops$Shelf", "turns", "[I", true)
  | _ => ("TryLoops$Shelf", "count", "I", false)
def tyX3 : Nat → FieldType := fun k => match k with
  | 0 => .int
  | 1 => .array .int
  | 2 => .array .int
  | 3 => .array .int
  | 4 => .array .int
  | 5 => .array .int
  | _ => .int
abbrev wsX30 : List Cond := u_ws RX3 TX3 7
theorem nmX3 : ∀ a, a < 7 → ∀ b, b < 7 → a ≠ b → (TX3 a).2.1 ≠ (TX3 b).2.1 := by decide +kernel
theorem tyX3_ok : ∀ k, k < 7 → parseFieldDescriptor (TX3 k).2.2.1 = some (tyX3 k) := by decide +kernel
abbrev cX3_init : ByteArray := prog_5_method_1_code
def yX3_init : MethodName := ⟨RX3, "<init>", "(II)V"⟩
abbrev cX3_holds : ByteArray := prog_5_method_2_code
def yX3_holds : MethodName := ⟨RX3, "holds", "(I)Z"⟩
abbrev cX3_isFull : ByteArray := prog_5_method_3_code
def yX3_isFull : MethodName := ⟨RX3, "isFull", "()Z"⟩
abbrev cX3_hasStep : ByteArray := prog_5_method_4_code
def yX3_hasStep : MethodName := ⟨RX3, "hasStep", "(II)Z"⟩
abbrev cX3_sizeOf : ByteArray := prog_5_method_5_code
def yX3_sizeOf : MethodName := ⟨RX3, "sizeOf", "(I)I"⟩
abbrev cX3_turnsOf : ByteArray := prog_5_method_6_code
def yX3_turnsOf : MethodName := ⟨RX3, "turnsOf", "(I)I"⟩
abbrev cX3_verbAt : ByteArray := prog_5_method_7_code
def yX3_verbAt : MethodName := ⟨RX3, "verbAt", "(II)I"⟩
abbrev cX3_numberAt : ByteArray := prog_5_method_8_code
def yX3_numberAt : MethodName := ⟨RX3, "numberAt", "(II)I"⟩
abbrev cX3_strideAt : ByteArray := prog_5_method_9_code
def yX3_strideAt : MethodName := ⟨RX3, "strideAt", "(II)I"⟩
abbrev cX3_numberInTurn : ByteArray := prog_5_method_10_code
def yX3_numberInTurn : MethodName := ⟨RX3, "numberInTurn", "(III)I"⟩
abbrev cX3_haveSameVerbs : ByteArray := prog_5_method_11_code
def yX3_haveSameVerbs : MethodName := ⟨RX3, "haveSameVerbs", "(II)Z"⟩
abbrev cX3_emptyNext : ByteArray := prog_5_method_12_code
def yX3_emptyNext : MethodName := ⟨RX3, "emptyNext", "()V"⟩
abbrev cX3_keepNext : ByteArray := prog_5_method_13_code
def yX3_keepNext : MethodName := ⟨RX3, "keepNext", "(I)I"⟩
abbrev cX3_giveTurns : ByteArray := prog_5_method_14_code
def yX3_giveTurns : MethodName := ⟨RX3, "giveTurns", "(II)V"⟩
abbrev cX3_append : ByteArray := prog_5_method_15_code
def yX3_append : MethodName := ⟨RX3, "append", "(IIII)V"⟩
abbrev cX3_drop : ByteArray := prog_5_method_16_code
def yX3_drop : MethodName := ⟨RX3, "drop", "(I)V"⟩
abbrev cX3_clear : ByteArray := prog_5_method_17_code
def yX3_clear : MethodName := ⟨RX3, "clear", "()V"⟩
abbrev cX3_copyFrom : ByteArray := prog_5_method_18_code
def yX3_copyFrom : MethodName := ⟨RX3, "copyFrom", "(LTryLoops$Shelf;)V"⟩
abbrev cX3_hasPlace : ByteArray := prog_5_method_19_code
def yX3_hasPlace : MethodName := ⟨RX3, "hasPlace", "(I)Z"⟩
abbrev cX3_look : ByteArray := prog_5_method_20_code
def yX3_look : MethodName := ⟨RX3, "look", "([III)I"⟩
abbrev cX3_moveUp : ByteArray := prog_5_method_21_code
def yX3_moveUp : MethodName := ⟨RX3, "moveUp", "([III)V"⟩
def RX4 : String := "TryLoops$State"
def TX4 : u_T := fun k => match k with
  | 0 => ("TryLoops$State", "row", "LTryLoops$Row;", true)
  | 1 => ("TryLoops$State", "tries", "LTryLoops$Shelf;", true)
  | 2 => ("TryLoops$State", "loops", "LTryLoops$Shelf;", true)
  | 3 => ("TryLoops$State", "open", "Z", false)
  | 4 => ("TryLoops$State", "stepsDone", "I", false)
  | 5 => ("TryLoops$State", "testsFailed", "I", false)
  | 6 => ("TryLoops$State", "plays", "I", false)
  | _ => ("TryLoops$State", "latestReason", "I", false)
def tyX4 : Nat → FieldType := fun k => match k with
  | 0 => .object "TryLoops$Row"
  | 1 => .object "TryLoops$Shelf"
  | 2 => .object "TryLoops$Shelf"
  | 3 => .boolean
  | 4 => .int
  | 5 => .int
  | 6 => .int
  | _ => .int
abbrev wsX40 : List Cond := u_ws RX4 TX4 8
theorem nmX4 : ∀ a, a < 8 → ∀ b, b < 8 → a ≠ b → (TX4 a).2.1 ≠ (TX4 b).2.1 := by decide +kernel
theorem tyX4_ok : ∀ k, k < 8 → parseFieldDescriptor (TX4 k).2.2.1 = some (tyX4 k) := by decide +kernel
abbrev cX4_init : ByteArray := prog_6_method_1_code
def yX4_init : MethodName := ⟨RX4, "<init>", "()V"⟩
abbrev cX4_openSize : ByteArray := prog_6_method_2_code
def yX4_openSize : MethodName := ⟨RX4, "openSize", "()I"⟩
abbrev cX4_obey : ByteArray := prog_6_method_3_code
def yX4_obey : MethodName := ⟨RX4, "obey", "(II)Z"⟩
abbrev cX4_playLoop : ByteArray := prog_6_method_4_code
def yX4_playLoop : MethodName := ⟨RX4, "playLoop", "(LTryLoops$Play;LTryLoops$Shelf;I)I"⟩
abbrev cX4_copyFrom : ByteArray := prog_6_method_5_code
def yX4_copyFrom : MethodName := ⟨RX4, "copyFrom", "(LTryLoops$State;)V"⟩
def RX5 : String := "TryLoops$Text"
def TX5 : u_T := fun k => match k with
  | 0 => ("TryLoops$Text", "signs", "[C", true)
  | 1 => ("TryLoops$Text", "size", "I", false)
  | 2 => ("TryLoops$Text", "at", "I", false)
  | _ => ("TryLoops$Text", "items", "LTryLoops$Shelf;", true)
def tyX5 : Nat → FieldType := fun k => match k with
  | 0 => .array .char
  | 1 => .int
  | 2 => .int
  | _ => .object "TryLoops$Shelf"
abbrev wsX50 : List Cond := u_ws RX5 TX5 4
theorem nmX5 : ∀ a, a < 4 → ∀ b, b < 4 → a ≠ b → (TX5 a).2.1 ≠ (TX5 b).2.1 := by decide +kernel
theorem tyX5_ok : ∀ k, k < 4 → parseFieldDescriptor (TX5 k).2.2.1 = some (tyX5 k) := by decide +kernel
abbrev cX5_init : ByteArray := prog_7_method_1_code
def yX5_init : MethodName := ⟨RX5, "<init>", "()V"⟩
abbrev cX5_read : ByteArray := prog_7_method_3_code
def yX5_read : MethodName := ⟨RX5, "read", "()Z"⟩
abbrev cX5_readItem : ByteArray := prog_7_method_4_code
def yX5_readItem : MethodName := ⟨RX5, "readItem", "()Z"⟩
abbrev cX5_readBody : ByteArray := prog_7_method_5_code
def yX5_readBody : MethodName := ⟨RX5, "readBody", "()Z"⟩
abbrev cX5_readStep : ByteArray := prog_7_method_6_code
def yX5_readStep : MethodName := ⟨RX5, "readStep", "(Z)Z"⟩
abbrev cX5_readNumber : ByteArray := prog_7_method_7_code
def yX5_readNumber : MethodName := ⟨RX5, "readNumber", "(II)I"⟩
abbrev cX5_digitOf : ByteArray := prog_7_method_8_code
def yX5_digitOf : MethodName := ⟨RX5, "digitOf", "(C)I"⟩
abbrev cX5_take : ByteArray := prog_7_method_9_code
def yX5_take : MethodName := ⟨RX5, "take", "(C)Z"⟩
abbrev cX5_next : ByteArray := prog_7_method_10_code
def yX5_next : MethodName := ⟨RX5, "next", "()C"⟩
def RX6 : String := "TryLoops"
def TX6 : u_T := fun k => match k with
  | 0 => ("TryLoops", "now", "LTryLoops$State;", true)
  | 1 => ("TryLoops", "history", "LTryLoops$History;", true)
  | 2 => ("TryLoops", "snapshot", "LTryLoops$State;", true)
  | 3 => ("TryLoops", "snapshotTaken", "Z", false)
  | 4 => ("TryLoops", "text", "LTryLoops$Text;", true)
  | 5 => ("TryLoops", "run", "LTryLoops$Play;", true)
  | 6 => ("TryLoops", "rehearsal", "LTryLoops$Row;", true)
  | _ => ("TryLoops", "commonCounts", "[I", true)
def tyX6 : Nat → FieldType := fun k => match k with
  | 0 => .object "TryLoops$State"
  | 1 => .object "TryLoops$History"
  | 2 => .object "TryLoops$State"
  | 3 => .boolean
  | 4 => .object "TryLoops$Text"
  | 5 => .object "TryLoops$Play"
  | 6 => .object "TryLoops$Row"
  | _ => .array .int
abbrev wsX60 : List Cond := u_ws RX6 TX6 8
theorem nmX6 : ∀ a, a < 8 → ∀ b, b < 8 → a ≠ b → (TX6 a).2.1 ≠ (TX6 b).2.1 := by decide +kernel
theorem tyX6_ok : ∀ k, k < 8 → parseFieldDescriptor (TX6 k).2.2.1 = some (tyX6 k) := by decide +kernel
abbrev cX6_init : ByteArray := prog_1_method_1_code
def yX6_init : MethodName := ⟨RX6, "<init>", "()V"⟩
abbrev cX6_step : ByteArray := prog_1_method_2_code
def yX6_step : MethodName := ⟨RX6, "step", "(II)I"⟩
abbrev cX6_record : ByteArray := prog_1_method_3_code
def yX6_record : MethodName := ⟨RX6, "record", "()I"⟩
abbrev cX6_end : ByteArray := prog_1_method_4_code
def yX6_end : MethodName := ⟨RX6, "end", "()I"⟩
abbrev cX6_dropTry : ByteArray := prog_1_method_5_code
def yX6_dropTry : MethodName := ⟨RX6, "dropTry", "(I)I"⟩
abbrev cX6_generalise : ByteArray := prog_1_method_6_code
def yX6_generalise : MethodName := ⟨RX6, "generalise", "(II)I"⟩
abbrev cX6_fold : ByteArray := prog_1_method_7_code
def yX6_fold : MethodName := ⟨RX6, "fold", "(I)I"⟩
abbrev cX6_setTurns : ByteArray := prog_1_method_8_code
def yX6_setTurns : MethodName := ⟨RX6, "setTurns", "(II)I"⟩
abbrev cX6_dropLoop : ByteArray := prog_1_method_9_code
def yX6_dropLoop : MethodName := ⟨RX6, "dropLoop", "(I)I"⟩
abbrev cX6_play : ByteArray := prog_1_method_10_code
def yX6_play : MethodName := ⟨RX6, "play", "(I)I"⟩
abbrev cX6_clearText : ByteArray := prog_1_method_12_code
def yX6_clearText : MethodName := ⟨RX6, "clearText", "()I"⟩
abbrev cX6_perform : ByteArray := prog_1_method_13_code
def yX6_perform : MethodName := ⟨RX6, "perform", "()I"⟩
abbrev cX6_undo : ByteArray := prog_1_method_14_code
def yX6_undo : MethodName := ⟨RX6, "undo", "()I"⟩
abbrev cX6_keep : ByteArray := prog_1_method_15_code
def yX6_keep : MethodName := ⟨RX6, "keep", "()I"⟩
abbrev cX6_restore : ByteArray := prog_1_method_16_code
def yX6_restore : MethodName := ⟨RX6, "restore", "()I"⟩
abbrev cX6_cell : ByteArray := prog_1_method_17_code
def yX6_cell : MethodName := ⟨RX6, "cell", "(I)I"⟩
abbrev cX6_ofTry : ByteArray := prog_1_method_18_code
def yX6_ofTry : MethodName := ⟨RX6, "ofTry", "(III)I"⟩
abbrev cX6_ofLoop : ByteArray := prog_1_method_19_code
def yX6_ofLoop : MethodName := ⟨RX6, "ofLoop", "(III)I"⟩
abbrev cX6_length : ByteArray := prog_1_method_20_code
def yX6_length : MethodName := ⟨RX6, "length", "(II)I"⟩
abbrev cX6_total : ByteArray := prog_1_method_21_code
def yX6_total : MethodName := ⟨RX6, "total", "(I)I"⟩
abbrev cX6_alike : ByteArray := prog_1_method_22_code
def yX6_alike : MethodName := ⟨RX6, "alike", "(III)I"⟩
abbrev cX6_bestPair : ByteArray := prog_1_method_23_code
def yX6_bestPair : MethodName := ⟨RX6, "bestPair", "(I)I"⟩
abbrev cX6_fits : ByteArray := prog_1_method_24_code
def yX6_fits : MethodName := ⟨RX6, "fits", "(II)I"⟩
abbrev cX6_mostTurns : ByteArray := prog_1_method_25_code
def yX6_mostTurns : MethodName := ⟨RX6, "mostTurns", "(I)I"⟩
abbrev cX6_ifPlayed : ByteArray := prog_1_method_26_code
def yX6_ifPlayed : MethodName := ⟨RX6, "ifPlayed", "(III)I"⟩
abbrev cX6_fewestTurns : ByteArray := prog_1_method_27_code
def yX6_fewestTurns : MethodName := ⟨RX6, "fewestTurns", "(III)I"⟩
abbrev cX6_isVerb : ByteArray := prog_1_method_28_code
def yX6_isVerb : MethodName := ⟨RX6, "isVerb", "(I)Z"⟩
abbrev cX6_isCell : ByteArray := prog_1_method_29_code
def yX6_isCell : MethodName := ⟨RX6, "isCell", "(I)Z"⟩
abbrev cX6_isTurns : ByteArray := prog_1_method_30_code
def yX6_isTurns : MethodName := ⟨RX6, "isTurns", "(I)Z"⟩
abbrev cX6_greatestNumber : ByteArray := prog_1_method_31_code
def yX6_greatestNumber : MethodName := ⟨RX6, "greatestNumber", "(I)I"⟩
abbrev cX6_inRange : ByteArray := prog_1_method_32_code
def yX6_inRange : MethodName := ⟨RX6, "inRange", "(II)Z"⟩
abbrev cX6_canGeneralise : ByteArray := prog_1_method_33_code
def yX6_canGeneralise : MethodName := ⟨RX6, "canGeneralise", "(II)Z"⟩
abbrev cX6_countZeroStrides : ByteArray := prog_1_method_34_code
def yX6_countZeroStrides : MethodName := ⟨RX6, "countZeroStrides", "(II)I"⟩
abbrev cX6_countVerbRows : ByteArray := prog_1_method_35_code
def yX6_countVerbRows : MethodName := ⟨RX6, "countVerbRows", "()I"⟩
abbrev cX6_countCommon : ByteArray := prog_1_method_36_code
def yX6_countCommon : MethodName := ⟨RX6, "countCommon", "(IIZ)I"⟩
abbrev cX6_areAlike : ByteArray := prog_1_method_37_code
def yX6_areAlike : MethodName := ⟨RX6, "areAlike", "(IIIIZ)Z"⟩
abbrev cX6_makeLoop : ByteArray := prog_1_method_38_code
def yX6_makeLoop : MethodName := ⟨RX6, "makeLoop", "(IIIII)I"⟩
abbrev cX6_leastPeriod : ByteArray := prog_1_method_39_code
def yX6_leastPeriod : MethodName := ⟨RX6, "leastPeriod", "(I)I"⟩
abbrev cX6_repeatsBy : ByteArray := prog_1_method_40_code
def yX6_repeatsBy : MethodName := ⟨RX6, "repeatsBy", "(II)Z"⟩
abbrev cX6_riseAt : ByteArray := prog_1_method_41_code
def yX6_riseAt : MethodName := ⟨RX6, "riseAt", "(III)I"⟩
abbrev cX6_isTurn : ByteArray := prog_1_method_42_code
def yX6_isTurn : MethodName := ⟨RX6, "isTurn", "(IIII)Z"⟩
abbrev cX6_turnsInRange : ByteArray := prog_1_method_43_code
def yX6_turnsInRange : MethodName := ⟨RX6, "turnsInRange", "(II)I"⟩
abbrev cX6_copyNumbers : ByteArray := prog_1_method_44_code
def yX6_copyNumbers : MethodName := ⟨RX6, "copyNumbers", "([I[I)V"⟩
def RX7 : String := "TryLoopsModel"
def TX7 : u_T := fun k => match k with
  | _ => ("", "", "", false)
def tyX7 : Nat → FieldType := fun k => match k with
  | _ => .int
abbrev wsX70 : List Cond := u_ws RX7 TX7 0
theorem nmX7 : ∀ a, a < 0 → ∀ b, b < 0 → a ≠ b → (TX7 a).2.1 ≠ (TX7 b).2.1 := by decide +kernel
theorem tyX7_ok : ∀ k, k < 0 → parseFieldDescriptor (TX7 k).2.2.1 = some (tyX7 k) := by decide +kernel
def RJ11 : String := "java/lang/Character"
def TJ11 : u_T := fun k => match k with
  | _ => ("", "", "", false)
def tyJ11 : Nat → FieldType := fun k => match k with
  | _ => .int
abbrev wsJ110 : List Cond := u_ws RJ11 TJ11 0
theorem nmJ11 : ∀ a, a < 0 → ∀ b, b < 0 → a ≠ b → (TJ11 a).2.1 ≠ (TJ11 b).2.1 := by decide +kernel
theorem tyJ11_ok : ∀ k, k < 0 → parseFieldDescriptor (TJ11 k).2.2.1 = some (tyJ11 k) := by decide +kernel
abbrev cJ11_isValidCodePoint_9a6ad : ByteArray := prog_10_method_11_code
def yJ11_isValidCodePoint_9a6ad : MethodName := ⟨RJ11, "isValidCodePoint", "(I)Z"⟩
abbrev cJ11_highSurrogate_5068e : ByteArray := prog_10_method_28_code
def yJ11_highSurrogate_5068e : MethodName := ⟨RJ11, "highSurrogate", "(I)C"⟩
abbrev cJ11_lowSurrogate_5068e : ByteArray := prog_10_method_29_code
def yJ11_lowSurrogate_5068e : MethodName := ⟨RJ11, "lowSurrogate", "(I)C"⟩
def RJ9 : String := "java/lang/Math"
def TJ9 : u_T := fun k => match k with
  | _ => ("", "", "", false)
def tyJ9 : Nat → FieldType := fun k => match k with
  | _ => .int
abbrev wsJ90 : List Cond := u_ws RJ9 TJ9 0
theorem nmJ9 : ∀ a, a < 0 → ∀ b, b < 0 → a ≠ b → (TJ9 a).2.1 ≠ (TJ9 b).2.1 := by decide +kernel
theorem tyJ9_ok : ∀ k, k < 0 → parseFieldDescriptor (TJ9 k).2.2.1 = some (tyJ9 k) := by decide +kernel
abbrev cJ9_max_7cf53 : ByteArray := prog_11_method_65_code
def yJ9_max_7cf53 : MethodName := ⟨RJ9, "max", "(II)I"⟩
abbrev cJ9_min_7cf53 : ByteArray := prog_11_method_69_code
def yJ9_min_7cf53 : MethodName := ⟨RJ9, "min", "(II)I"⟩
def RJ0 : String := "java/lang/String"
def TJ0 : u_T := fun k => match k with
  | _ => ("", "", "", false)
def tyJ0 : Nat → FieldType := fun k => match k with
  | _ => .int
abbrev wsJ00 : List Cond := u_ws RJ0 TJ0 0
theorem nmJ0 : ∀ a, a < 0 → ∀ b, b < 0 → a ≠ b → (TJ0 a).2.1 ≠ (TJ0 b).2.1 := by decide +kernel
theorem tyJ0_ok : ∀ k, k < 0 → parseFieldDescriptor (TJ0 k).2.2.1 = some (tyJ0 k) := by decide +kernel
abbrev cJ0_length_8abf5 : ByteArray := prog_12_method_54_code
def yJ0_length_8abf5 : MethodName := ⟨RJ0, "length", "()I"⟩
abbrev cJ0_indexOf_0f7a4 : ByteArray := prog_12_method_79_code
def yJ0_indexOf_0f7a4 : MethodName := ⟨RJ0, "indexOf", "(I)I"⟩
abbrev cJ0_indexOf_7cf53 : ByteArray := prog_12_method_80_code
def yJ0_indexOf_7cf53 : MethodName := ⟨RJ0, "indexOf", "(II)I"⟩
abbrev cJ0_coder_7d493 : ByteArray := prog_12_method_152_code
def yJ0_coder_7d493 : MethodName := ⟨RJ0, "coder", "()B"⟩
abbrev cJ0_isLatin1_aae02 : ByteArray := prog_12_method_154_code
def yJ0_isLatin1_aae02 : MethodName := ⟨RJ0, "isLatin1", "()Z"⟩
abbrev cJ0_checkBoundsBeginEnd_23922 : ByteArray := prog_12_method_158_code
def yJ0_checkBoundsBeginEnd_23922 : MethodName := ⟨RJ0, "checkBoundsBeginEnd", "(III)V"⟩
def RJ1 : String := "java/lang/StringLatin1"
def TJ1 : u_T := fun k => match k with
  | _ => ("", "", "", false)
def tyJ1 : Nat → FieldType := fun k => match k with
  | _ => .int
abbrev wsJ10 : List Cond := u_ws RJ1 TJ1 0
theorem nmJ1 : ∀ a, a < 0 → ∀ b, b < 0 → a ≠ b → (TJ1 a).2.1 ≠ (TJ1 b).2.1 := by decide +kernel
theorem tyJ1_ok : ∀ k, k < 0 → parseFieldDescriptor (TJ1 k).2.2.1 = some (tyJ1 k) := by decide +kernel
abbrev cJ1_canEncode_9a6ad : ByteArray := prog_13_method_4_code
def yJ1_canEncode_9a6ad : MethodName := ⟨RJ1, "canEncode", "(I)Z"⟩
abbrev cJ1_indexOf_4cfef : ByteArray := prog_13_method_22_code
def yJ1_indexOf_4cfef : MethodName := ⟨RJ1, "indexOf", "([BIII)I"⟩
abbrev cJ1_indexOfChar_4cfef : ByteArray := prog_13_method_23_code
def yJ1_indexOfChar_4cfef : MethodName := ⟨RJ1, "indexOfChar", "([BIII)I"⟩
def RJ2 : String := "java/lang/StringUTF16"
def TJ2 : u_T := fun k => match k with
  | _ => ("", "", "", false)
def tyJ2 : Nat → FieldType := fun k => match k with
  | _ => .int
abbrev wsJ20 : List Cond := u_ws RJ2 TJ2 0
theorem nmJ2 : ∀ a, a < 0 → ∀ b, b < 0 → a ≠ b → (TJ2 a).2.1 ≠ (TJ2 b).2.1 := by decide +kernel
theorem tyJ2_ok : ∀ k, k < 0 → parseFieldDescriptor (TJ2 k).2.2.1 = some (tyJ2 k) := by decide +kernel
abbrev cJ2_getChar_3b067 : ByteArray := prog_14_method_5_code
def yJ2_getChar_3b067 : MethodName := ⟨RJ2, "getChar", "([BI)C"⟩
abbrev cJ2_length_9d52b : ByteArray := prog_14_method_6_code
def yJ2_length_9d52b : MethodName := ⟨RJ2, "length", "([B)I"⟩
abbrev cJ2_indexOf_4cfef : ByteArray := prog_14_method_40_code
def yJ2_indexOf_4cfef : MethodName := ⟨RJ2, "indexOf", "([BIII)I"⟩
abbrev cJ2_indexOfChar_4cfef : ByteArray := prog_14_method_47_code
def yJ2_indexOfChar_4cfef : MethodName := ⟨RJ2, "indexOfChar", "([BIII)I"⟩
abbrev cJ2_indexOfCharUnsafe_4cfef : ByteArray := prog_14_method_48_code
def yJ2_indexOfCharUnsafe_4cfef : MethodName := ⟨RJ2, "indexOfCharUnsafe", "([BIII)I"⟩
abbrev cJ2_indexOfSupplementary_4cfef : ByteArray := prog_14_method_49_code
def yJ2_indexOfSupplementary_4cfef : MethodName := ⟨RJ2, "indexOfSupplementary", "([BIII)I"⟩
abbrev cJ2_checkBoundsBeginEnd_d044e : ByteArray := prog_14_method_93_code
def yJ2_checkBoundsBeginEnd_d044e : MethodName := ⟨RJ2, "checkBoundsBeginEnd", "(II[B)V"⟩
def RJ10 : String := "java/lang/System"
def TJ10 : u_T := fun k => match k with
  | _ => ("", "", "", false)
def tyJ10 : Nat → FieldType := fun k => match k with
  | _ => .int
abbrev wsJ100 : List Cond := u_ws RJ10 TJ10 0
theorem nmJ10 : ∀ a, a < 0 → ∀ b, b < 0 → a ≠ b → (TJ10 a).2.1 ≠ (TJ10 b).2.1 := by decide +kernel
theorem tyJ10_ok : ∀ k, k < 0 → parseFieldDescriptor (TJ10 k).2.2.1 = some (tyJ10 k) := by decide +kernel
def RJ3 : String := "jdk/internal/util/Preconditions"
def TJ3 : u_T := fun k => match k with
  | _ => ("", "", "", false)
def tyJ3 : Nat → FieldType := fun k => match k with
  | _ => .int
abbrev wsJ30 : List Cond := u_ws RJ3 TJ3 0
theorem nmJ3 : ∀ a, a < 0 → ∀ b, b < 0 → a ≠ b → (TJ3 a).2.1 ≠ (TJ3 b).2.1 := by decide +kernel
theorem tyJ3_ok : ∀ k, k < 0 → parseFieldDescriptor (TJ3 k).2.2.1 = some (tyJ3 k) := by decide +kernel
abbrev cJ3_checkFromToIndex_8c36e : ByteArray := prog_16_method_12_code
def yJ3_checkFromToIndex_8c36e : MethodName := ⟨RJ3, "checkFromToIndex", "(IIILjava/util/function/BiFunction;)I"⟩
def RL : String := "TryLoopsLaw"
abbrev cL_cell : ByteArray := method_2_code
def yL_cell : MethodName := ⟨RL, "cell", "([II)I"⟩
abbrev cL_greatest : ByteArray := method_3_code
def yL_greatest : MethodName := ⟨RL, "greatest", "(I)I"⟩
abbrev cL_seen : ByteArray := method_4_code
def yL_seen : MethodName := ⟨RL, "seen", "(LTryLoops;)J"⟩
abbrev cL_areTries : ByteArray := method_5_code
def yL_areTries : MethodName := ⟨RL, "areTries", "(LTryLoops;)Z"⟩
abbrev cL_areLoops : ByteArray := method_6_code
def yL_areLoops : MethodName := ⟨RL, "areLoops", "(LTryLoops;)Z"⟩
abbrev cL_refusesAny : ByteArray := method_7_code
def yL_refusesAny : MethodName := ⟨RL, "refusesAny", "(LTryLoops;I)Z"⟩
abbrev cL_refuses : ByteArray := method_8_code
def yL_refuses : MethodName := ⟨RL, "refuses", "(LTryLoops;I)Z"⟩
abbrev cL_step : ByteArray := method_9_code
def yL_step : MethodName := ⟨RL, "step", "(LTryLoops;II)I"⟩
abbrev cL_loops : ByteArray := method_10_code
def yL_loops : MethodName := ⟨RL, "loops", "(LTryLoops;II)I"⟩
abbrev cL_act : ByteArray := method_11_code
def yL_act : MethodName := ⟨RL, "act", "(LTryLoops;I)I"⟩
abbrev cL_law : ByteArray := code
def yL_law : MethodName := ⟨RL, "law", "([I)Z"⟩
abbrev vwCl : List vw_C := [(RX0, TX0, 2), (RX1, TX1, 3), (RX2, TX2, 2), (RX3, TX3, 7), (RX4, TX4, 8), (RX5, TX5, 4), (RX6, TX6, 8)]
