-- ===== PART A: goes FIRST, ahead of the names: the tables' words, and 'selects' of the private methods out of them =====
/-- a private method of a class that the tables say can be made, by its rows of tables_1 -/
def lw_okq (q : MethodName × Nat) : Prop := (q.1.cls ≠ "java/lang/invoke/MethodHandle" ∧ q.1.cls ≠ "java/lang/invoke/VarHandle") ∧ Cond.instantiable q.1.cls q.2 ∈ tables_1 ∧ Cond.privateMethod q.1 ∈ tables_1 ∧ Cond.instanceMethod q.1 ∈ tables_1
theorem lw_p0 : lw_okq (⟨"RuleDepths$History", "dropOldest", "()V"⟩, 2) := ⟨⟨by decide +kernel, by decide +kernel⟩, List.mem_of_getElem? (i := 257) (by decide +kernel), List.mem_of_getElem? (i := 365) (by decide +kernel), List.mem_of_getElem? (i := 366) (by decide +kernel)⟩
theorem lw_p1 : lw_okq (⟨"RuleDepths$RuleList", "sortByRank", "()V"⟩, 3) := ⟨⟨by decide +kernel, by decide +kernel⟩, List.mem_of_getElem? (i := 73) (by decide +kernel), List.mem_of_getElem? (i := 418) (by decide +kernel), List.mem_of_getElem? (i := 419) (by decide +kernel)⟩
theorem lw_p2 : lw_okq (⟨"RuleDepths$RuleList", "rankOf", "(I)I"⟩, 3) := ⟨⟨by decide +kernel, by decide +kernel⟩, List.mem_of_getElem? (i := 73) (by decide +kernel), List.mem_of_getElem? (i := 422) (by decide +kernel), List.mem_of_getElem? (i := 423) (by decide +kernel)⟩
theorem lw_p3 : lw_okq (⟨"RuleDepths$Engine", "run", "(I)I"⟩, 8) := ⟨⟨by decide +kernel, by decide +kernel⟩, List.mem_of_getElem? (i := 23) (by decide +kernel), List.mem_of_getElem? (i := 457) (by decide +kernel), List.mem_of_getElem? (i := 458) (by decide +kernel)⟩
theorem lw_p4 : lw_okq (⟨"RuleDepths$Engine", "begin", "()V"⟩, 8) := ⟨⟨by decide +kernel, by decide +kernel⟩, List.mem_of_getElem? (i := 23) (by decide +kernel), List.mem_of_getElem? (i := 461) (by decide +kernel), List.mem_of_getElem? (i := 462) (by decide +kernel)⟩
theorem lw_p5 : lw_okq (⟨"RuleDepths$Engine", "operate", "(ILRuleDepths$Level;I)V"⟩, 8) := ⟨⟨by decide +kernel, by decide +kernel⟩, List.mem_of_getElem? (i := 23) (by decide +kernel), List.mem_of_getElem? (i := 465) (by decide +kernel), List.mem_of_getElem? (i := 466) (by decide +kernel)⟩
theorem lw_p6 : lw_okq (⟨"RuleDepths$Engine", "refuse", "(II)V"⟩, 8) := ⟨⟨by decide +kernel, by decide +kernel⟩, List.mem_of_getElem? (i := 23) (by decide +kernel), List.mem_of_getElem? (i := 469) (by decide +kernel), List.mem_of_getElem? (i := 470) (by decide +kernel)⟩
theorem lw_p7 : lw_okq (⟨"RuleDepths$Engine", "fireRules", "(IILRuleDepths$Level;)Z"⟩, 8) := ⟨⟨by decide +kernel, by decide +kernel⟩, List.mem_of_getElem? (i := 23) (by decide +kernel), List.mem_of_getElem? (i := 476) (by decide +kernel), List.mem_of_getElem? (i := 477) (by decide +kernel)⟩
theorem lw_p8 : lw_okq (⟨"RuleDepths$Engine", "isHeldBack", "(I)Z"⟩, 8) := ⟨⟨by decide +kernel, by decide +kernel⟩, List.mem_of_getElem? (i := 23) (by decide +kernel), List.mem_of_getElem? (i := 489) (by decide +kernel), List.mem_of_getElem? (i := 490) (by decide +kernel)⟩
theorem lw_p9 : lw_okq (⟨"RuleDepths$Engine", "fire", "(ILRuleDepths$Rule;LRuleDepths$Level;)Z"⟩, 8) := ⟨⟨by decide +kernel, by decide +kernel⟩, List.mem_of_getElem? (i := 23) (by decide +kernel), List.mem_of_getElem? (i := 501) (by decide +kernel), List.mem_of_getElem? (i := 502) (by decide +kernel)⟩
theorem lw_p10 : lw_okq (⟨"RuleDepths$Engine", "cause", "(ILRuleDepths$Rule;LRuleDepths$Level;)V"⟩, 8) := ⟨⟨by decide +kernel, by decide +kernel⟩, List.mem_of_getElem? (i := 23) (by decide +kernel), List.mem_of_getElem? (i := 521) (by decide +kernel), List.mem_of_getElem? (i := 522) (by decide +kernel)⟩
theorem lw_p11 : lw_okq (⟨"RuleDepths$Engine", "prepareCaused", "(LRuleDepths$Rule;LRuleDepths$Row;LRuleDepths$Row;)Z"⟩, 8) := ⟨⟨by decide +kernel, by decide +kernel⟩, List.mem_of_getElem? (i := 23) (by decide +kernel), List.mem_of_getElem? (i := 525) (by decide +kernel), List.mem_of_getElem? (i := 526) (by decide +kernel)⟩
theorem lw_p12 : lw_okq (⟨"RuleDepths$Engine", "canTake", "(I)Z"⟩, 8) := ⟨⟨by decide +kernel, by decide +kernel⟩, List.mem_of_getElem? (i := 23) (by decide +kernel), List.mem_of_getElem? (i := 530) (by decide +kernel), List.mem_of_getElem? (i := 531) (by decide +kernel)⟩
theorem lw_p13 : lw_okq (⟨"RuleDepths$Engine", "prepareUpdate", "(LRuleDepths$Row;III)Z"⟩, 8) := ⟨⟨by decide +kernel, by decide +kernel⟩, List.mem_of_getElem? (i := 23) (by decide +kernel), List.mem_of_getElem? (i := 534) (by decide +kernel), List.mem_of_getElem? (i := 535) (by decide +kernel)⟩
theorem lw_p14 : lw_okq (⟨"RuleDepths$Engine", "prepareDelete", "(LRuleDepths$Row;I)Z"⟩, 8) := ⟨⟨by decide +kernel, by decide +kernel⟩, List.mem_of_getElem? (i := 23) (by decide +kernel), List.mem_of_getElem? (i := 539) (by decide +kernel), List.mem_of_getElem? (i := 540) (by decide +kernel)⟩
theorem lw_p15 : lw_okq (⟨"RuleDepths$Engine", "mark", "(IZ)V"⟩, 8) := ⟨⟨by decide +kernel, by decide +kernel⟩, List.mem_of_getElem? (i := 23) (by decide +kernel), List.mem_of_getElem? (i := 543) (by decide +kernel), List.mem_of_getElem? (i := 544) (by decide +kernel)⟩
def lw_privs_1 : List (MethodName × Nat) := [(⟨"RuleDepths$History", "dropOldest", "()V"⟩, 2), (⟨"RuleDepths$RuleList", "sortByRank", "()V"⟩, 3), (⟨"RuleDepths$RuleList", "rankOf", "(I)I"⟩, 3), (⟨"RuleDepths$Engine", "run", "(I)I"⟩, 8), (⟨"RuleDepths$Engine", "begin", "()V"⟩, 8), (⟨"RuleDepths$Engine", "operate", "(ILRuleDepths$Level;I)V"⟩, 8), (⟨"RuleDepths$Engine", "refuse", "(II)V"⟩, 8), (⟨"RuleDepths$Engine", "fireRules", "(IILRuleDepths$Level;)Z"⟩, 8), (⟨"RuleDepths$Engine", "isHeldBack", "(I)Z"⟩, 8), (⟨"RuleDepths$Engine", "fire", "(ILRuleDepths$Rule;LRuleDepths$Level;)Z"⟩, 8), (⟨"RuleDepths$Engine", "cause", "(ILRuleDepths$Rule;LRuleDepths$Level;)V"⟩, 8), (⟨"RuleDepths$Engine", "prepareCaused", "(LRuleDepths$Rule;LRuleDepths$Row;LRuleDepths$Row;)Z"⟩, 8), (⟨"RuleDepths$Engine", "canTake", "(I)Z"⟩, 8), (⟨"RuleDepths$Engine", "prepareUpdate", "(LRuleDepths$Row;III)Z"⟩, 8), (⟨"RuleDepths$Engine", "prepareDelete", "(LRuleDepths$Row;I)Z"⟩, 8), (⟨"RuleDepths$Engine", "mark", "(IZ)V"⟩, 8)]
theorem lw_r1 : ∀ q ∈ lw_privs_1, lw_okq q := List.forall_mem_cons.mpr ⟨lw_p0, List.forall_mem_cons.mpr ⟨lw_p1, List.forall_mem_cons.mpr ⟨lw_p2, List.forall_mem_cons.mpr ⟨lw_p3, List.forall_mem_cons.mpr ⟨lw_p4, List.forall_mem_cons.mpr ⟨lw_p5, List.forall_mem_cons.mpr ⟨lw_p6, List.forall_mem_cons.mpr ⟨lw_p7, List.forall_mem_cons.mpr ⟨lw_p8, List.forall_mem_cons.mpr ⟨lw_p9, List.forall_mem_cons.mpr ⟨lw_p10, List.forall_mem_cons.mpr ⟨lw_p11, List.forall_mem_cons.mpr ⟨lw_p12, List.forall_mem_cons.mpr ⟨lw_p13, List.forall_mem_cons.mpr ⟨lw_p14, List.forall_mem_cons.mpr ⟨lw_p15, fun _ h => absurd h List.not_mem_nil⟩⟩⟩⟩⟩⟩⟩⟩⟩⟩⟩⟩⟩⟩⟩⟩
theorem lw_p16 : lw_okq (⟨"RuleDepths$Engine", "carryOut", "(ILRuleDepths$Row;)V"⟩, 8) := ⟨⟨by decide +kernel, by decide +kernel⟩, List.mem_of_getElem? (i := 23) (by decide +kernel), List.mem_of_getElem? (i := 547) (by decide +kernel), List.mem_of_getElem? (i := 548) (by decide +kernel)⟩
theorem lw_p17 : lw_okq (⟨"RuleDepths", "settle", "(I)I"⟩, 6) := ⟨⟨by decide +kernel, by decide +kernel⟩, List.mem_of_getElem? (i := 15) (by decide +kernel), List.mem_of_getElem? (i := 559) (by decide +kernel), List.mem_of_getElem? (i := 560) (by decide +kernel)⟩
theorem lw_p18 : lw_okq (⟨"RuleDepths$Text", "pass", "(C)V"⟩, 10) := ⟨⟨by decide +kernel, by decide +kernel⟩, List.mem_of_getElem? (i := 274) (by decide +kernel), List.mem_of_getElem? (i := 591) (by decide +kernel), List.mem_of_getElem? (i := 592) (by decide +kernel)⟩
theorem lw_p19 : lw_okq (⟨"RuleDepths$Text", "here", "()I"⟩, 10) := ⟨⟨by decide +kernel, by decide +kernel⟩, List.mem_of_getElem? (i := 274) (by decide +kernel), List.mem_of_getElem? (i := 595) (by decide +kernel), List.mem_of_getElem? (i := 596) (by decide +kernel)⟩
theorem lw_p20 : lw_okq (⟨"RuleDepths$Text", "readInsert", "()V"⟩, 10) := ⟨⟨by decide +kernel, by decide +kernel⟩, List.mem_of_getElem? (i := 274) (by decide +kernel), List.mem_of_getElem? (i := 599) (by decide +kernel), List.mem_of_getElem? (i := 600) (by decide +kernel)⟩
theorem lw_p21 : lw_okq (⟨"RuleDepths$Text", "readNumber", "(I)I"⟩, 10) := ⟨⟨by decide +kernel, by decide +kernel⟩, List.mem_of_getElem? (i := 274) (by decide +kernel), List.mem_of_getElem? (i := 603) (by decide +kernel), List.mem_of_getElem? (i := 604) (by decide +kernel)⟩
theorem lw_p22 : lw_okq (⟨"RuleDepths$Text", "readDigit", "(I)I"⟩, 10) := ⟨⟨by decide +kernel, by decide +kernel⟩, List.mem_of_getElem? (i := 274) (by decide +kernel), List.mem_of_getElem? (i := 607) (by decide +kernel), List.mem_of_getElem? (i := 608) (by decide +kernel)⟩
theorem lw_p23 : lw_okq (⟨"RuleDepths$Text", "readValue", "()I"⟩, 10) := ⟨⟨by decide +kernel, by decide +kernel⟩, List.mem_of_getElem? (i := 274) (by decide +kernel), List.mem_of_getElem? (i := 614) (by decide +kernel), List.mem_of_getElem? (i := 615) (by decide +kernel)⟩
theorem lw_p24 : lw_okq (⟨"RuleDepths$Text", "readUpdate", "()V"⟩, 10) := ⟨⟨by decide +kernel, by decide +kernel⟩, List.mem_of_getElem? (i := 274) (by decide +kernel), List.mem_of_getElem? (i := 618) (by decide +kernel), List.mem_of_getElem? (i := 619) (by decide +kernel)⟩
theorem lw_p25 : lw_okq (⟨"RuleDepths", "performStatement", "()I"⟩, 6) := ⟨⟨by decide +kernel, by decide +kernel⟩, List.mem_of_getElem? (i := 15) (by decide +kernel), List.mem_of_getElem? (i := 624) (by decide +kernel), List.mem_of_getElem? (i := 625) (by decide +kernel)⟩
def lw_privs_2 : List (MethodName × Nat) := [(⟨"RuleDepths$Engine", "carryOut", "(ILRuleDepths$Row;)V"⟩, 8), (⟨"RuleDepths", "settle", "(I)I"⟩, 6), (⟨"RuleDepths$Text", "pass", "(C)V"⟩, 10), (⟨"RuleDepths$Text", "here", "()I"⟩, 10), (⟨"RuleDepths$Text", "readInsert", "()V"⟩, 10), (⟨"RuleDepths$Text", "readNumber", "(I)I"⟩, 10), (⟨"RuleDepths$Text", "readDigit", "(I)I"⟩, 10), (⟨"RuleDepths$Text", "readValue", "()I"⟩, 10), (⟨"RuleDepths$Text", "readUpdate", "()V"⟩, 10), (⟨"RuleDepths", "performStatement", "()I"⟩, 6)]
theorem lw_r2 : ∀ q ∈ lw_privs_2, lw_okq q := List.forall_mem_cons.mpr ⟨lw_p16, List.forall_mem_cons.mpr ⟨lw_p17, List.forall_mem_cons.mpr ⟨lw_p18, List.forall_mem_cons.mpr ⟨lw_p19, List.forall_mem_cons.mpr ⟨lw_p20, List.forall_mem_cons.mpr ⟨lw_p21, List.forall_mem_cons.mpr ⟨lw_p22, List.forall_mem_cons.mpr ⟨lw_p23, List.forall_mem_cons.mpr ⟨lw_p24, List.forall_mem_cons.mpr ⟨lw_p25, fun _ h => absurd h List.not_mem_nil⟩⟩⟩⟩⟩⟩⟩⟩⟩⟩
def lw_privs : List (MethodName × Nat) := lw_privs_1 ++ (lw_privs_2)
def lw_tbl : List Cond := k2_sels lw_privs ++ tables_1
theorem lw_privs_ok : ∀ q ∈ lw_privs, lw_okq q := by
  show ∀ q ∈ lw_privs_1 ++ (lw_privs_2), lw_okq q
  exact List.forall_mem_append.mpr ⟨lw_r1, lw_r2⟩
def RX0 : String := "RuleDepths$Engine"
def TX0 : u_T := fun k => match k with
  | 0 => ("RuleDepths$Engine", "state", "LRuleDepths$State;", true)
  | 1 => ("RuleDepths$Engine", "top", "LRuleDepths$Level;", true)
  | 2 => ("RuleDepths$Engine", "firing", "[Z", true)
  | 3 => ("RuleDepths$Engine", "operations", "I", false)
  | 4 => ("RuleDepths$Engine", "firings", "I", false)
  | 5 => ("RuleDepths$Engine", "deepest", "I", false)
  | 6 => ("RuleDepths$Engine", "reason", "I", false)
  | _ => ("RuleDepths$Engine", "refusingRule", "I", false)
def tyX0 : Nat → FieldType := fun k => match k with
  | 0 => .object "RuleDepths$State"
  | 1 => .object "RuleDepths$Level"
  | 2 => .array .boolean
  | 3 => .int
  | 4 => .int
  | 5 => .int
  | 6 => .int
  | _ => .int
abbrev wsX00 : List Cond := u_ws RX0 TX0 8
theorem nmX0 : ∀ a, a < 8 → ∀ b, b < 8 → a ≠ b → (TX0 a).2.1 ≠ (TX0 b).2.1 := by decide +kernel
theorem tyX0_ok : ∀ k, k < 8 → parseFieldDescriptor (TX0 k).2.2.1 = some (tyX0 k) := by decide +kernel
abbrev cX0_init : ByteArray := prog_2_method_1_code
def yX0_init : MethodName := ⟨RX0, "<init>", "()V"⟩
abbrev cX0_insertFault : ByteArray := prog_2_method_2_code
def yX0_insertFault : MethodName := ⟨RX0, "insertFault", "(IIII)I"⟩
abbrev cX0_updateFault : ByteArray := prog_2_method_3_code
def yX0_updateFault : MethodName := ⟨RX0, "updateFault", "(III)I"⟩
abbrev cX0_deleteFault : ByteArray := prog_2_method_4_code
def yX0_deleteFault : MethodName := ⟨RX0, "deleteFault", "(I)I"⟩
abbrev cX0_runInsert : ByteArray := prog_2_method_5_code
def yX0_runInsert : MethodName := ⟨RX0, "runInsert", "(IIII)I"⟩
abbrev cX0_runUpdate : ByteArray := prog_2_method_6_code
def yX0_runUpdate : MethodName := ⟨RX0, "runUpdate", "(III)I"⟩
abbrev cX0_runDelete : ByteArray := prog_2_method_7_code
def yX0_runDelete : MethodName := ⟨RX0, "runDelete", "(I)I"⟩
abbrev cX0_run : ByteArray := prog_2_method_8_code
def yX0_run : MethodName := ⟨RX0, "run", "(I)I"⟩
abbrev cX0_report : ByteArray := prog_2_method_9_code
def yX0_report : MethodName := ⟨RX0, "report", "(I)I"⟩
abbrev cX0_begin : ByteArray := prog_2_method_10_code
def yX0_begin : MethodName := ⟨RX0, "begin", "()V"⟩
abbrev cX0_canTake : ByteArray := prog_2_method_11_code
def yX0_canTake : MethodName := ⟨RX0, "canTake", "(I)Z"⟩
abbrev cX0_prepareUpdate : ByteArray := prog_2_method_12_code
def yX0_prepareUpdate : MethodName := ⟨RX0, "prepareUpdate", "(LRuleDepths$Row;III)Z"⟩
abbrev cX0_prepareDelete : ByteArray := prog_2_method_13_code
def yX0_prepareDelete : MethodName := ⟨RX0, "prepareDelete", "(LRuleDepths$Row;I)Z"⟩
abbrev cX0_prepareCaused : ByteArray := prog_2_method_14_code
def yX0_prepareCaused : MethodName := ⟨RX0, "prepareCaused", "(LRuleDepths$Rule;LRuleDepths$Row;LRuleDepths$Row;)Z"⟩
abbrev cX0_operate : ByteArray := prog_2_method_15_code
def yX0_operate : MethodName := ⟨RX0, "operate", "(ILRuleDepths$Level;I)V"⟩
abbrev cX0_carryOut : ByteArray := prog_2_method_16_code
def yX0_carryOut : MethodName := ⟨RX0, "carryOut", "(ILRuleDepths$Row;)V"⟩
abbrev cX0_fireRules : ByteArray := prog_2_method_17_code
def yX0_fireRules : MethodName := ⟨RX0, "fireRules", "(IILRuleDepths$Level;)Z"⟩
abbrev cX0_fire : ByteArray := prog_2_method_18_code
def yX0_fire : MethodName := ⟨RX0, "fire", "(ILRuleDepths$Rule;LRuleDepths$Level;)Z"⟩
abbrev cX0_cause : ByteArray := prog_2_method_19_code
def yX0_cause : MethodName := ⟨RX0, "cause", "(ILRuleDepths$Rule;LRuleDepths$Level;)V"⟩
abbrev cX0_isHeldBack : ByteArray := prog_2_method_20_code
def yX0_isHeldBack : MethodName := ⟨RX0, "isHeldBack", "(I)Z"⟩
abbrev cX0_mark : ByteArray := prog_2_method_21_code
def yX0_mark : MethodName := ⟨RX0, "mark", "(IZ)V"⟩
abbrev cX0_refuse : ByteArray := prog_2_method_22_code
def yX0_refuse : MethodName := ⟨RX0, "refuse", "(II)V"⟩
def RX1 : String := "RuleDepths$FiringLog"
def TX1 : u_T := fun k => match k with
  | 0 => ("RuleDepths$FiringLog", "rules", "[I", true)
  | 1 => ("RuleDepths$FiringLog", "depths", "[I", true)
  | 2 => ("RuleDepths$FiringLog", "keys", "[I", true)
  | _ => ("RuleDepths$FiringLog", "count", "I", false)
def tyX1 : Nat → FieldType := fun k => match k with
  | 0 => .array .int
  | 1 => .array .int
  | 2 => .array .int
  | _ => .int
abbrev wsX10 : List Cond := u_ws RX1 TX1 4
theorem nmX1 : ∀ a, a < 4 → ∀ b, b < 4 → a ≠ b → (TX1 a).2.1 ≠ (TX1 b).2.1 := by decide +kernel
theorem tyX1_ok : ∀ k, k < 4 → parseFieldDescriptor (TX1 k).2.2.1 = some (tyX1 k) := by decide +kernel
abbrev cX1_init : ByteArray := prog_3_method_1_code
def yX1_init : MethodName := ⟨RX1, "<init>", "()V"⟩
abbrev cX1_add : ByteArray := prog_3_method_2_code
def yX1_add : MethodName := ⟨RX1, "add", "(III)V"⟩
abbrev cX1_tell : ByteArray := prog_3_method_3_code
def yX1_tell : MethodName := ⟨RX1, "tell", "(II)I"⟩
abbrev cX1_copyFrom : ByteArray := prog_3_method_4_code
def yX1_copyFrom : MethodName := ⟨RX1, "copyFrom", "(LRuleDepths$FiringLog;)V"⟩
def RX2 : String := "RuleDepths$History"
def TX2 : u_T := fun k => match k with
  | 0 => ("RuleDepths$History", "states", "[LRuleDepths$State;", true)
  | _ => ("RuleDepths$History", "count", "I", false)
def tyX2 : Nat → FieldType := fun k => match k with
  | 0 => .array (.object "RuleDepths$State")
  | _ => .int
abbrev wsX20 : List Cond := u_ws RX2 TX2 2
theorem nmX2 : ∀ a, a < 2 → ∀ b, b < 2 → a ≠ b → (TX2 a).2.1 ≠ (TX2 b).2.1 := by decide +kernel
theorem tyX2_ok : ∀ k, k < 2 → parseFieldDescriptor (TX2 k).2.2.1 = some (tyX2 k) := by decide +kernel
abbrev cX2_init : ByteArray := prog_4_method_1_code
def yX2_init : MethodName := ⟨RX2, "<init>", "()V"⟩
abbrev cX2_push : ByteArray := prog_4_method_2_code
def yX2_push : MethodName := ⟨RX2, "push", "(LRuleDepths$State;)V"⟩
abbrev cX2_popInto : ByteArray := prog_4_method_3_code
def yX2_popInto : MethodName := ⟨RX2, "popInto", "(LRuleDepths$State;)Z"⟩
abbrev cX2_dropOldest : ByteArray := prog_4_method_4_code
def yX2_dropOldest : MethodName := ⟨RX2, "dropOldest", "()V"⟩
def RX3 : String := "RuleDepths$Level"
def TX3 : u_T := fun k => match k with
  | 0 => ("RuleDepths$Level", "depth", "I", true)
  | 1 => ("RuleDepths$Level", "deeper", "LRuleDepths$Level;", true)
  | _ => ("RuleDepths$Level", "image", "LRuleDepths$Row;", true)
def tyX3 : Nat → FieldType := fun k => match k with
  | 0 => .int
  | 1 => .object "RuleDepths$Level"
  | _ => .object "RuleDepths$Row"
abbrev wsX30 : List Cond := u_ws RX3 TX3 3
theorem nmX3 : ∀ a, a < 3 → ∀ b, b < 3 → a ≠ b → (TX3 a).2.1 ≠ (TX3 b).2.1 := by decide +kernel
theorem tyX3_ok : ∀ k, k < 3 → parseFieldDescriptor (TX3 k).2.2.1 = some (tyX3 k) := by decide +kernel
abbrev cX3_init : ByteArray := prog_5_method_1_code
def yX3_init : MethodName := ⟨RX3, "<init>", "(ILRuleDepths$Level;)V"⟩
def RX4 : String := "RuleDepths$Row"
def TX4 : u_T := fun k => match k with
  | 0 => ("RuleDepths$Row", "key", "I", false)
  | 1 => ("RuleDepths$Row", "zero", "I", false)
  | 2 => ("RuleDepths$Row", "one", "I", false)
  | _ => ("RuleDepths$Row", "two", "I", false)
def tyX4 : Nat → FieldType := fun k => match k with
  | 0 => .int
  | 1 => .int
  | 2 => .int
  | _ => .int
abbrev wsX40 : List Cond := u_ws RX4 TX4 4
theorem nmX4 : ∀ a, a < 4 → ∀ b, b < 4 → a ≠ b → (TX4 a).2.1 ≠ (TX4 b).2.1 := by decide +kernel
theorem tyX4_ok : ∀ k, k < 4 → parseFieldDescriptor (TX4 k).2.2.1 = some (tyX4 k) := by decide +kernel
abbrev cX4_init : ByteArray := prog_6_method_1_code
def yX4_init : MethodName := ⟨RX4, "<init>", "()V"⟩
abbrev cX4_fill : ByteArray := prog_6_method_2_code
def yX4_fill : MethodName := ⟨RX4, "fill", "(IIII)V"⟩
abbrev cX4_copyFrom : ByteArray := prog_6_method_3_code
def yX4_copyFrom : MethodName := ⟨RX4, "copyFrom", "(LRuleDepths$Row;)V"⟩
abbrev cX4_valueOf : ByteArray := prog_6_method_4_code
def yX4_valueOf : MethodName := ⟨RX4, "valueOf", "(I)I"⟩
abbrev cX4_change : ByteArray := prog_6_method_5_code
def yX4_change : MethodName := ⟨RX4, "change", "(II)V"⟩
def RX5 : String := "RuleDepths$Rule"
def TX5 : u_T := fun k => match k with
  | 0 => ("RuleDepths$Rule", "event", "I", false)
  | 1 => ("RuleDepths$Rule", "moment", "I", false)
  | 2 => ("RuleDepths$Rule", "rank", "I", false)
  | 3 => ("RuleDepths$Rule", "kind", "I", false)
  | 4 => ("RuleDepths$Rule", "a", "I", false)
  | 5 => ("RuleDepths$Rule", "b", "I", false)
  | 6 => ("RuleDepths$Rule", "c", "I", false)
  | 7 => ("RuleDepths$Rule", "field", "I", false)
  | 8 => ("RuleDepths$Rule", "comparison", "I", false)
  | 9 => ("RuleDepths$Rule", "number", "I", false)
  | 10 => ("RuleDepths$Rule", "on", "Z", false)
  | _ => ("RuleDepths$Rule", "firings", "I", false)
def tyX5 : Nat → FieldType := fun k => match k with
  | 0 => .int
  | 1 => .int
  | 2 => .int
  | 3 => .int
  | 4 => .int
  | 5 => .int
  | 6 => .int
  | 7 => .int
  | 8 => .int
  | 9 => .int
  | 10 => .boolean
  | _ => .int
abbrev wsX50 : List Cond := u_ws RX5 TX5 12
theorem nmX5 : ∀ a, a < 12 → ∀ b, b < 12 → a ≠ b → (TX5 a).2.1 ≠ (TX5 b).2.1 := by decide +kernel
theorem tyX5_ok : ∀ k, k < 12 → parseFieldDescriptor (TX5 k).2.2.1 = some (tyX5 k) := by decide +kernel
abbrev cX5_init : ByteArray := prog_7_method_1_code
def yX5_init : MethodName := ⟨RX5, "<init>", "()V"⟩
abbrev cX5_define : ByteArray := prog_7_method_2_code
def yX5_define : MethodName := ⟨RX5, "define", "(IIIIIII)V"⟩
abbrev cX5_demand : ByteArray := prog_7_method_3_code
def yX5_demand : MethodName := ⟨RX5, "demand", "(III)V"⟩
abbrev cX5_copyFrom : ByteArray := prog_7_method_4_code
def yX5_copyFrom : MethodName := ⟨RX5, "copyFrom", "(LRuleDepths$Rule;)V"⟩
abbrev cX5_isFor : ByteArray := prog_7_method_5_code
def yX5_isFor : MethodName := ⟨RX5, "isFor", "(II)Z"⟩
abbrev cX5_holdsFor : ByteArray := prog_7_method_6_code
def yX5_holdsFor : MethodName := ⟨RX5, "holdsFor", "(LRuleDepths$Row;)Z"⟩
abbrev cX5_valueFor : ByteArray := prog_7_method_7_code
def yX5_valueFor : MethodName := ⟨RX5, "valueFor", "(LRuleDepths$Row;)I"⟩
abbrev cX5_tell : ByteArray := prog_7_method_8_code
def yX5_tell : MethodName := ⟨RX5, "tell", "(I)I"⟩
def RX6 : String := "RuleDepths$RuleList"
def TX6 : u_T := fun k => match k with
  | 0 => ("RuleDepths$RuleList", "rules", "[LRuleDepths$Rule;", true)
  | 1 => ("RuleDepths$RuleList", "numbersByRank", "[I", true)
  | _ => ("RuleDepths$RuleList", "count", "I", false)
def tyX6 : Nat → FieldType := fun k => match k with
  | 0 => .array (.object "RuleDepths$Rule")
  | 1 => .array .int
  | _ => .int
abbrev wsX60 : List Cond := u_ws RX6 TX6 3
theorem nmX6 : ∀ a, a < 3 → ∀ b, b < 3 → a ≠ b → (TX6 a).2.1 ≠ (TX6 b).2.1 := by decide +kernel
theorem tyX6_ok : ∀ k, k < 3 → parseFieldDescriptor (TX6 k).2.2.1 = some (tyX6 k) := by decide +kernel
abbrev cX6_init : ByteArray := prog_8_method_1_code
def yX6_init : MethodName := ⟨RX6, "<init>", "()V"⟩
abbrev cX6_ruleOf : ByteArray := prog_8_method_2_code
def yX6_ruleOf : MethodName := ⟨RX6, "ruleOf", "(I)LRuleDepths$Rule;"⟩
abbrev cX6_numberAt : ByteArray := prog_8_method_3_code
def yX6_numberAt : MethodName := ⟨RX6, "numberAt", "(I)I"⟩
abbrev cX6_numberAmong : ByteArray := prog_8_method_4_code
def yX6_numberAmong : MethodName := ⟨RX6, "numberAmong", "(III)I"⟩
abbrev cX6_countOn : ByteArray := prog_8_method_5_code
def yX6_countOn : MethodName := ⟨RX6, "countOn", "()I"⟩
abbrev cX6_spare : ByteArray := prog_8_method_6_code
def yX6_spare : MethodName := ⟨RX6, "spare", "()LRuleDepths$Rule;"⟩
abbrev cX6_takeSpare : ByteArray := prog_8_method_7_code
def yX6_takeSpare : MethodName := ⟨RX6, "takeSpare", "()I"⟩
abbrev cX6_drop : ByteArray := prog_8_method_8_code
def yX6_drop : MethodName := ⟨RX6, "drop", "(I)V"⟩
abbrev cX6_sortByRank : ByteArray := prog_8_method_9_code
def yX6_sortByRank : MethodName := ⟨RX6, "sortByRank", "()V"⟩
abbrev cX6_rankOf : ByteArray := prog_8_method_10_code
def yX6_rankOf : MethodName := ⟨RX6, "rankOf", "(I)I"⟩
abbrev cX6_copyFrom : ByteArray := prog_8_method_11_code
def yX6_copyFrom : MethodName := ⟨RX6, "copyFrom", "(LRuleDepths$RuleList;)V"⟩
def RX7 : String := "RuleDepths$State"
def TX7 : u_T := fun k => match k with
  | 0 => ("RuleDepths$State", "table", "LRuleDepths$Table;", true)
  | 1 => ("RuleDepths$State", "rules", "LRuleDepths$RuleList;", true)
  | 2 => ("RuleDepths$State", "record", "LRuleDepths$FiringLog;", true)
  | 3 => ("RuleDepths$State", "greatestDepth", "I", false)
  | 4 => ("RuleDepths$State", "guarding", "I", false)
  | 5 => ("RuleDepths$State", "statements", "I", false)
  | 6 => ("RuleDepths$State", "operations", "I", false)
  | 7 => ("RuleDepths$State", "firings", "I", false)
  | _ => ("RuleDepths$State", "deepest", "I", false)
def tyX7 : Nat → FieldType := fun k => match k with
  | 0 => .object "RuleDepths$Table"
  | 1 => .object "RuleDepths$RuleList"
  | 2 => .object "RuleDepths$FiringLog"
  | 3 => .int
  | 4 => .int
  | 5 => .int
  | 6 => .int
  | 7 => .int
  | _ => .int
abbrev wsX70 : List Cond := u_ws RX7 TX7 9
theorem nmX7 : ∀ a, a < 9 → ∀ b, b < 9 → a ≠ b → (TX7 a).2.1 ≠ (TX7 b).2.1 := by decide +kernel
theorem tyX7_ok : ∀ k, k < 9 → parseFieldDescriptor (TX7 k).2.2.1 = some (tyX7 k) := by decide +kernel
abbrev cX7_init : ByteArray := prog_9_method_1_code
def yX7_init : MethodName := ⟨RX7, "<init>", "()V"⟩
abbrev cX7_copyFrom : ByteArray := prog_9_method_2_code
def yX7_copyFrom : MethodName := ⟨RX7, "copyFrom", "(LRuleDepths$State;)V"⟩
abbrev cX7_tell : ByteArray := prog_9_method_3_code
def yX7_tell : MethodName := ⟨RX7, "tell", "(I)I"⟩
def RX8 : String := "RuleDepths$Table"
def TX8 : u_T := fun k => match k with
  | 0 => ("RuleDepths$Table", "rows", "[LRuleDepths$Row;", true)
  | _ => ("RuleDepths$Table", "count", "I", false)
def tyX8 : Nat → FieldType := fun k => match k with
  | 0 => .array (.object "RuleDepths$Row")
  | _ => .int
abbrev wsX80 : List Cond := u_ws RX8 TX8 2
theorem nmX8 : ∀ a, a < 2 → ∀ b, b < 2 → a ≠ b → (TX8 a).2.1 ≠ (TX8 b).2.1 := by decide +kernel
theorem tyX8_ok : ∀ k, k < 2 → parseFieldDescriptor (TX8 k).2.2.1 = some (tyX8 k) := by decide +kernel
abbrev cX8_init : ByteArray := prog_10_method_1_code
def yX8_init : MethodName := ⟨RX8, "<init>", "()V"⟩
abbrev cX8_isFull : ByteArray := prog_10_method_2_code
def yX8_isFull : MethodName := ⟨RX8, "isFull", "()Z"⟩
abbrev cX8_rowAt : ByteArray := prog_10_method_3_code
def yX8_rowAt : MethodName := ⟨RX8, "rowAt", "(I)LRuleDepths$Row;"⟩
abbrev cX8_rowOf : ByteArray := prog_10_method_4_code
def yX8_rowOf : MethodName := ⟨RX8, "rowOf", "(I)LRuleDepths$Row;"⟩
abbrev cX8_take : ByteArray := prog_10_method_5_code
def yX8_take : MethodName := ⟨RX8, "take", "(LRuleDepths$Row;)V"⟩
abbrev cX8_drop : ByteArray := prog_10_method_6_code
def yX8_drop : MethodName := ⟨RX8, "drop", "(I)V"⟩
abbrev cX8_copyFrom : ByteArray := prog_10_method_7_code
def yX8_copyFrom : MethodName := ⟨RX8, "copyFrom", "(LRuleDepths$Table;)V"⟩
def RX9 : String := "RuleDepths$Text"
def TX9 : u_T := fun k => match k with
  | 0 => ("RuleDepths$Text", "characters", "[C", true)
  | 1 => ("RuleDepths$Text", "length", "I", false)
  | 2 => ("RuleDepths$Text", "position", "I", false)
  | 3 => ("RuleDepths$Text", "faulty", "Z", false)
  | 4 => ("RuleDepths$Text", "event", "I", false)
  | 5 => ("RuleDepths$Text", "key", "I", false)
  | 6 => ("RuleDepths$Text", "field", "I", false)
  | 7 => ("RuleDepths$Text", "first", "I", false)
  | 8 => ("RuleDepths$Text", "second", "I", false)
  | _ => ("RuleDepths$Text", "third", "I", false)
def tyX9 : Nat → FieldType := fun k => match k with
  | 0 => .array .char
  | 1 => .int
  | 2 => .int
  | 3 => .boolean
  | 4 => .int
  | 5 => .int
  | 6 => .int
  | 7 => .int
  | 8 => .int
  | _ => .int
abbrev wsX90 : List Cond := u_ws RX9 TX9 10
theorem nmX9 : ∀ a, a < 10 → ∀ b, b < 10 → a ≠ b → (TX9 a).2.1 ≠ (TX9 b).2.1 := by decide +kernel
theorem tyX9_ok : ∀ k, k < 10 → parseFieldDescriptor (TX9 k).2.2.1 = some (tyX9 k) := by decide +kernel
abbrev cX9_init : ByteArray := prog_11_method_1_code
def yX9_init : MethodName := ⟨RX9, "<init>", "()V"⟩
abbrev cX9_rewind : ByteArray := prog_11_method_3_code
def yX9_rewind : MethodName := ⟨RX9, "rewind", "()V"⟩
abbrev cX9_countStatements : ByteArray := prog_11_method_4_code
def yX9_countStatements : MethodName := ⟨RX9, "countStatements", "()I"⟩
abbrev cX9_readStatement : ByteArray := prog_11_method_5_code
def yX9_readStatement : MethodName := ⟨RX9, "readStatement", "()V"⟩
abbrev cX9_readInsert : ByteArray := prog_11_method_6_code
def yX9_readInsert : MethodName := ⟨RX9, "readInsert", "()V"⟩
abbrev cX9_readUpdate : ByteArray := prog_11_method_7_code
def yX9_readUpdate : MethodName := ⟨RX9, "readUpdate", "()V"⟩
abbrev cX9_readValue : ByteArray := prog_11_method_8_code
def yX9_readValue : MethodName := ⟨RX9, "readValue", "()I"⟩
abbrev cX9_readNumber : ByteArray := prog_11_method_9_code
def yX9_readNumber : MethodName := ⟨RX9, "readNumber", "(I)I"⟩
abbrev cX9_readDigit : ByteArray := prog_11_method_10_code
def yX9_readDigit : MethodName := ⟨RX9, "readDigit", "(I)I"⟩
abbrev cX9_isDigit : ByteArray := prog_11_method_11_code
def yX9_isDigit : MethodName := ⟨RX9, "isDigit", "(II)Z"⟩
abbrev cX9_pass : ByteArray := prog_11_method_12_code
def yX9_pass : MethodName := ⟨RX9, "pass", "(C)V"⟩
abbrev cX9_here : ByteArray := prog_11_method_13_code
def yX9_here : MethodName := ⟨RX9, "here", "()I"⟩
def RX10 : String := "RuleDepths"
def TX10 : u_T := fun k => match k with
  | 0 => ("RuleDepths", "engine", "LRuleDepths$Engine;", true)
  | 1 => ("RuleDepths", "before", "LRuleDepths$State;", true)
  | 2 => ("RuleDepths", "snapshot", "LRuleDepths$State;", true)
  | 3 => ("RuleDepths", "hasSnapshot", "Z", false)
  | 4 => ("RuleDepths", "history", "LRuleDepths$History;", true)
  | _ => ("RuleDepths", "text", "LRuleDepths$Text;", true)
def tyX10 : Nat → FieldType := fun k => match k with
  | 0 => .object "RuleDepths$Engine"
  | 1 => .object "RuleDepths$State"
  | 2 => .object "RuleDepths$State"
  | 3 => .boolean
  | 4 => .object "RuleDepths$History"
  | _ => .object "RuleDepths$Text"
abbrev wsX100 : List Cond := u_ws RX10 TX10 6
theorem nmX10 : ∀ a, a < 6 → ∀ b, b < 6 → a ≠ b → (TX10 a).2.1 ≠ (TX10 b).2.1 := by decide +kernel
theorem tyX10_ok : ∀ k, k < 6 → parseFieldDescriptor (TX10 k).2.2.1 = some (tyX10 k) := by decide +kernel
abbrev cX10_init : ByteArray := prog_1_method_1_code
def yX10_init : MethodName := ⟨RX10, "<init>", "()V"⟩
abbrev cX10_addRule : ByteArray := prog_1_method_2_code
def yX10_addRule : MethodName := ⟨RX10, "addRule", "(IIIIIII)I"⟩
abbrev cX10_setCondition : ByteArray := prog_1_method_3_code
def yX10_setCondition : MethodName := ⟨RX10, "setCondition", "(IIII)I"⟩
abbrev cX10_put : ByteArray := prog_1_method_4_code
def yX10_put : MethodName := ⟨RX10, "put", "(IZ)I"⟩
abbrev cX10_removeRule : ByteArray := prog_1_method_5_code
def yX10_removeRule : MethodName := ⟨RX10, "removeRule", "(I)I"⟩
abbrev cX10_set : ByteArray := prog_1_method_6_code
def yX10_set : MethodName := ⟨RX10, "set", "(II)I"⟩
abbrev cX10_insert : ByteArray := prog_1_method_7_code
def yX10_insert : MethodName := ⟨RX10, "insert", "(IIII)I"⟩
abbrev cX10_update : ByteArray := prog_1_method_8_code
def yX10_update : MethodName := ⟨RX10, "update", "(III)I"⟩
abbrev cX10_delete : ByteArray := prog_1_method_9_code
def yX10_delete : MethodName := ⟨RX10, "delete", "(I)I"⟩
abbrev cX10_perform : ByteArray := prog_1_method_12_code
def yX10_perform : MethodName := ⟨RX10, "perform", "()I"⟩
abbrev cX10_undo : ByteArray := prog_1_method_13_code
def yX10_undo : MethodName := ⟨RX10, "undo", "()I"⟩
abbrev cX10_restore : ByteArray := prog_1_method_15_code
def yX10_restore : MethodName := ⟨RX10, "restore", "()I"⟩
abbrev cX10_field : ByteArray := prog_1_method_16_code
def yX10_field : MethodName := ⟨RX10, "field", "(II)I"⟩
abbrev cX10_keyAt : ByteArray := prog_1_method_17_code
def yX10_keyAt : MethodName := ⟨RX10, "keyAt", "(I)I"⟩
abbrev cX10_rule : ByteArray := prog_1_method_18_code
def yX10_rule : MethodName := ⟨RX10, "rule", "(II)I"⟩
abbrev cX10_order : ByteArray := prog_1_method_19_code
def yX10_order : MethodName := ⟨RX10, "order", "(III)I"⟩
abbrev cX10_firing : ByteArray := prog_1_method_20_code
def yX10_firing : MethodName := ⟨RX10, "firing", "(II)I"⟩
abbrev cX10_total : ByteArray := prog_1_method_21_code
def yX10_total : MethodName := ⟨RX10, "total", "(I)I"⟩
abbrev cX10_ifInserted : ByteArray := prog_1_method_22_code
def yX10_ifInserted : MethodName := ⟨RX10, "ifInserted", "(IIIII)I"⟩
abbrev cX10_ifUpdated : ByteArray := prog_1_method_23_code
def yX10_ifUpdated : MethodName := ⟨RX10, "ifUpdated", "(IIII)I"⟩
abbrev cX10_ifDeleted : ByteArray := prog_1_method_24_code
def yX10_ifDeleted : MethodName := ⟨RX10, "ifDeleted", "(II)I"⟩
abbrev cX10_depthFor : ByteArray := prog_1_method_25_code
def yX10_depthFor : MethodName := ⟨RX10, "depthFor", "(III)I"⟩
abbrev cX10_settle : ByteArray := prog_1_method_26_code
def yX10_settle : MethodName := ⟨RX10, "settle", "(I)I"⟩
abbrev cX10_performStatement : ByteArray := prog_1_method_27_code
def yX10_performStatement : MethodName := ⟨RX10, "performStatement", "()I"⟩
abbrev cX10_isReport : ByteArray := prog_1_method_28_code
def yX10_isReport : MethodName := ⟨RX10, "isReport", "(I)Z"⟩
abbrev cX10_isEvent : ByteArray := prog_1_method_29_code
def yX10_isEvent : MethodName := ⟨RX10, "isEvent", "(I)Z"⟩
abbrev cX10_isMoment : ByteArray := prog_1_method_30_code
def yX10_isMoment : MethodName := ⟨RX10, "isMoment", "(I)Z"⟩
abbrev cX10_isKindFor : ByteArray := prog_1_method_31_code
def yX10_isKindFor : MethodName := ⟨RX10, "isKindFor", "(II)Z"⟩
abbrev cX10_isValue : ByteArray := prog_1_method_32_code
def yX10_isValue : MethodName := ⟨RX10, "isValue", "(I)Z"⟩
abbrev cX10_within : ByteArray := prog_1_method_33_code
def yX10_within : MethodName := ⟨RX10, "within", "(III)Z"⟩
def RX11 : String := "RuleDepthsModel"
def TX11 : u_T := fun k => match k with
  | _ => ("", "", "", false)
def tyX11 : Nat → FieldType := fun k => match k with
  | _ => .int
abbrev wsX110 : List Cond := u_ws RX11 TX11 0
theorem nmX11 : ∀ a, a < 0 → ∀ b, b < 0 → a ≠ b → (TX11 a).2.1 ≠ (TX11 b).2.1 := by decide +kernel
theorem tyX11_ok : ∀ k, k < 0 → parseFieldDescriptor (TX11 k).2.2.1 = some (tyX11 k) := by decide +kernel
def RL : String := "RuleDepthsLaw"
abbrev cL_cell : ByteArray := method_2_code
def yL_cell : MethodName := ⟨RL, "cell", "([II)I"⟩
abbrev cL_low : ByteArray := method_3_code
def yL_low : MethodName := ⟨RL, "low", "(II)I"⟩
abbrev cL_value : ByteArray := method_4_code
def yL_value : MethodName := ⟨RL, "value", "(I)I"⟩
abbrev cL_areRows : ByteArray := method_5_code
def yL_areRows : MethodName := ⟨RL, "areRows", "(LRuleDepths;)Z"⟩
abbrev cL_areRules : ByteArray := method_6_code
def yL_areRules : MethodName := ⟨RL, "areRules", "(LRuleDepths;)Z"⟩
abbrev cL_isRecord : ByteArray := method_7_code
def yL_isRecord : MethodName := ⟨RL, "isRecord", "(LRuleDepths;II)Z"⟩
abbrev cL_totals : ByteArray := method_8_code
def yL_totals : MethodName := ⟨RL, "totals", "(LRuleDepths;[I)V"⟩
abbrev cL_isRefused : ByteArray := method_9_code
def yL_isRefused : MethodName := ⟨RL, "isRefused", "(LRuleDepths;[I)Z"⟩
abbrev cL_came : ByteArray := method_10_code
def yL_came : MethodName := ⟨RL, "came", "(LRuleDepths;[II)Z"⟩
abbrev cL_inserts : ByteArray := method_11_code
def yL_inserts : MethodName := ⟨RL, "inserts", "(LRuleDepths;[III)Z"⟩
abbrev cL_updates : ByteArray := method_12_code
def yL_updates : MethodName := ⟨RL, "updates", "(LRuleDepths;[III)Z"⟩
abbrev cL_deletes : ByteArray := method_13_code
def yL_deletes : MethodName := ⟨RL, "deletes", "(LRuleDepths;[II)Z"⟩
abbrev cL_rules : ByteArray := method_14_code
def yL_rules : MethodName := ⟨RL, "rules", "(LRuleDepths;I)Z"⟩
abbrev cL_does : ByteArray := method_15_code
def yL_does : MethodName := ⟨RL, "does", "(LRuleDepths;[II)Z"⟩
abbrev cL_law : ByteArray := code
def yL_law : MethodName := ⟨RL, "law", "([I)Z"⟩
abbrev vwCl : List vw_C := [(RX0, TX0, 8), (RX1, TX1, 4), (RX2, TX2, 2), (RX3, TX3, 3), (RX4, TX4, 4), (RX5, TX5, 12), (RX6, TX6, 3), (RX7, TX7, 9), (RX8, TX8, 2), (RX9, TX9, 10), (RX10, TX10, 6)]
