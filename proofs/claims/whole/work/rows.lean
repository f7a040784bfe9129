section
-- ===== PART A: goes FIRST, ahead of the names: the tables' words, and 'selects' of the private methods out of them =====
/-- a private method of a class that the tables say can be made, by its rows of tables_1 -/
def lw_okq (q : MethodName × Nat) : Prop := (q.1.cls ≠ "java/lang/invoke/MethodHandle" ∧ q.1.cls ≠ "java/lang/invoke/VarHandle") ∧ Cond.instantiable q.1.cls q.2 ∈ tables_1 ∧ Cond.privateMethod q.1 ∈ tables_1 ∧ Cond.instanceMethod q.1 ∈ tables_1
theorem lw_p0 : lw_okq (⟨"RuleDepths$History", "dropOldest", "()V"⟩, 2) := ⟨⟨by decide +kernel, by decide +kernel⟩, List.mem_of_getElem? (i := 258) (by decide +kernel), List.mem_of_getElem? (i := 366) (by decide +kernel), List.mem_of_getElem? (i := 367) (by decide +kernel)⟩
theorem lw_p1 : lw_okq (⟨"RuleDepths$RuleList", "sortByRank", "()V"⟩, 3) := ⟨⟨by decide +kernel, by decide +kernel⟩, List.mem_of_getElem? (i := 74) (by decide +kernel), List.mem_of_getElem? (i := 419) (by decide +kernel), List.mem_of_getElem? (i := 420) (by decide +kernel)⟩
theorem lw_p2 : lw_okq (⟨"RuleDepths$RuleList", "rankOf", "(I)I"⟩, 3) := ⟨⟨by decide +kernel, by decide +kernel⟩, List.mem_of_getElem? (i := 74) (by decide +kernel), List.mem_of_getElem? (i := 423) (by decide +kernel), List.mem_of_getElem? (i := 424) (by decide +kernel)⟩
theorem lw_p3 : lw_okq (⟨"RuleDepths$Engine", "run", "(I)I"⟩, 8) := ⟨⟨by decide +kernel, by decide +kernel⟩, List.mem_of_getElem? (i := 24) (by decide +kernel), List.mem_of_getElem? (i := 480) (by decide +kernel), List.mem_of_getElem? (i := 481) (by decide +kernel)⟩
theorem lw_p4 : lw_okq (⟨"RuleDepths$Engine", "begin", "()V"⟩, 8) := ⟨⟨by decide +kernel, by decide +kernel⟩, List.mem_of_getElem? (i := 24) (by decide +kernel), List.mem_of_getElem? (i := 484) (by decide +kernel), List.mem_of_getElem? (i := 485) (by decide +kernel)⟩
theorem lw_p5 : lw_okq (⟨"RuleDepths$Engine", "operate", "(ILRuleDepths$Level;I)V"⟩, 8) := ⟨⟨by decide +kernel, by decide +kernel⟩, List.mem_of_getElem? (i := 24) (by decide +kernel), List.mem_of_getElem? (i := 488) (by decide +kernel), List.mem_of_getElem? (i := 489) (by decide +kernel)⟩
theorem lw_p6 : lw_okq (⟨"RuleDepths$Engine", "refuse", "(II)V"⟩, 8) := ⟨⟨by decide +kernel, by decide +kernel⟩, List.mem_of_getElem? (i := 24) (by decide +kernel), List.mem_of_getElem? (i := 492) (by decide +kernel), List.mem_of_getElem? (i := 493) (by decide +kernel)⟩
theorem lw_p7 : lw_okq (⟨"RuleDepths$Engine", "fireRules", "(IILRuleDepths$Level;)Z"⟩, 8) := ⟨⟨by decide +kernel, by decide +kernel⟩, List.mem_of_getElem? (i := 24) (by decide +kernel), List.mem_of_getElem? (i := 499) (by decide +kernel), List.mem_of_getElem? (i := 500) (by decide +kernel)⟩
theorem lw_p8 : lw_okq (⟨"RuleDepths$Engine", "isHeldBack", "(I)Z"⟩, 8) := ⟨⟨by decide +kernel, by decide +kernel⟩, List.mem_of_getElem? (i := 24) (by decide +kernel), List.mem_of_getElem? (i := 512) (by decide +kernel), List.mem_of_getElem? (i := 513) (by decide +kernel)⟩
theorem lw_p9 : lw_okq (⟨"RuleDepths$Engine", "fire", "(ILRuleDepths$Rule;LRuleDepths$Level;)Z"⟩, 8) := ⟨⟨by decide +kernel, by decide +kernel⟩, List.mem_of_getElem? (i := 24) (by decide +kernel), List.mem_of_getElem? (i := 524) (by decide +kernel), List.mem_of_getElem? (i := 525) (by decide +kernel)⟩
theorem lw_p10 : lw_okq (⟨"RuleDepths$Engine", "cause", "(ILRuleDepths$Rule;LRuleDepths$Level;)V"⟩, 8) := ⟨⟨by decide +kernel, by decide +kernel⟩, List.mem_of_getElem? (i := 24) (by decide +kernel), List.mem_of_getElem? (i := 544) (by decide +kernel), List.mem_of_getElem? (i := 545) (by decide +kernel)⟩
theorem lw_p11 : lw_okq (⟨"RuleDepths$Engine", "prepareCaused", "(LRuleDepths$Rule;LRuleDepths$Row;LRuleDepths$Row;)Z"⟩, 8) := ⟨⟨by decide +kernel, by decide +kernel⟩, List.mem_of_getElem? (i := 24) (by decide +kernel), List.mem_of_getElem? (i := 548) (by decide +kernel), List.mem_of_getElem? (i := 549) (by decide +kernel)⟩
theorem lw_p12 : lw_okq (⟨"RuleDepths$Engine", "canTake", "(I)Z"⟩, 8) := ⟨⟨by decide +kernel, by decide +kernel⟩, List.mem_of_getElem? (i := 24) (by decide +kernel), List.mem_of_getElem? (i := 553) (by decide +kernel), List.mem_of_getElem? (i := 554) (by decide +kernel)⟩
theorem lw_p13 : lw_okq (⟨"RuleDepths$Engine", "prepareUpdate", "(LRuleDepths$Row;III)Z"⟩, 8) := ⟨⟨by decide +kernel, by decide +kernel⟩, List.mem_of_getElem? (i := 24) (by decide +kernel), List.mem_of_getElem? (i := 557) (by decide +kernel), List.mem_of_getElem? (i := 558) (by decide +kernel)⟩
theorem lw_p14 : lw_okq (⟨"RuleDepths$Engine", "prepareDelete", "(LRuleDepths$Row;I)Z"⟩, 8) := ⟨⟨by decide +kernel, by decide +kernel⟩, List.mem_of_getElem? (i := 24) (by decide +kernel), List.mem_of_getElem? (i := 562) (by decide +kernel), List.mem_of_getElem? (i := 563) (by decide +kernel)⟩
theorem lw_p15 : lw_okq (⟨"RuleDepths$Engine", "mark", "(IZ)V"⟩, 8) := ⟨⟨by decide +kernel, by decide +kernel⟩, List.mem_of_getElem? (i := 24) (by decide +kernel), List.mem_of_getElem? (i := 566) (by decide +kernel), List.mem_of_getElem? (i := 567) (by decide +kernel)⟩
def lw_privs_1 : List (MethodName × Nat) := [(⟨"RuleDepths$History", "dropOldest", "()V"⟩, 2), (⟨"RuleDepths$RuleList", "sortByRank", "()V"⟩, 3), (⟨"RuleDepths$RuleList", "rankOf", "(I)I"⟩, 3), (⟨"RuleDepths$Engine", "run", "(I)I"⟩, 8), (⟨"RuleDepths$Engine", "begin", "()V"⟩, 8), (⟨"RuleDepths$Engine", "operate", "(ILRuleDepths$Level;I)V"⟩, 8), (⟨"RuleDepths$Engine", "refuse", "(II)V"⟩, 8), (⟨"RuleDepths$Engine", "fireRules", "(IILRuleDepths$Level;)Z"⟩, 8), (⟨"RuleDepths$Engine", "isHeldBack", "(I)Z"⟩, 8), (⟨"RuleDepths$Engine", "fire", "(ILRuleDepths$Rule;LRuleDepths$Level;)Z"⟩, 8), (⟨"RuleDepths$Engine", "cause", "(ILRuleDepths$Rule;LRuleDepths$Level;)V"⟩, 8), (⟨"RuleDepths$Engine", "prepareCaused", "(LRuleDepths$Rule;LRuleDepths$Row;LRuleDepths$Row;)Z"⟩, 8), (⟨"RuleDepths$Engine", "canTake", "(I)Z"⟩, 8), (⟨"RuleDepths$Engine", "prepareUpdate", "(LRuleDepths$Row;III)Z"⟩, 8), (⟨"RuleDepths$Engine", "prepareDelete", "(LRuleDepths$Row;I)Z"⟩, 8), (⟨"RuleDepths$Engine", "mark", "(IZ)V"⟩, 8)]
theorem lw_r1 : ∀ q ∈ lw_privs_1, lw_okq q := List.forall_mem_cons.mpr ⟨lw_p0, List.forall_mem_cons.mpr ⟨lw_p1, List.forall_mem_cons.mpr ⟨lw_p2, List.forall_mem_cons.mpr ⟨lw_p3, List.forall_mem_cons.mpr ⟨lw_p4, List.forall_mem_cons.mpr ⟨lw_p5, List.forall_mem_cons.mpr ⟨lw_p6, List.forall_mem_cons.mpr ⟨lw_p7, List.forall_mem_cons.mpr ⟨lw_p8, List.forall_mem_cons.mpr ⟨lw_p9, List.forall_mem_cons.mpr ⟨lw_p10, List.forall_mem_cons.mpr ⟨lw_p11, List.forall_mem_cons.mpr ⟨lw_p12, List.forall_mem_cons.mpr ⟨lw_p13, List.forall_mem_cons.mpr ⟨lw_p14, List.forall_mem_cons.mpr ⟨lw_p15, fun _ h => absurd h List.not_mem_nil⟩⟩⟩⟩⟩⟩⟩⟩⟩⟩⟩⟩⟩⟩⟩⟩
theorem lw_p16 : lw_okq (⟨"RuleDepths$Engine", "carryOut", "(ILRuleDepths$Row;)V"⟩, 8) := ⟨⟨by decide +kernel, by decide +kernel⟩, List.mem_of_getElem? (i := 24) (by decide +kernel), List.mem_of_getElem? (i := 570) (by decide +kernel), List.mem_of_getElem? (i := 571) (by decide +kernel)⟩
theorem lw_p17 : lw_okq (⟨"RuleDepths", "settle", "(I)I"⟩, 6) := ⟨⟨by decide +kernel, by decide +kernel⟩, List.mem_of_getElem? (i := 16) (by decide +kernel), List.mem_of_getElem? (i := 582) (by decide +kernel), List.mem_of_getElem? (i := 583) (by decide +kernel)⟩
theorem lw_p18 : lw_okq (⟨"RuleDepths$Text", "pass", "(C)V"⟩, 10) := ⟨⟨by decide +kernel, by decide +kernel⟩, List.mem_of_getElem? (i := 275) (by decide +kernel), List.mem_of_getElem? (i := 638) (by decide +kernel), List.mem_of_getElem? (i := 639) (by decide +kernel)⟩
theorem lw_p19 : lw_okq (⟨"RuleDepths$Text", "here", "()I"⟩, 10) := ⟨⟨by decide +kernel, by decide +kernel⟩, List.mem_of_getElem? (i := 275) (by decide +kernel), List.mem_of_getElem? (i := 642) (by decide +kernel), List.mem_of_getElem? (i := 643) (by decide +kernel)⟩
theorem lw_p20 : lw_okq (⟨"RuleDepths$Text", "readInsert", "()V"⟩, 10) := ⟨⟨by decide +kernel, by decide +kernel⟩, List.mem_of_getElem? (i := 275) (by decide +kernel), List.mem_of_getElem? (i := 646) (by decide +kernel), List.mem_of_getElem? (i := 647) (by decide +kernel)⟩
theorem lw_p21 : lw_okq (⟨"RuleDepths$Text", "readNumber", "(I)I"⟩, 10) := ⟨⟨by decide +kernel, by decide +kernel⟩, List.mem_of_getElem? (i := 275) (by decide +kernel), List.mem_of_getElem? (i := 650) (by decide +kernel), List.mem_of_getElem? (i := 651) (by decide +kernel)⟩
theorem lw_p22 : lw_okq (⟨"RuleDepths$Text", "readDigit", "(I)I"⟩, 10) := ⟨⟨by decide +kernel, by decide +kernel⟩, List.mem_of_getElem? (i := 275) (by decide +kernel), List.mem_of_getElem? (i := 654) (by decide +kernel), List.mem_of_getElem? (i := 655) (by decide +kernel)⟩
theorem lw_p23 : lw_okq (⟨"RuleDepths$Text", "readValue", "()I"⟩, 10) := ⟨⟨by decide +kernel, by decide +kernel⟩, List.mem_of_getElem? (i := 275) (by decide +kernel), List.mem_of_getElem? (i := 661) (by decide +kernel), List.mem_of_getElem? (i := 662) (by decide +kernel)⟩
theorem lw_p24 : lw_okq (⟨"RuleDepths$Text", "readUpdate", "()V"⟩, 10) := ⟨⟨by decide +kernel, by decide +kernel⟩, List.mem_of_getElem? (i := 275) (by decide +kernel), List.mem_of_getElem? (i := 665) (by decide +kernel), List.mem_of_getElem? (i := 666) (by decide +kernel)⟩
theorem lw_p25 : lw_okq (⟨"RuleDepths", "performStatement", "()I"⟩, 6) := ⟨⟨by decide +kernel, by decide +kernel⟩, List.mem_of_getElem? (i := 16) (by decide +kernel), List.mem_of_getElem? (i := 671) (by decide +kernel), List.mem_of_getElem? (i := 672) (by decide +kernel)⟩
theorem lw_p26 : lw_okq (⟨"RuleDepthsModel", "whyNotInsertHere", "(IIII)I"⟩, 13) := ⟨⟨by decide +kernel, by decide +kernel⟩, List.mem_of_getElem? (i := 763) (by decide +kernel), List.mem_of_getElem? (i := 813) (by decide +kernel), List.mem_of_getElem? (i := 814) (by decide +kernel)⟩
theorem lw_p27 : lw_okq (⟨"RuleDepthsModel", "whyNotInsert", "(II)I"⟩, 13) := ⟨⟨by decide +kernel, by decide +kernel⟩, List.mem_of_getElem? (i := 763) (by decide +kernel), List.mem_of_getElem? (i := 826) (by decide +kernel), List.mem_of_getElem? (i := 827) (by decide +kernel)⟩
theorem lw_p28 : lw_okq (⟨"RuleDepthsModel", "rowOf", "(II)I"⟩, 13) := ⟨⟨by decide +kernel, by decide +kernel⟩, List.mem_of_getElem? (i := 763) (by decide +kernel), List.mem_of_getElem? (i := 830) (by decide +kernel), List.mem_of_getElem? (i := 831) (by decide +kernel)⟩
theorem lw_p29 : lw_okq (⟨"RuleDepthsModel", "copies", "(II)V"⟩, 13) := ⟨⟨by decide +kernel, by decide +kernel⟩, List.mem_of_getElem? (i := 763) (by decide +kernel), List.mem_of_getElem? (i := 834) (by decide +kernel), List.mem_of_getElem? (i := 835) (by decide +kernel)⟩
theorem lw_p30 : lw_okq (⟨"RuleDepthsModel", "runsInsert", "(IIIII)V"⟩, 13) := ⟨⟨by decide +kernel, by decide +kernel⟩, List.mem_of_getElem? (i := 763) (by decide +kernel), List.mem_of_getElem? (i := 838) (by decide +kernel), List.mem_of_getElem? (i := 839) (by decide +kernel)⟩
theorem lw_p31 : lw_okq (⟨"RuleDepthsModel", "asks", "(IIII)V"⟩, 13) := ⟨⟨by decide +kernel, by decide +kernel⟩, List.mem_of_getElem? (i := 763) (by decide +kernel), List.mem_of_getElem? (i := 842) (by decide +kernel), List.mem_of_getElem? (i := 843) (by decide +kernel)⟩
def lw_privs_2 : List (MethodName × Nat) := [(⟨"RuleDepths$Engine", "carryOut", "(ILRuleDepths$Row;)V"⟩, 8), (⟨"RuleDepths", "settle", "(I)I"⟩, 6), (⟨"RuleDepths$Text", "pass", "(C)V"⟩, 10), (⟨"RuleDepths$Text", "here", "()I"⟩, 10), (⟨"RuleDepths$Text", "readInsert", "()V"⟩, 10), (⟨"RuleDepths$Text", "readNumber", "(I)I"⟩, 10), (⟨"RuleDepths$Text", "readDigit", "(I)I"⟩, 10), (⟨"RuleDepths$Text", "readValue", "()I"⟩, 10), (⟨"RuleDepths$Text", "readUpdate", "()V"⟩, 10), (⟨"RuleDepths", "performStatement", "()I"⟩, 6), (⟨"RuleDepthsModel", "whyNotInsertHere", "(IIII)I"⟩, 13), (⟨"RuleDepthsModel", "whyNotInsert", "(II)I"⟩, 13), (⟨"RuleDepthsModel", "rowOf", "(II)I"⟩, 13), (⟨"RuleDepthsModel", "copies", "(II)V"⟩, 13), (⟨"RuleDepthsModel", "runsInsert", "(IIIII)V"⟩, 13), (⟨"RuleDepthsModel", "asks", "(IIII)V"⟩, 13)]
theorem lw_r2 : ∀ q ∈ lw_privs_2, lw_okq q := List.forall_mem_cons.mpr ⟨lw_p16, List.forall_mem_cons.mpr ⟨lw_p17, List.forall_mem_cons.mpr ⟨lw_p18, List.forall_mem_cons.mpr ⟨lw_p19, List.forall_mem_cons.mpr ⟨lw_p20, List.forall_mem_cons.mpr ⟨lw_p21, List.forall_mem_cons.mpr ⟨lw_p22, List.forall_mem_cons.mpr ⟨lw_p23, List.forall_mem_cons.mpr ⟨lw_p24, List.forall_mem_cons.mpr ⟨lw_p25, List.forall_mem_cons.mpr ⟨lw_p26, List.forall_mem_cons.mpr ⟨lw_p27, List.forall_mem_cons.mpr ⟨lw_p28, List.forall_mem_cons.mpr ⟨lw_p29, List.forall_mem_cons.mpr ⟨lw_p30, List.forall_mem_cons.mpr ⟨lw_p31, fun _ h => absurd h List.not_mem_nil⟩⟩⟩⟩⟩⟩⟩⟩⟩⟩⟩⟩⟩⟩⟩⟩
theorem lw_p32 : lw_okq (⟨"RuleDepthsModel", "runs", "(III)V"⟩, 13) := ⟨⟨by decide +kernel, by decide +kernel⟩, List.mem_of_getElem? (i := 763) (by decide +kernel), List.mem_of_getElem? (i := 846) (by decide +kernel), List.mem_of_getElem? (i := 847) (by decide +kernel)⟩
theorem lw_p33 : lw_okq (⟨"RuleDepthsModel", "begins", "(IIII)Z"⟩, 13) := ⟨⟨by decide +kernel, by decide +kernel⟩, List.mem_of_getElem? (i := 763) (by decide +kernel), List.mem_of_getElem? (i := 850) (by decide +kernel), List.mem_of_getElem? (i := 851) (by decide +kernel)⟩
theorem lw_p34 : lw_okq (⟨"RuleDepthsModel", "isNothing", "(IIII)Z"⟩, 13) := ⟨⟨by decide +kernel, by decide +kernel⟩, List.mem_of_getElem? (i := 763) (by decide +kernel), List.mem_of_getElem? (i := 854) (by decide +kernel), List.mem_of_getElem? (i := 855) (by decide +kernel)⟩
theorem lw_p35 : lw_okq (⟨"RuleDepthsModel", "refuses", "(II)V"⟩, 13) := ⟨⟨by decide +kernel, by decide +kernel⟩, List.mem_of_getElem? (i := 763) (by decide +kernel), List.mem_of_getElem? (i := 858) (by decide +kernel), List.mem_of_getElem? (i := 859) (by decide +kernel)⟩
theorem lw_p36 : lw_okq (⟨"RuleDepthsModel", "goes", "(II)I"⟩, 13) := ⟨⟨by decide +kernel, by decide +kernel⟩, List.mem_of_getElem? (i := 763) (by decide +kernel), List.mem_of_getElem? (i := 862) (by decide +kernel), List.mem_of_getElem? (i := 863) (by decide +kernel)⟩
theorem lw_p37 : lw_okq (⟨"RuleDepthsModel", "orderAt", "(IIII)I"⟩, 13) := ⟨⟨by decide +kernel, by decide +kernel⟩, List.mem_of_getElem? (i := 763) (by decide +kernel), List.mem_of_getElem? (i := 866) (by decide +kernel), List.mem_of_getElem? (i := 867) (by decide +kernel)⟩
theorem lw_p38 : lw_okq (⟨"RuleDepthsModel", "isOf", "(IIII)Z"⟩, 13) := ⟨⟨by decide +kernel, by decide +kernel⟩, List.mem_of_getElem? (i := 763) (by decide +kernel), List.mem_of_getElem? (i := 873) (by decide +kernel), List.mem_of_getElem? (i := 874) (by decide +kernel)⟩
theorem lw_p39 : lw_okq (⟨"RuleDepthsModel", "carriesOut", "(II)V"⟩, 13) := ⟨⟨by decide +kernel, by decide +kernel⟩, List.mem_of_getElem? (i := 763) (by decide +kernel), List.mem_of_getElem? (i := 877) (by decide +kernel), List.mem_of_getElem? (i := 878) (by decide +kernel)⟩
theorem lw_p40 : lw_okq (⟨"RuleDepthsModel", "fires", "(III)Z"⟩, 13) := ⟨⟨by decide +kernel, by decide +kernel⟩, List.mem_of_getElem? (i := 763) (by decide +kernel), List.mem_of_getElem? (i := 881) (by decide +kernel), List.mem_of_getElem? (i := 882) (by decide +kernel)⟩
theorem lw_p41 : lw_okq (⟨"RuleDepthsModel", "isFiring", "(II)Z"⟩, 13) := ⟨⟨by decide +kernel, by decide +kernel⟩, List.mem_of_getElem? (i := 763) (by decide +kernel), List.mem_of_getElem? (i := 885) (by decide +kernel), List.mem_of_getElem? (i := 886) (by decide +kernel)⟩
theorem lw_p42 : lw_okq (⟨"RuleDepthsModel", "image", "(II)I"⟩, 13) := ⟨⟨by decide +kernel, by decide +kernel⟩, List.mem_of_getElem? (i := 763) (by decide +kernel), List.mem_of_getElem? (i := 889) (by decide +kernel), List.mem_of_getElem? (i := 890) (by decide +kernel)⟩
theorem lw_p43 : lw_okq (⟨"RuleDepthsModel", "acts", "(III)I"⟩, 13) := ⟨⟨by decide +kernel, by decide +kernel⟩, List.mem_of_getElem? (i := 763) (by decide +kernel), List.mem_of_getElem? (i := 896) (by decide +kernel), List.mem_of_getElem? (i := 897) (by decide +kernel)⟩
theorem lw_p44 : lw_okq (⟨"RuleDepthsModel", "valueOf", "(III)I"⟩, 13) := ⟨⟨by decide +kernel, by decide +kernel⟩, List.mem_of_getElem? (i := 763) (by decide +kernel), List.mem_of_getElem? (i := 900) (by decide +kernel), List.mem_of_getElem? (i := 901) (by decide +kernel)⟩
theorem lw_p45 : lw_okq (⟨"RuleDepthsModel", "counts", "(III)V"⟩, 13) := ⟨⟨by decide +kernel, by decide +kernel⟩, List.mem_of_getElem? (i := 763) (by decide +kernel), List.mem_of_getElem? (i := 904) (by decide +kernel), List.mem_of_getElem? (i := 905) (by decide +kernel)⟩
theorem lw_p46 : lw_okq (⟨"RuleDepthsModel", "operates", "(IIII)Z"⟩, 13) := ⟨⟨by decide +kernel, by decide +kernel⟩, List.mem_of_getElem? (i := 763) (by decide +kernel), List.mem_of_getElem? (i := 908) (by decide +kernel), List.mem_of_getElem? (i := 909) (by decide +kernel)⟩
theorem lw_p47 : lw_okq (⟨"RuleDepthsModel", "ends", "()I"⟩, 13) := ⟨⟨by decide +kernel, by decide +kernel⟩, List.mem_of_getElem? (i := 763) (by decide +kernel), List.mem_of_getElem? (i := 912) (by decide +kernel), List.mem_of_getElem? (i := 913) (by decide +kernel)⟩
def lw_privs_3 : List (MethodName × Nat) := [(⟨"RuleDepthsModel", "runs", "(III)V"⟩, 13), (⟨"RuleDepthsModel", "begins", "(IIII)Z"⟩, 13), (⟨"RuleDepthsModel", "isNothing", "(IIII)Z"⟩, 13), (⟨"RuleDepthsModel", "refuses", "(II)V"⟩, 13), (⟨"RuleDepthsModel", "goes", "(II)I"⟩, 13), (⟨"RuleDepthsModel", "orderAt", "(IIII)I"⟩, 13), (⟨"RuleDepthsModel", "isOf", "(IIII)Z"⟩, 13), (⟨"RuleDepthsModel", "carriesOut", "(II)V"⟩, 13), (⟨"RuleDepthsModel", "fires", "(III)Z"⟩, 13), (⟨"RuleDepthsModel", "isFiring", "(II)Z"⟩, 13), (⟨"RuleDepthsModel", "image", "(II)I"⟩, 13), (⟨"RuleDepthsModel", "acts", "(III)I"⟩, 13), (⟨"RuleDepthsModel", "valueOf", "(III)I"⟩, 13), (⟨"RuleDepthsModel", "counts", "(III)V"⟩, 13), (⟨"RuleDepthsModel", "operates", "(IIII)Z"⟩, 13), (⟨"RuleDepthsModel", "ends", "()I"⟩, 13)]
theorem lw_r3 : ∀ q ∈ lw_privs_3, lw_okq q := List.forall_mem_cons.mpr ⟨lw_p32, List.forall_mem_cons.mpr ⟨lw_p33, List.forall_mem_cons.mpr ⟨lw_p34, List.forall_mem_cons.mpr ⟨lw_p35, List.forall_mem_cons.mpr ⟨lw_p36, List.forall_mem_cons.mpr ⟨lw_p37, List.forall_mem_cons.mpr ⟨lw_p38, List.forall_mem_cons.mpr ⟨lw_p39, List.forall_mem_cons.mpr ⟨lw_p40, List.forall_mem_cons.mpr ⟨lw_p41, List.forall_mem_cons.mpr ⟨lw_p42, List.forall_mem_cons.mpr ⟨lw_p43, List.forall_mem_cons.mpr ⟨lw_p44, List.forall_mem_cons.mpr ⟨lw_p45, List.forall_mem_cons.mpr ⟨lw_p46, List.forall_mem_cons.mpr ⟨lw_p47, fun _ h => absurd h List.not_mem_nil⟩⟩⟩⟩⟩⟩⟩⟩⟩⟩⟩⟩⟩⟩⟩⟩
theorem lw_p48 : lw_okq (⟨"RuleDepthsModel", "lays", "()V"⟩, 13) := ⟨⟨by decide +kernel, by decide +kernel⟩, List.mem_of_getElem? (i := 763) (by decide +kernel), List.mem_of_getElem? (i := 916) (by decide +kernel), List.mem_of_getElem? (i := 917) (by decide +kernel)⟩
theorem lw_p49 : lw_okq (⟨"RuleDepthsModel", "remembers", "()V"⟩, 13) := ⟨⟨by decide +kernel, by decide +kernel⟩, List.mem_of_getElem? (i := 763) (by decide +kernel), List.mem_of_getElem? (i := 920) (by decide +kernel), List.mem_of_getElem? (i := 921) (by decide +kernel)⟩
theorem lw_p50 : lw_okq (⟨"RuleDepthsModel", "whyNotUpdateHere", "(III)I"⟩, 13) := ⟨⟨by decide +kernel, by decide +kernel⟩, List.mem_of_getElem? (i := 763) (by decide +kernel), List.mem_of_getElem? (i := 928) (by decide +kernel), List.mem_of_getElem? (i := 929) (by decide +kernel)⟩
theorem lw_p51 : lw_okq (⟨"RuleDepthsModel", "whyNotUpdate", "(IIII)I"⟩, 13) := ⟨⟨by decide +kernel, by decide +kernel⟩, List.mem_of_getElem? (i := 763) (by decide +kernel), List.mem_of_getElem? (i := 932) (by decide +kernel), List.mem_of_getElem? (i := 933) (by decide +kernel)⟩
theorem lw_p52 : lw_okq (⟨"RuleDepthsModel", "runsUpdate", "(IIII)V"⟩, 13) := ⟨⟨by decide +kernel, by decide +kernel⟩, List.mem_of_getElem? (i := 763) (by decide +kernel), List.mem_of_getElem? (i := 936) (by decide +kernel), List.mem_of_getElem? (i := 937) (by decide +kernel)⟩
theorem lw_p53 : lw_okq (⟨"RuleDepthsModel", "runsDelete", "(II)V"⟩, 13) := ⟨⟨by decide +kernel, by decide +kernel⟩, List.mem_of_getElem? (i := 763) (by decide +kernel), List.mem_of_getElem? (i := 944) (by decide +kernel), List.mem_of_getElem? (i := 945) (by decide +kernel)⟩
theorem lw_p54 : lw_okq (⟨"RuleDepthsModel", "isRule", "(I)Z"⟩, 13) := ⟨⟨by decide +kernel, by decide +kernel⟩, List.mem_of_getElem? (i := 763) (by decide +kernel), List.mem_of_getElem? (i := 956) (by decide +kernel), List.mem_of_getElem? (i := 957) (by decide +kernel)⟩
theorem lw_p55 : lw_okq (⟨"RuleDepthsModel", "rulesOn", "()I"⟩, 13) := ⟨⟨by decide +kernel, by decide +kernel⟩, List.mem_of_getElem? (i := 763) (by decide +kernel), List.mem_of_getElem? (i := 964) (by decide +kernel), List.mem_of_getElem? (i := 965) (by decide +kernel)⟩
theorem lw_p56 : lw_okq (⟨"RuleDepthsModel", "fault", "()I"⟩, 13) := ⟨⟨by decide +kernel, by decide +kernel⟩, List.mem_of_getElem? (i := 763) (by decide +kernel), List.mem_of_getElem? (i := 988) (by decide +kernel), List.mem_of_getElem? (i := 989) (by decide +kernel)⟩
theorem lw_p57 : lw_okq (⟨"RuleDepthsModel", "statementEnd", "(I)I"⟩, 13) := ⟨⟨by decide +kernel, by decide +kernel⟩, List.mem_of_getElem? (i := 763) (by decide +kernel), List.mem_of_getElem? (i := 992) (by decide +kernel), List.mem_of_getElem? (i := 993) (by decide +kernel)⟩
theorem lw_p58 : lw_okq (⟨"RuleDepthsModel", "sign", "(I)I"⟩, 13) := ⟨⟨by decide +kernel, by decide +kernel⟩, List.mem_of_getElem? (i := 763) (by decide +kernel), List.mem_of_getElem? (i := 996) (by decide +kernel), List.mem_of_getElem? (i := 997) (by decide +kernel)⟩
theorem lw_p59 : lw_okq (⟨"RuleDepthsModel", "insertEnd", "(I)I"⟩, 13) := ⟨⟨by decide +kernel, by decide +kernel⟩, List.mem_of_getElem? (i := 763) (by decide +kernel), List.mem_of_getElem? (i := 1000) (by decide +kernel), List.mem_of_getElem? (i := 1001) (by decide +kernel)⟩
theorem lw_p60 : lw_okq (⟨"RuleDepthsModel", "numberEnd", "(II)I"⟩, 13) := ⟨⟨by decide +kernel, by decide +kernel⟩, List.mem_of_getElem? (i := 763) (by decide +kernel), List.mem_of_getElem? (i := 1004) (by decide +kernel), List.mem_of_getElem? (i := 1005) (by decide +kernel)⟩
theorem lw_p61 : lw_okq (⟨"RuleDepthsModel", "digit", "(I)I"⟩, 13) := ⟨⟨by decide +kernel, by decide +kernel⟩, List.mem_of_getElem? (i := 763) (by decide +kernel), List.mem_of_getElem? (i := 1008) (by decide +kernel), List.mem_of_getElem? (i := 1009) (by decide +kernel)⟩
theorem lw_p62 : lw_okq (⟨"RuleDepthsModel", "valueBehind", "(II)I"⟩, 13) := ⟨⟨by decide +kernel, by decide +kernel⟩, List.mem_of_getElem? (i := 763) (by decide +kernel), List.mem_of_getElem? (i := 1012) (by decide +kernel), List.mem_of_getElem? (i := 1013) (by decide +kernel)⟩
theorem lw_p63 : lw_okq (⟨"RuleDepthsModel", "behind", "(II)I"⟩, 13) := ⟨⟨by decide +kernel, by decide +kernel⟩, List.mem_of_getElem? (i := 763) (by decide +kernel), List.mem_of_getElem? (i := 1016) (by decide +kernel), List.mem_of_getElem? (i := 1017) (by decide +kernel)⟩
def lw_privs_4 : List (MethodName × Nat) := [(⟨"RuleDepthsModel", "lays", "()V"⟩, 13), (⟨"RuleDepthsModel", "remembers", "()V"⟩, 13), (⟨"RuleDepthsModel", "whyNotUpdateHere", "(III)I"⟩, 13), (⟨"RuleDepthsModel", "whyNotUpdate", "(IIII)I"⟩, 13), (⟨"RuleDepthsModel", "runsUpdate", "(IIII)V"⟩, 13), (⟨"RuleDepthsModel", "runsDelete", "(II)V"⟩, 13), (⟨"RuleDepthsModel", "isRule", "(I)Z"⟩, 13), (⟨"RuleDepthsModel", "rulesOn", "()I"⟩, 13), (⟨"RuleDepthsModel", "fault", "()I"⟩, 13), (⟨"RuleDepthsModel", "statementEnd", "(I)I"⟩, 13), (⟨"RuleDepthsModel", "sign", "(I)I"⟩, 13), (⟨"RuleDepthsModel", "insertEnd", "(I)I"⟩, 13), (⟨"RuleDepthsModel", "numberEnd", "(II)I"⟩, 13), (⟨"RuleDepthsModel", "digit", "(I)I"⟩, 13), (⟨"RuleDepthsModel", "valueBehind", "(II)I"⟩, 13), (⟨"RuleDepthsModel", "behind", "(II)I"⟩, 13)]
theorem lw_r4 : ∀ q ∈ lw_privs_4, lw_okq q := List.forall_mem_cons.mpr ⟨lw_p48, List.forall_mem_cons.mpr ⟨lw_p49, List.forall_mem_cons.mpr ⟨lw_p50, List.forall_mem_cons.mpr ⟨lw_p51, List.forall_mem_cons.mpr ⟨lw_p52, List.forall_mem_cons.mpr ⟨lw_p53, List.forall_mem_cons.mpr ⟨lw_p54, List.forall_mem_cons.mpr ⟨lw_p55, List.forall_mem_cons.mpr ⟨lw_p56, List.forall_mem_cons.mpr ⟨lw_p57, List.forall_mem_cons.mpr ⟨lw_p58, List.forall_mem_cons.mpr ⟨lw_p59, List.forall_mem_cons.mpr ⟨lw_p60, List.forall_mem_cons.mpr ⟨lw_p61, List.forall_mem_cons.mpr ⟨lw_p62, List.forall_mem_cons.mpr ⟨lw_p63, fun _ h => absurd h List.not_mem_nil⟩⟩⟩⟩⟩⟩⟩⟩⟩⟩⟩⟩⟩⟩⟩⟩
theorem lw_p64 : lw_okq (⟨"RuleDepthsModel", "valueEnd", "(I)I"⟩, 13) := ⟨⟨by decide +kernel, by decide +kernel⟩, List.mem_of_getElem? (i := 763) (by decide +kernel), List.mem_of_getElem? (i := 1020) (by decide +kernel), List.mem_of_getElem? (i := 1021) (by decide +kernel)⟩
theorem lw_p65 : lw_okq (⟨"RuleDepthsModel", "updateEnd", "(I)I"⟩, 13) := ⟨⟨by decide +kernel, by decide +kernel⟩, List.mem_of_getElem? (i := 763) (by decide +kernel), List.mem_of_getElem? (i := 1024) (by decide +kernel), List.mem_of_getElem? (i := 1025) (by decide +kernel)⟩
theorem lw_p66 : lw_okq (⟨"RuleDepthsModel", "does", "(I)I"⟩, 13) := ⟨⟨by decide +kernel, by decide +kernel⟩, List.mem_of_getElem? (i := 763) (by decide +kernel), List.mem_of_getElem? (i := 1028) (by decide +kernel), List.mem_of_getElem? (i := 1029) (by decide +kernel)⟩
theorem lw_p67 : lw_okq (⟨"RuleDepthsModel", "numberAt", "(I)I"⟩, 13) := ⟨⟨by decide +kernel, by decide +kernel⟩, List.mem_of_getElem? (i := 763) (by decide +kernel), List.mem_of_getElem? (i := 1032) (by decide +kernel), List.mem_of_getElem? (i := 1033) (by decide +kernel)⟩
theorem lw_p68 : lw_okq (⟨"RuleDepthsModel", "told", "(I)I"⟩, 13) := ⟨⟨by decide +kernel, by decide +kernel⟩, List.mem_of_getElem? (i := 763) (by decide +kernel), List.mem_of_getElem? (i := 1076) (by decide +kernel), List.mem_of_getElem? (i := 1077) (by decide +kernel)⟩
def lw_privs_5 : List (MethodName × Nat) := [(⟨"RuleDepthsModel", "valueEnd", "(I)I"⟩, 13), (⟨"RuleDepthsModel", "updateEnd", "(I)I"⟩, 13), (⟨"RuleDepthsModel", "does", "(I)I"⟩, 13), (⟨"RuleDepthsModel", "numberAt", "(I)I"⟩, 13), (⟨"RuleDepthsModel", "told", "(I)I"⟩, 13)]
theorem lw_r5 : ∀ q ∈ lw_privs_5, lw_okq q := List.forall_mem_cons.mpr ⟨lw_p64, List.forall_mem_cons.mpr ⟨lw_p65, List.forall_mem_cons.mpr ⟨lw_p66, List.forall_mem_cons.mpr ⟨lw_p67, List.forall_mem_cons.mpr ⟨lw_p68, fun _ h => absurd h List.not_mem_nil⟩⟩⟩⟩⟩
def lw_privs : List (MethodName × Nat) := lw_privs_1 ++ (lw_privs_2 ++ (lw_privs_3 ++ (lw_privs_4 ++ (lw_privs_5))))
def lw_tbl : List Cond := k2_sels lw_privs ++ tables_1
theorem lw_privs_ok : ∀ q ∈ lw_privs, lw_okq q := by
  show ∀ q ∈ lw_privs_1 ++ (lw_privs_2 ++ (lw_privs_3 ++ (lw_privs_4 ++ (lw_privs_5)))), lw_okq q
  exact List.forall_mem_append.mpr ⟨lw_r1, List.forall_mem_append.mpr ⟨lw_r2, List.forall_mem_append.mpr ⟨lw_r3, List.forall_mem_append.mpr ⟨lw_r4, lw_r5⟩⟩⟩⟩
def RX0 : String := "RuleDepths$Engine"
def TX0 : u_T := fun k => match k with
  | 0 => ("RuleDepths$Engine", "state", "LRuleDepths$State;", true)
  | 1 => ("RuleDepths$Engine", "top", "LRuleDepths$Level;", true)
  | 2 => ("RuleDepths$Engine", "firing", "[Z", true)
  | 3 => ("RuleDepths$Engine", "operations", "I", false)
  | 4 => ("RuleDepths$Engine", "firings", "I", false)
  | 5 => ("RuleDepths$Engine", "deepest", "I", false)
  | 6 => ("RuleDepths$Engine", "reason", "I", false)
  | _ => ("RuleDepths$Engine", "refusingRule", "I", false)
def tyX0 : Nat → FieldType := fun k => match k with
  | 0 => .object "RuleDepths$State"
  | 1 => .object "RuleDepths$Level"
  | 2 => .array .boolean
  | 3 => .int
  | 4 => .int
  | 5 => .int
  | 6 => .int
  | _ => .int
abbrev wsX00 : List Cond := u_ws RX0 TX0 8
theorem nmX0 : ∀ a, a < 8 → ∀ b, b < 8 → a ≠ b → (TX0 a).2.1 ≠ (TX0 b).2.1 := by decide +kernel
theorem tyX0_ok : ∀ k, k < 8 → parseFieldDescriptor (TX0 k).2.2.1 = some (tyX0 k) := by decide +kernel
abbrev cX0_init : ByteArray := prog_2_method_1_code
def yX0_init : MethodName := ⟨RX0, "<init>", "()V"⟩
abbrev cX0_insertFault : ByteArray := prog_2_method_2_code
def yX0_insertFault : MethodName := ⟨RX0, "insertFault", "(IIII)I"⟩
abbrev cX0_updateFault : ByteArray := prog_2_method_3_code
def yX0_updateFault : MethodName := ⟨RX0, "updateFault", "(III)I"⟩
abbrev cX0_deleteFault : ByteArray := prog_2_method_4_code
def yX0_deleteFault : MethodName := ⟨RX0, "deleteFault", "(I)I"⟩
abbrev cX0_runInsert : ByteArray := prog_2_method_5_code
def yX0_runInsert : MethodName := ⟨RX0, "runInsert", "(IIII)I"⟩
abbrev cX0_runUpdate : ByteArray := prog_2_method_6_code
def yX0_runUpdate : MethodName := ⟨RX0, "runUpdate", "(III)I"⟩
abbrev cX0_runDelete : ByteArray := prog_2_method_7_code
def yX0_runDelete : MethodName := ⟨RX0, "runDelete", "(I)I"⟩
abbrev cX0_run : ByteArray := prog_2_method_8_code
def yX0_run : MethodName := ⟨RX0, "run", "(I)I"⟩
abbrev cX0_report : ByteArray := prog_2_method_9_code
def yX0_report : MethodName := ⟨RX0, "report", "(I)I"⟩
abbrev cX0_begin : ByteArray := prog_2_method_10_code
def yX0_begin : MethodName := ⟨RX0, "begin", "()V"⟩
abbrev cX0_canTake : ByteArray := prog_2_method_11_code
def yX0_canTake : MethodName := ⟨RX0, "canTake", "(I)Z"⟩
abbrev cX0_prepareUpdate : ByteArray := prog_2_method_12_code
def yX0_prepareUpdate : MethodName := ⟨RX0, "prepareUpdate", "(LRuleDepths$Row;III)Z"⟩
abbrev cX0_prepareDelete : ByteArray := prog_2_method_13_code
def yX0_prepareDelete : MethodName := ⟨RX0, "prepareDelete", "(LRuleDepths$Row;I)Z"⟩
abbrev cX0_prepareCaused : ByteArray := prog_2_method_14_code
def yX0_prepareCaused : MethodName := ⟨RX0, "prepareCaused", "(LRuleDepths$Rule;LRuleDepths$Row;LRuleDepths$Row;)Z"⟩
abbrev cX0_operate : ByteArray := prog_2_method_15_code
def yX0_operate : MethodName := ⟨RX0, "operate", "(ILRuleDepths$Level;I)V"⟩
abbrev cX0_carryOut : ByteArray := prog_2_method_16_code
def yX0_carryOut : MethodName := ⟨RX0, "carryOut", "(ILRuleDepths$Row;)V"⟩
abbrev cX0_fireRules : ByteArray := prog_2_method_17_code
def yX0_fireRules : MethodName := ⟨RX0, "fireRules", "(IILRuleDepths$Level;)Z"⟩
abbrev cX0_fire : ByteArray := prog_2_method_18_code
def yX0_fire : MethodName := ⟨RX0, "fire", "(ILRuleDepths$Rule;LRuleDepths$Level;)Z"⟩
abbrev cX0_cause : ByteArray := prog_2_method_19_code
def yX0_cause : MethodName := ⟨RX0, "cause", "(ILRuleDepths$Rule;LRuleDepths$Level;)V"⟩
abbrev cX0_isHeldBack : ByteArray := prog_2_method_20_code
def yX0_isHeldBack : MethodName := ⟨RX0, "isHeldBack", "(I)Z"⟩
abbrev cX0_mark : ByteArray := prog_2_method_21_code
def yX0_mark : MethodName := ⟨RX0, "mark", "(IZ)V"⟩
abbrev cX0_refuse : ByteArray := prog_2_method_22_code
def yX0_refuse : MethodName := ⟨RX0, "refuse", "(II)V"⟩
def RX1 : String := "RuleDepths$FiringLog"
def TX1 : u_T := fun k => match k with
  | 0 => ("RuleDepths$FiringLog", "rules", "[I", true)
  | 1 => ("RuleDepths$FiringLog", "depths", "[I", true)
  | 2 => ("RuleDepths$FiringLog", "keys", "[I", true)
  | _ => ("RuleDepths$FiringLog", "count", "I", false)
def tyX1 : Nat → FieldType := fun k => match k with
  | 0 => .array .int
  | 1 => .array .int
  | 2 => .array .int
  | _ => .int
abbrev wsX10 : List Cond := u_ws RX1 TX1 4
theorem nmX1 : ∀ a, a < 4 → ∀ b, b < 4 → a ≠ b → (TX1 a).2.1 ≠ (TX1 b).2.1 := by decide +kernel
theorem tyX1_ok : ∀ k, k < 4 → parseFieldDescriptor (TX1 k).2.2.1 = some (tyX1 k) := by decide +kernel
abbrev cX1_init : ByteArray := prog_3_method_1_code
def yX1_init : MethodName := ⟨RX1, "<init>", "()V"⟩
abbrev cX1_add : ByteArray := prog_3_method_2_code
def yX1_add : MethodName := ⟨RX1, "add", "(III)V"⟩
abbrev cX1_tell : ByteArray := prog_3_method_3_code
def yX1_tell : MethodName := ⟨RX1, "tell", "(II)I"⟩
abbrev cX1_copyFrom : ByteArray := prog_3_method_4_code
def yX1_copyFrom : MethodName := ⟨RX1, "copyFrom", "(LRuleDepths$FiringLog;)V"⟩
def RX2 : String := "RuleDepths$History"
def TX2 : u_T := fun k => match k with
  | 0 => ("RuleDepths$History", "states", "[LRuleDepths$State;", true)
  | _ => ("RuleDepths$History", "count", "I", false)
def tyX2 : Nat → FieldType := fun k => match k with
  | 0 => .array (.object "RuleDepths$State")
  | _ => .int
abbrev wsX20 : List Cond := u_ws RX2 TX2 2
theorem nmX2 : ∀ a, a < 2 → ∀ b, b < 2 → a ≠ b → (TX2 a).2.1 ≠ (TX2 b).2.1 := by decide +kernel
theorem tyX2_ok : ∀ k, k < 2 → parseFieldDescriptor (TX2 k).2.2.1 = some (tyX2 k) := by decide +kernel
abbrev cX2_init : ByteArray := prog_4_method_1_code
def yX2_init : MethodName := ⟨RX2, "<init>", "()V"⟩
abbrev cX2_push : ByteArray := prog_4_method_2_code
def yX2_push : MethodName := ⟨RX2, "push", "(LRuleDepths$State;)V"⟩
abbrev cX2_popInto : ByteArray := prog_4_method_3_code
def yX2_popInto : MethodName := ⟨RX2, "popInto", "(LRuleDepths$State;)Z"⟩
abbrev cX2_dropOldest : ByteArray := prog_4_method_4_code
def yX2_dropOldest : MethodName := ⟨RX2, "dropOldest", "()V"⟩
def RX3 : String := "RuleDepths$Level"
def TX3 : u_T := fun k => match k with
  | 0 => ("RuleDepths$Level", "depth", "I", true)
  | 1 => ("RuleDepths$Level", "deeper", "LRuleDepths$Level;", true)
  | _ => ("RuleDepths$Level", "image", "LRuleDepths$Row;", true)
def tyX3 : Nat → FieldType := fun k => match k with
  | 0 => .int
  | 1 => .object "RuleDepths$Level"
  | _ => .object "RuleDepths$Row"
abbrev wsX30 : List Cond := u_ws RX3 TX3 3
theorem nmX3 : ∀ a, a < 3 → ∀ b, b < 3 → a ≠ b → (TX3 a).2.1 ≠ (TX3 b).2.1 := by decide +kernel
theorem tyX3_ok : ∀ k, k < 3 → parseFieldDescriptor (TX3 k).2.2.1 = some (tyX3 k) := by decide +kernel
abbrev cX3_init : ByteArray := prog_5_method_1_code
def yX3_init : MethodName := ⟨RX3, "<init>", "(ILRuleDepths$Level;)V"⟩
def RX4 : String := "RuleDepths$Row"
def TX4 : u_T := fun k => match k with
  | 0 => ("RuleDepths$Row", "key", "I", false)
  | 1 => ("RuleDepths$Row", "zero", "I", false)
  | 2 => ("RuleDepths$Row", "one", "I", false)
  | _ => ("RuleDepths$Row", "two", "I", false)
def tyX4 : Nat → FieldType := fun k => match k with
  | 0 => .int
  | 1 => .int
  | 2 => .int
  | _ => .int
abbrev wsX40 : List Cond := u_ws RX4 TX4 4
theorem nmX4 : ∀ a, a < 4 → ∀ b, b < 4 → a ≠ b → (TX4 a).2.1 ≠ (TX4 b).2.1 := by decide +kernel
theorem tyX4_ok : ∀ k, k < 4 → parseFieldDescriptor (TX4 k).2.2.1 = some (tyX4 k) := by decide +kernel
abbrev cX4_init : ByteArray := prog_6_method_1_code
def yX4_init : MethodName := ⟨RX4, "<init>", "()V"⟩
abbrev cX4_fill : ByteArray := prog_6_method_2_code
def yX4_fill : MethodName := ⟨RX4, "fill", "(IIII)V"⟩
abbrev cX4_copyFrom : ByteArray := prog_6_method_3_code
def yX4_copyFrom : MethodName := ⟨RX4, "copyFrom", "(LRuleDepths$Row;)V"⟩
abbrev cX4_valueOf : ByteArray := prog_6_method_4_code
def yX4_valueOf : MethodName := ⟨RX4, "valueOf", "(I)I"⟩
abbrev cX4_change : ByteArray := prog_6_method_5_code
def yX4_change : MethodName := ⟨RX4, "change", "(II)V"⟩
def RX5 : String := "RuleDepths$Rule"
def TX5 : u_T := fun k => match k with
  | 0 => ("RuleDepths$Rule", "event", "I", false)
  | 1 => ("RuleDepths$Rule", "moment", "I", false)
  | 2 => ("RuleDepths$Rule", "rank", "I", false)
  | 3 => ("RuleDepths$Rule", "kind", "I", false)
  | 4 => ("RuleDepths$Rule", "a", "I", false)
  | 5 => ("RuleDepths$Rule", "b", "I", false)
  | 6 => ("RuleDepths$Rule", "c", "I", false)
  | 7 => ("RuleDepths$Rule", "field", "I", false)
  | 8 => ("RuleDepths$Rule", "comparison", "I", false)
  | 9 => ("RuleDepths$Rule", "number", "I", false)
  | 10 => ("RuleDepths$Rule", "on", "Z", false)
  | _ => ("RuleDepths$Rule", "firings", "I", false)
def tyX5 : Nat → FieldType := fun k => match k with
  | 0 => .int
  | 1 => .int
  | 2 => .int
  | 3 => .int
  | 4 => .int
  | 5 => .int
  | 6 => .int
  | 7 => .int
  | 8 => .int
  | 9 => .int
  | 10 => .boolean
  | _ => .int
abbrev wsX50 : List Cond := u_ws RX5 TX5 12
theorem nmX5 : ∀ a, a < 12 → ∀ b, b < 12 → a ≠ b → (TX5 a).2.1 ≠ (TX5 b).2.1 := by decide +kernel
theorem tyX5_ok : ∀ k, k < 12 → parseFieldDescriptor (TX5 k).2.2.1 = some (tyX5 k) := by decide +kernel
abbrev cX5_init : ByteArray := prog_7_method_1_code
def yX5_init : MethodName := ⟨RX5, "<init>", "()V"⟩
abbrev cX5_define : ByteArray := prog_7_method_2_code
def yX5_define : MethodName := ⟨RX5, "define", "(IIIIIII)V"⟩
abbrev cX5_demand : ByteArray := prog_7_method_3_code
def yX5_demand : MethodName := ⟨RX5, "demand", "(III)V"⟩
abbrev cX5_copyFrom : ByteArray := prog_7_method_4_code
def yX5_copyFrom : MethodName := ⟨RX5, "copyFrom", "(LRuleDepths$Rule;)V"⟩
abbrev cX5_isFor : ByteArray := prog_7_method_5_code
def yX5_isFor : MethodName := ⟨RX5, "isFor", "(II)Z"⟩
abbrev cX5_holdsFor : ByteArray := prog_7_method_6_code
def yX5_holdsFor : MethodName := ⟨RX5, "holdsFor", "(LRuleDepths$Row;)Z"⟩
abbrev cX5_valueFor : ByteArray := prog_7_method_7_code
def yX5_valueFor : MethodName := ⟨RX5, "valueFor", "(LRuleDepths$Row;)I"⟩
abbrev cX5_tell : ByteArray := prog_7_method_8_code
def yX5_tell : MethodName := ⟨RX5, "tell", "(I)I"⟩
def RX6 : String := "RuleDepths$RuleList"
def TX6 : u_T := fun k => match k with
  | 0 => ("RuleDepths$RuleList", "rules", "[LRuleDepths$Rule;", true)
  | 1 => ("RuleDepths$RuleList", "numbersByRank", "[I", true)
  | _ => ("RuleDepths$RuleList", "count", "I", false)
def tyX6 : Nat → FieldType := fun k => match k with
  | 0 => .array (.object "RuleDepths$Rule")
  | 1 => .array .int
  | _ => .int
abbrev wsX60 : List Cond := u_ws RX6 TX6 3
theorem nmX6 : ∀ a, a < 3 → ∀ b, b < 3 → a ≠ b → (TX6 a).2.1 ≠ (TX6 b).2.1 := by decide +kernel
theorem tyX6_ok : ∀ k, k < 3 → parseFieldDescriptor (TX6 k).2.2.1 = some (tyX6 k) := by decide +kernel
abbrev cX6_init : ByteArray := prog_8_method_1_code
def yX6_init : MethodName := ⟨RX6, "<init>", "()V"⟩
abbrev cX6_ruleOf : ByteArray := prog_8_method_2_code
def yX6_ruleOf : MethodName := ⟨RX6, "ruleOf", "(I)LRuleDepths$Rule;"⟩
abbrev cX6_numberAt : ByteArray := prog_8_method_3_code
def yX6_numberAt : MethodName := ⟨RX6, "numberAt", "(I)I"⟩
abbrev cX6_numberAmong : ByteArray := prog_8_method_4_code
def yX6_numberAmong : MethodName := ⟨RX6, "numberAmong", "(III)I"⟩
abbrev cX6_countOn : ByteArray := prog_8_method_5_code
def yX6_countOn : MethodName := ⟨RX6, "countOn", "()I"⟩
abbrev cX6_spare : ByteArray := prog_8_method_6_code
def yX6_spare : MethodName := ⟨RX6, "spare", "()LRuleDepths$Rule;"⟩
abbrev cX6_takeSpare : ByteArray := prog_8_method_7_code
def yX6_takeSpare : MethodName := ⟨RX6, "takeSpare", "()I"⟩
abbrev cX6_drop : ByteArray := prog_8_method_8_code
def yX6_drop : MethodName := ⟨RX6, "drop", "(I)V"⟩
abbrev cX6_sortByRank : ByteArray := prog_8_method_9_code
def yX6_sortByRank : MethodName := ⟨RX6, "sortByRank", "()V"⟩
abbrev cX6_rankOf : ByteArray := prog_8_method_10_code
def yX6_rankOf : MethodName := ⟨RX6, "rankOf", "(I)I"⟩
abbrev cX6_copyFrom : ByteArray := prog_8_method_11_code
def yX6_copyFrom : MethodName := ⟨RX6, "copyFrom", "(LRuleDepths$RuleList;)V"⟩
def RX7 : String := "RuleDepths$State"
def TX7 : u_T := fun k => match k with
  | 0 => ("RuleDepths$State", "table", "LRuleDepths$Table;", true)
  | 1 => ("RuleDepths$State", "rules", "LRuleDepths$RuleList;", true)
  | 2 => ("RuleDepths$State", "record", "LRuleDepths$FiringLog;", true)
  | 3 => ("RuleDepths$State", "greatestDepth", "I", false)
  | 4 => ("RuleDepths$State", "guarding", "I", false)
  | 5 => ("RuleDepths$State", "statements", "I", false)
  | 6 => ("RuleDepths$State", "operations", "I", false)
  | 7 => ("RuleDepths$State", "firings", "I", false)
  | _ => ("RuleDepths$State", "deepest", "I", false)
def tyX7 : Nat → FieldType := fun k => match k with
  | 0 => .object "RuleDepths$Table"
  | 1 => .object "RuleDepths$RuleList"
  | 2 => .object "RuleDepths$FiringLog"
  | 3 => .int
  | 4 => .int
  | 5 => .int
  | 6 => .int
  | 7 => .int
  | _ => .int
abbrev wsX70 : List Cond := u_ws RX7 TX7 9
theorem nmX7 : ∀ a, a < 9 → ∀ b, b < 9 → a ≠ b → (TX7 a).2.1 ≠ (TX7 b).2.1 := by decide +kernel
theorem tyX7_ok : ∀ k, k < 9 → parseFieldDescriptor (TX7 k).2.2.1 = some (tyX7 k) := by decide +kernel
abbrev cX7_init : ByteArray := prog_9_method_1_code
def yX7_init : MethodName := ⟨RX7, "<init>", "()V"⟩
abbrev cX7_copyFrom : ByteArray := prog_9_method_2_code
def yX7_copyFrom : MethodName := ⟨RX7, "copyFrom", "(LRuleDepths$State;)V"⟩
abbrev cX7_tell : ByteArray := prog_9_method_3_code
def yX7_tell : MethodName := ⟨RX7, "tell", "(I)I"⟩
def RX8 : String := "RuleDepths$Table"
def TX8 : u_T := fun k => match k with
  | 0 => ("RuleDepths$Table", "rows", "[LRuleDepths$Row;", true)
  | _ => ("RuleDepths$Table", "count", "I", false)
def tyX8 : Nat → FieldType := fun k => match k with
  | 0 => .array (.object "RuleDepths$Row")
  | _ => .int
abbrev wsX80 : List Cond := u_ws RX8 TX8 2
theorem nmX8 : ∀ a, a < 2 → ∀ b, b < 2 → a ≠ b → (TX8 a).2.1 ≠ (TX8 b).2.1 := by decide +kernel
theorem tyX8_ok : ∀ k, k < 2 → parseFieldDescriptor (TX8 k).2.2.1 = some (tyX8 k) := by decide +kernel
abbrev cX8_init : ByteArray := prog_10_method_1_code
def yX8_init : MethodName := ⟨RX8, "<init>", "()V"⟩
abbrev cX8_isFull : ByteArray := prog_10_method_2_code
def yX8_isFull : MethodName := ⟨RX8, "isFull", "()Z"⟩
abbrev cX8_rowAt : ByteArray := prog_10_method_3_code
def yX8_rowAt : MethodName := ⟨RX8, "rowAt", "(I)LRuleDepths$Row;"⟩
abbrev cX8_rowOf : ByteArray := prog_10_method_4_code
def yX8_rowOf : MethodName := ⟨RX8, "rowOf", "(I)LRuleDepths$Row;"⟩
abbrev cX8_take : ByteArray := prog_10_method_5_code
def yX8_take : MethodName := ⟨RX8, "take", "(LRuleDepths$Row;)V"⟩
abbrev cX8_drop : ByteArray := prog_10_method_6_code
def yX8_drop : MethodName := ⟨RX8, "drop", "(I)V"⟩
abbrev cX8_copyFrom : ByteArray := prog_10_method_7_code
def yX8_copyFrom : MethodName := ⟨RX8, "copyFrom", "(LRuleDepths$Table;)V"⟩
def RX9 : String := "RuleDepths$Text"
def TX9 : u_T := fun k => match k with
  | 0 => ("RuleDepths$Text", "characters", "[C", true)
  | 1 => ("RuleDepths$Text", "length", "I", false)
  | 2 => ("RuleDepths$Text", "position", "I", false)
  | 3 => ("RuleDepths$Text", "faulty", "Z", false)
  | 4 => ("RuleDepths$Text", "event", "I", false)
  | 5 => ("RuleDepths$Text", "key", "I", false)
  | 6 => ("RuleDepths$Text", "field", "I", false)
  | 7 => ("RuleDepths$Text", "first", "I", false)
  | 8 => ("RuleDepths$Text", "second", "I", false)
  | _ => ("RuleDepths$Text", "third", "I", false)
def tyX9 : Nat → FieldType := fun k => match k with
  | 0 => .array .char
  | 1 => .int
  | 2 => .int
  | 3 => .boolean
  | 4 => .int
  | 5 => .int
  | 6 => .int
  | 7 => .int
  | 8 => .int
  | _ => .int
abbrev wsX90 : List Cond := u_ws RX9 TX9 10
theorem nmX9 : ∀ a, a < 10 → ∀ b, b < 10 → a ≠ b → (TX9 a).2.1 ≠ (TX9 b).2.1 := by decide +kernel
theorem tyX9_ok : ∀ k, k < 10 → parseFieldDescriptor (TX9 k).2.2.1 = some (tyX9 k) := by decide +kernel
abbrev cX9_init : ByteArray := prog_11_method_1_code
def yX9_init : MethodName := ⟨RX9, "<init>", "()V"⟩
abbrev cX9_append : ByteArray := prog_11_method_2_code
def yX9_append : MethodName := ⟨RX9, "append", "(C)Z"⟩
abbrev cX9_rewind : ByteArray := prog_11_method_3_code
def yX9_rewind : MethodName := ⟨RX9, "rewind", "()V"⟩
abbrev cX9_countStatements : ByteArray := prog_11_method_4_code
def yX9_countStatements : MethodName := ⟨RX9, "countStatements", "()I"⟩
abbrev cX9_readStatement : ByteArray := prog_11_method_5_code
def yX9_readStatement : MethodName := ⟨RX9, "readStatement", "()V"⟩
abbrev cX9_readInsert : ByteArray := prog_11_method_6_code
def yX9_readInsert : MethodName := ⟨RX9, "readInsert", "()V"⟩
abbrev cX9_readUpdate : ByteArray := prog_11_method_7_code
def yX9_readUpdate : MethodName := ⟨RX9, "readUpdate", "()V"⟩
abbrev cX9_readValue : ByteArray := prog_11_method_8_code
def yX9_readValue : MethodName := ⟨RX9, "readValue", "()I"⟩
abbrev cX9_readNumber : ByteArray := prog_11_method_9_code
def yX9_readNumber : MethodName := ⟨RX9, "readNumber", "(I)I"⟩
abbrev cX9_readDigit : ByteArray := prog_11_method_10_code
def yX9_readDigit : MethodName := ⟨RX9, "readDigit", "(I)I"⟩
abbrev cX9_isDigit : ByteArray := prog_11_method_11_code
def yX9_isDigit : MethodName := ⟨RX9, "isDigit", "(II)Z"⟩
abbrev cX9_pass : ByteArray := prog_11_method_12_code
def yX9_pass : MethodName := ⟨RX9, "pass", "(C)V"⟩
abbrev cX9_here : ByteArray := prog_11_method_13_code
def yX9_here : MethodName := ⟨RX9, "here", "()I"⟩
def RX10 : String := "RuleDepths"
def TX10 : u_T := fun k => match k with
  | 0 => ("RuleDepths", "engine", "LRuleDepths$Engine;", true)
  | 1 => ("RuleDepths", "before", "LRuleDepths$State;", true)
  | 2 => ("RuleDepths", "snapshot", "LRuleDepths$State;", true)
  | 3 => ("RuleDepths", "hasSnapshot", "Z", false)
  | 4 => ("RuleDepths", "history", "LRuleDepths$History;", true)
  | _ => ("RuleDepths", "text", "LRuleDepths$Text;", true)
def tyX10 : Nat → FieldType := fun k => match k with
  | 0 => .object "RuleDepths$Engine"
  | 1 => .object "RuleDepths$State"
  | 2 => .object "RuleDepths$State"
  | 3 => .boolean
  | 4 => .object "RuleDepths$History"
  | _ => .object "RuleDepths$Text"
abbrev wsX100 : List Cond := u_ws RX10 TX10 6
theorem nmX10 : ∀ a, a < 6 → ∀ b, b < 6 → a ≠ b → (TX10 a).2.1 ≠ (TX10 b).2.1 := by decide +kernel
theorem tyX10_ok : ∀ k, k < 6 → parseFieldDescriptor (TX10 k).2.2.1 = some (tyX10 k) := by decide +kernel
abbrev cX10_init : ByteArray := prog_1_method_1_code
def yX10_init : MethodName := ⟨RX10, "<init>", "()V"⟩
abbrev cX10_addRule : ByteArray := prog_1_method_2_code
def yX10_addRule : MethodName := ⟨RX10, "addRule", "(IIIIIII)I"⟩
abbrev cX10_setCondition : ByteArray := prog_1_method_3_code
def yX10_setCondition : MethodName := ⟨RX10, "setCondition", "(IIII)I"⟩
abbrev cX10_put : ByteArray := prog_1_method_4_code
def yX10_put : MethodName := ⟨RX10, "put", "(IZ)I"⟩
abbrev cX10_removeRule : ByteArray := prog_1_method_5_code
def yX10_removeRule : MethodName := ⟨RX10, "removeRule", "(I)I"⟩
abbrev cX10_set : ByteArray := prog_1_method_6_code
def yX10_set : MethodName := ⟨RX10, "set", "(II)I"⟩
abbrev cX10_insert : ByteArray := prog_1_method_7_code
def yX10_insert : MethodName := ⟨RX10, "insert", "(IIII)I"⟩
abbrev cX10_update : ByteArray := prog_1_method_8_code
def yX10_update : MethodName := ⟨RX10, "update", "(III)I"⟩
abbrev cX10_delete : ByteArray := prog_1_method_9_code
def yX10_delete : MethodName := ⟨RX10, "delete", "(I)I"⟩
abbrev cX10_type : ByteArray := prog_1_method_10_code
def yX10_type : MethodName := ⟨RX10, "type", "(C)I"⟩
abbrev cX10_clearText : ByteArray := prog_1_method_11_code
def yX10_clearText : MethodName := ⟨RX10, "clearText", "()I"⟩
abbrev cX10_perform : ByteArray := prog_1_method_12_code
def yX10_perform : MethodName := ⟨RX10, "perform", "()I"⟩
abbrev cX10_undo : ByteArray := prog_1_method_13_code
def yX10_undo : MethodName := ⟨RX10, "undo", "()I"⟩
abbrev cX10_keep : ByteArray := prog_1_method_14_code
def yX10_keep : MethodName := ⟨RX10, "keep", "()I"⟩
abbrev cX10_restore : ByteArray := prog_1_method_15_code
def yX10_restore : MethodName := ⟨RX10, "restore", "()I"⟩
abbrev cX10_field : ByteArray := prog_1_method_16_code
def yX10_field : MethodName := ⟨RX10, "field", "(II)I"⟩
abbrev cX10_keyAt : ByteArray := prog_1_method_17_code
def yX10_keyAt : MethodName := ⟨RX10, "keyAt", "(I)I"⟩
abbrev cX10_rule : ByteArray := prog_1_method_18_code
def yX10_rule : MethodName := ⟨RX10, "rule", "(II)I"⟩
abbrev cX10_order : ByteArray := prog_1_method_19_code
def yX10_order : MethodName := ⟨RX10, "order", "(III)I"⟩
abbrev cX10_firing : ByteArray := prog_1_method_20_code
def yX10_firing : MethodName := ⟨RX10, "firing", "(II)I"⟩
abbrev cX10_total : ByteArray := prog_1_method_21_code
def yX10_total : MethodName := ⟨RX10, "total", "(I)I"⟩
abbrev cX10_ifInserted : ByteArray := prog_1_method_22_code
def yX10_ifInserted : MethodName := ⟨RX10, "ifInserted", "(IIIII)I"⟩
abbrev cX10_ifUpdated : ByteArray := prog_1_method_23_code
def yX10_ifUpdated : MethodName := ⟨RX10, "ifUpdated", "(IIII)I"⟩
abbrev cX10_ifDeleted : ByteArray := prog_1_method_24_code
def yX10_ifDeleted : MethodName := ⟨RX10, "ifDeleted", "(II)I"⟩
abbrev cX10_depthFor : ByteArray := prog_1_method_25_code
def yX10_depthFor : MethodName := ⟨RX10, "depthFor", "(III)I"⟩
abbrev cX10_settle : ByteArray := prog_1_method_26_code
def yX10_settle : MethodName := ⟨RX10, "settle", "(I)I"⟩
abbrev cX10_performStatement : ByteArray := prog_1_method_27_code
def yX10_performStatement : MethodName := ⟨RX10, "performStatement", "()I"⟩
abbrev cX10_isReport : ByteArray := prog_1_method_28_code
def yX10_isReport : MethodName := ⟨RX10, "isReport", "(I)Z"⟩
abbrev cX10_isEvent : ByteArray := prog_1_method_29_code
def yX10_isEvent : MethodName := ⟨RX10, "isEvent", "(I)Z"⟩
abbrev cX10_isMoment : ByteArray := prog_1_method_30_code
def yX10_isMoment : MethodName := ⟨RX10, "isMoment", "(I)Z"⟩
abbrev cX10_isKindFor : ByteArray := prog_1_method_31_code
def yX10_isKindFor : MethodName := ⟨RX10, "isKindFor", "(II)Z"⟩
abbrev cX10_isValue : ByteArray := prog_1_method_32_code
def yX10_isValue : MethodName := ⟨RX10, "isValue", "(I)Z"⟩
abbrev cX10_within : ByteArray := prog_1_method_33_code
def yX10_within : MethodName := ⟨RX10, "within", "(III)Z"⟩
def RX11 : String := "RuleDepthsModel"
def TX11 : u_T := fun k => match k with
  | 0 => ("RuleDepthsModel", "s", "[I", true)
  | 1 => ("RuleDepthsModel", "before", "[I", true)
  | 2 => ("RuleDepthsModel", "known", "I", false)
  | 3 => ("RuleDepthsModel", "snap", "[I", true)
  | 4 => ("RuleDepthsModel", "isKept", "Z", false)
  | 5 => ("RuleDepthsModel", "text", "[I", true)
  | 6 => ("RuleDepthsModel", "length", "I", false)
  | 7 => ("RuleDepthsModel", "frame", "[I", true)
  | 8 => ("RuleDepthsModel", "operations", "I", false)
  | 9 => ("RuleDepthsModel", "fired", "I", false)
  | 10 => ("RuleDepthsModel", "deepest", "I", false)
  | 11 => ("RuleDepthsModel", "reason", "I", false)
  | _ => ("RuleDepthsModel", "refusing", "I", false)
def tyX11 : Nat → FieldType := fun k => match k with
  | 0 => .array .int
  | 1 => .array .int
  | 2 => .int
  | 3 => .array .int
  | 4 => .boolean
  | 5 => .array .int
  | 6 => .int
  | 7 => .array .int
  | 8 => .int
  | 9 => .int
  | 10 => .int
  | 11 => .int
  | _ => .int
abbrev wsX110 : List Cond := u_ws RX11 TX11 13
theorem nmX11 : ∀ a, a < 13 → ∀ b, b < 13 → a ≠ b → (TX11 a).2.1 ≠ (TX11 b).2.1 := by decide +kernel
theorem tyX11_ok : ∀ k, k < 13 → parseFieldDescriptor (TX11 k).2.2.1 = some (tyX11 k) := by decide +kernel
abbrev cX11_init : ByteArray := prog_13_method_1_code
def yX11_init : MethodName := ⟨RX11, "<init>", "()V"⟩
abbrev cX11_in : ByteArray := prog_13_method_3_code
def yX11_in : MethodName := ⟨RX11, "in", "(III)Z"⟩
abbrev cX11_isKey : ByteArray := prog_13_method_4_code
def yX11_isKey : MethodName := ⟨RX11, "isKey", "(I)Z"⟩
abbrev cX11_isValue : ByteArray := prog_13_method_5_code
def yX11_isValue : MethodName := ⟨RX11, "isValue", "(I)Z"⟩
abbrev cX11_isRule : ByteArray := prog_13_method_6_code
def yX11_isRule : MethodName := ⟨RX11, "isRule", "(I)Z"⟩
abbrev cX11_copies : ByteArray := prog_13_method_7_code
def yX11_copies : MethodName := ⟨RX11, "copies", "(II)V"⟩
abbrev cX11_remembers : ByteArray := prog_13_method_8_code
def yX11_remembers : MethodName := ⟨RX11, "remembers", "()V"⟩
abbrev cX11_lays : ByteArray := prog_13_method_9_code
def yX11_lays : MethodName := ⟨RX11, "lays", "()V"⟩
abbrev cX11_rowOf : ByteArray := prog_13_method_10_code
def yX11_rowOf : MethodName := ⟨RX11, "rowOf", "(II)I"⟩
abbrev cX11_ruleAt : ByteArray := prog_13_method_11_code
def yX11_ruleAt : MethodName := ⟨RX11, "ruleAt", "(II)I"⟩
abbrev cX11_isOf : ByteArray := prog_13_method_12_code
def yX11_isOf : MethodName := ⟨RX11, "isOf", "(IIII)Z"⟩
abbrev cX11_orderAt : ByteArray := prog_13_method_13_code
def yX11_orderAt : MethodName := ⟨RX11, "orderAt", "(IIII)I"⟩
abbrev cX11_image : ByteArray := prog_13_method_14_code
def yX11_image : MethodName := ⟨RX11, "image", "(II)I"⟩
abbrev cX11_asks : ByteArray := prog_13_method_15_code
def yX11_asks : MethodName := ⟨RX11, "asks", "(IIII)V"⟩
abbrev cX11_refuses : ByteArray := prog_13_method_16_code
def yX11_refuses : MethodName := ⟨RX11, "refuses", "(II)V"⟩
abbrev cX11_isNothing : ByteArray := prog_13_method_17_code
def yX11_isNothing : MethodName := ⟨RX11, "isNothing", "(IIII)Z"⟩
abbrev cX11_begins : ByteArray := prog_13_method_18_code
def yX11_begins : MethodName := ⟨RX11, "begins", "(IIII)Z"⟩
abbrev cX11_carriesOut : ByteArray := prog_13_method_19_code
def yX11_carriesOut : MethodName := ⟨RX11, "carriesOut", "(II)V"⟩
abbrev cX11_compares : ByteArray := prog_13_method_20_code
def yX11_compares : MethodName := ⟨RX11, "compares", "(III)Z"⟩
abbrev cX11_isFiring : ByteArray := prog_13_method_21_code
def yX11_isFiring : MethodName := ⟨RX11, "isFiring", "(II)Z"⟩
abbrev cX11_fires : ByteArray := prog_13_method_22_code
def yX11_fires : MethodName := ⟨RX11, "fires", "(III)Z"⟩
abbrev cX11_valueOf : ByteArray := prog_13_method_23_code
def yX11_valueOf : MethodName := ⟨RX11, "valueOf", "(III)I"⟩
abbrev cX11_counts : ByteArray := prog_13_method_24_code
def yX11_counts : MethodName := ⟨RX11, "counts", "(III)V"⟩
abbrev cX11_operates : ByteArray := prog_13_method_25_code
def yX11_operates : MethodName := ⟨RX11, "operates", "(IIII)Z"⟩
abbrev cX11_acts : ByteArray := prog_13_method_26_code
def yX11_acts : MethodName := ⟨RX11, "acts", "(III)I"⟩
abbrev cX11_goes : ByteArray := prog_13_method_27_code
def yX11_goes : MethodName := ⟨RX11, "goes", "(II)I"⟩
abbrev cX11_runs : ByteArray := prog_13_method_28_code
def yX11_runs : MethodName := ⟨RX11, "runs", "(III)V"⟩
abbrev cX11_whyNotInsert : ByteArray := prog_13_method_29_code
def yX11_whyNotInsert : MethodName := ⟨RX11, "whyNotInsert", "(II)I"⟩
abbrev cX11_whyNotUpdate : ByteArray := prog_13_method_30_code
def yX11_whyNotUpdate : MethodName := ⟨RX11, "whyNotUpdate", "(IIII)I"⟩
abbrev cX11_runsInsert : ByteArray := prog_13_method_31_code
def yX11_runsInsert : MethodName := ⟨RX11, "runsInsert", "(IIIII)V"⟩
abbrev cX11_runsUpdate : ByteArray := prog_13_method_32_code
def yX11_runsUpdate : MethodName := ⟨RX11, "runsUpdate", "(IIII)V"⟩
abbrev cX11_runsDelete : ByteArray := prog_13_method_33_code
def yX11_runsDelete : MethodName := ⟨RX11, "runsDelete", "(II)V"⟩
abbrev cX11_ends : ByteArray := prog_13_method_34_code
def yX11_ends : MethodName := ⟨RX11, "ends", "()I"⟩
abbrev cX11_whyNotInsertHere : ByteArray := prog_13_method_35_code
def yX11_whyNotInsertHere : MethodName := ⟨RX11, "whyNotInsertHere", "(IIII)I"⟩
abbrev cX11_whyNotUpdateHere : ByteArray := prog_13_method_36_code
def yX11_whyNotUpdateHere : MethodName := ⟨RX11, "whyNotUpdateHere", "(III)I"⟩
abbrev cX11_insert : ByteArray := prog_13_method_37_code
def yX11_insert : MethodName := ⟨RX11, "insert", "(IIII)I"⟩
abbrev cX11_update : ByteArray := prog_13_method_38_code
def yX11_update : MethodName := ⟨RX11, "update", "(III)I"⟩
abbrev cX11_delete : ByteArray := prog_13_method_39_code
def yX11_delete : MethodName := ⟨RX11, "delete", "(I)I"⟩
abbrev cX11_addRule : ByteArray := prog_13_method_40_code
def yX11_addRule : MethodName := ⟨RX11, "addRule", "(IIIIIII)I"⟩
abbrev cX11_setCondition : ByteArray := prog_13_method_41_code
def yX11_setCondition : MethodName := ⟨RX11, "setCondition", "(IIII)I"⟩
abbrev cX11_rulesOn : ByteArray := prog_13_method_42_code
def yX11_rulesOn : MethodName := ⟨RX11, "rulesOn", "()I"⟩
abbrev cX11_put : ByteArray := prog_13_method_43_code
def yX11_put : MethodName := ⟨RX11, "put", "(IZ)I"⟩
abbrev cX11_removeRule : ByteArray := prog_13_method_44_code
def yX11_removeRule : MethodName := ⟨RX11, "removeRule", "(I)I"⟩
abbrev cX11_set : ByteArray := prog_13_method_45_code
def yX11_set : MethodName := ⟨RX11, "set", "(II)I"⟩
abbrev cX11_type : ByteArray := prog_13_method_46_code
def yX11_type : MethodName := ⟨RX11, "type", "(C)I"⟩
abbrev cX11_clearText : ByteArray := prog_13_method_47_code
def yX11_clearText : MethodName := ⟨RX11, "clearText", "()I"⟩
abbrev cX11_sign : ByteArray := prog_13_method_48_code
def yX11_sign : MethodName := ⟨RX11, "sign", "(I)I"⟩
abbrev cX11_digit : ByteArray := prog_13_method_49_code
def yX11_digit : MethodName := ⟨RX11, "digit", "(I)I"⟩
abbrev cX11_numberEnd : ByteArray := prog_13_method_50_code
def yX11_numberEnd : MethodName := ⟨RX11, "numberEnd", "(II)I"⟩
abbrev cX11_valueEnd : ByteArray := prog_13_method_51_code
def yX11_valueEnd : MethodName := ⟨RX11, "valueEnd", "(I)I"⟩
abbrev cX11_behind : ByteArray := prog_13_method_52_code
def yX11_behind : MethodName := ⟨RX11, "behind", "(II)I"⟩
abbrev cX11_valueBehind : ByteArray := prog_13_method_53_code
def yX11_valueBehind : MethodName := ⟨RX11, "valueBehind", "(II)I"⟩
abbrev cX11_insertEnd : ByteArray := prog_13_method_54_code
def yX11_insertEnd : MethodName := ⟨RX11, "insertEnd", "(I)I"⟩
abbrev cX11_updateEnd : ByteArray := prog_13_method_55_code
def yX11_updateEnd : MethodName := ⟨RX11, "updateEnd", "(I)I"⟩
abbrev cX11_statementEnd : ByteArray := prog_13_method_56_code
def yX11_statementEnd : MethodName := ⟨RX11, "statementEnd", "(I)I"⟩
abbrev cX11_fault : ByteArray := prog_13_method_57_code
def yX11_fault : MethodName := ⟨RX11, "fault", "()I"⟩
abbrev cX11_numberAt : ByteArray := prog_13_method_58_code
def yX11_numberAt : MethodName := ⟨RX11, "numberAt", "(I)I"⟩
abbrev cX11_does : ByteArray := prog_13_method_59_code
def yX11_does : MethodName := ⟨RX11, "does", "(I)I"⟩
abbrev cX11_perform : ByteArray := prog_13_method_60_code
def yX11_perform : MethodName := ⟨RX11, "perform", "()I"⟩
abbrev cX11_undo : ByteArray := prog_13_method_61_code
def yX11_undo : MethodName := ⟨RX11, "undo", "()I"⟩
abbrev cX11_keep : ByteArray := prog_13_method_62_code
def yX11_keep : MethodName := ⟨RX11, "keep", "()I"⟩
abbrev cX11_restore : ByteArray := prog_13_method_63_code
def yX11_restore : MethodName := ⟨RX11, "restore", "()I"⟩
abbrev cX11_field : ByteArray := prog_13_method_64_code
def yX11_field : MethodName := ⟨RX11, "field", "(II)I"⟩
abbrev cX11_keyAt : ByteArray := prog_13_method_65_code
def yX11_keyAt : MethodName := ⟨RX11, "keyAt", "(I)I"⟩
abbrev cX11_rule : ByteArray := prog_13_method_66_code
def yX11_rule : MethodName := ⟨RX11, "rule", "(II)I"⟩
abbrev cX11_order : ByteArray := prog_13_method_67_code
def yX11_order : MethodName := ⟨RX11, "order", "(III)I"⟩
abbrev cX11_firing : ByteArray := prog_13_method_68_code
def yX11_firing : MethodName := ⟨RX11, "firing", "(II)I"⟩
abbrev cX11_total : ByteArray := prog_13_method_69_code
def yX11_total : MethodName := ⟨RX11, "total", "(I)I"⟩
abbrev cX11_told : ByteArray := prog_13_method_70_code
def yX11_told : MethodName := ⟨RX11, "told", "(I)I"⟩
abbrev cX11_ifInserted : ByteArray := prog_13_method_71_code
def yX11_ifInserted : MethodName := ⟨RX11, "ifInserted", "(IIIII)I"⟩
abbrev cX11_ifUpdated : ByteArray := prog_13_method_72_code
def yX11_ifUpdated : MethodName := ⟨RX11, "ifUpdated", "(IIII)I"⟩
abbrev cX11_ifDeleted : ByteArray := prog_13_method_73_code
def yX11_ifDeleted : MethodName := ⟨RX11, "ifDeleted", "(II)I"⟩
abbrev cX11_depthFor : ByteArray := prog_13_method_74_code
def yX11_depthFor : MethodName := ⟨RX11, "depthFor", "(III)I"⟩
def RL : String := "RuleDepthsLaw"
abbrev cL_law : ByteArray := code
def yL_law : MethodName := ⟨RL, "law", "([I)Z"⟩
abbrev vwCl : List vw_C := [(RX0, TX0, 8), (RX1, TX1, 4), (RX2, TX2, 2), (RX3, TX3, 3), (RX4, TX4, 4), (RX5, TX5, 12), (RX6, TX6, 3), (RX7, TX7, 9), (RX8, TX8, 2), (RX9, TX9, 10), (RX10, TX10, 6), (RX11, TX11, 13)]
end
section
theorem dX0_init_0 : decode cX0_init 0 = .ok (.aload_n 0, 1) := by decide +kernel
theorem dX0_init_1 : decode cX0_init 1 = .ok (.invokespecial 3, 3) := by decide +kernel
theorem dX0_init_4 : decode cX0_init 4 = .ok (.aload_n 0, 1) := by decide +kernel
theorem dX0_init_5 : decode cX0_init 5 = .ok (.new 9, 3) := by decide +kernel
theorem dX0_init_8 : decode cX0_init 8 = .ok (.dup, 1) := by decide +kernel
theorem dX0_init_9 : decode cX0_init 9 = .ok (.invokespecial 11, 3) := by decide +kernel
theorem dX0_init_12 : decode cX0_init 12 = .ok (.putfield 12, 3) := by decide +kernel
theorem dX0_init_15 : decode cX0_init 15 = .ok (.aload_n 0, 1) := by decide +kernel
theorem dX0_init_16 : decode cX0_init 16 = .ok (.bipush 12, 2) := by decide +kernel
theorem dX0_init_18 : decode cX0_init 18 = .ok (.newarray .boolean, 2) := by decide +kernel
theorem dX0_init_20 : decode cX0_init 20 = .ok (.putfield 18, 3) := by decide +kernel
theorem dX0_init_23 : decode cX0_init 23 = .ok (.aconst_null, 1) := by decide +kernel
theorem dX0_init_24 : decode cX0_init 24 = .ok (.astore_n 1, 1) := by decide +kernel
theorem dX0_init_25 : decode cX0_init 25 = .ok (.bipush 8, 2) := by decide +kernel
theorem dX0_init_27 : decode cX0_init 27 = .ok (.istore_n 2, 1) := by decide +kernel
theorem dX0_init_28 : decode cX0_init 28 = .ok (.iload_n 2, 1) := by decide +kernel
theorem dX0_init_29 : decode cX0_init 29 = .ok (.iconst 1, 1) := by decide +kernel
theorem dX0_init_30 : decode cX0_init 30 = .ok (.if_icmp .le 19, 3) := by decide +kernel
theorem dX0_init_33 : decode cX0_init 33 = .ok (.new 22, 3) := by decide +kernel
theorem dX0_init_36 : decode cX0_init 36 = .ok (.dup, 1) := by decide +kernel
theorem dX0_init_37 : decode cX0_init 37 = .ok (.iload_n 2, 1) := by decide +kernel
theorem dX0_init_38 : decode cX0_init 38 = .ok (.aload_n 1, 1) := by decide +kernel
theorem dX0_init_39 : decode cX0_init 39 = .ok (.invokespecial 24, 3) := by decide +kernel
theorem dX0_init_42 : decode cX0_init 42 = .ok (.astore_n 1, 1) := by decide +kernel
theorem dX0_init_43 : decode cX0_init 43 = .ok (.iinc 2 (-1), 3) := by decide +kernel
theorem dX0_init_46 : decode cX0_init 46 = .ok (.goto (-18), 3) := by decide +kernel
theorem dX0_init_49 : decode cX0_init 49 = .ok (.aload_n 0, 1) := by decide +kernel
theorem dX0_init_50 : decode cX0_init 50 = .ok (.new 22, 3) := by decide +kernel
theorem dX0_init_53 : decode cX0_init 53 = .ok (.dup, 1) := by decide +kernel
theorem dX0_init_54 : decode cX0_init 54 = .ok (.iconst 1, 1) := by decide +kernel
theorem dX0_init_55 : decode cX0_init 55 = .ok (.aload_n 1, 1) := by decide +kernel
theorem dX0_init_56 : decode cX0_init 56 = .ok (.invokespecial 24, 3) := by decide +kernel
theorem dX0_init_59 : decode cX0_init 59 = .ok (.putfield 27, 3) := by decide +kernel
theorem dX0_init_62 : decode cX0_init 62 = .ok (.return_, 1) := by decide +kernel
theorem dX0_insertFault_0 : decode cX0_insertFault 0 = .ok (.iload_n 1, 1) := by decide +kernel
theorem dX0_insertFault_1 : decode cX0_insertFault 1 = .ok (.iconst 0, 1) := by decide +kernel
theorem dX0_insertFault_2 : decode cX0_insertFault 2 = .ok (.bipush 99, 2) := by decide +kernel
theorem dX0_insertFault_4 : decode cX0_insertFault 4 = .ok (.invokestatic 31, 3) := by decide +kernel
theorem dX0_insertFault_7 : decode cX0_insertFault 7 = .ok (.ifCond .eq 25, 3) := by decide +kernel
theorem dX0_insertFault_10 : decode cX0_insertFault 10 = .ok (.iload_n 2, 1) := by decide +kernel
theorem dX0_insertFault_11 : decode cX0_insertFault 11 = .ok (.invokestatic 35, 3) := by decide +kernel
theorem dX0_insertFault_14 : decode cX0_insertFault 14 = .ok (.ifCond .eq 18, 3) := by decide +kernel
theorem dX0_insertFault_17 : decode cX0_insertFault 17 = .ok (.iload_n 3, 1) := by decide +kernel
theorem dX0_insertFault_18 : decode cX0_insertFault 18 = .ok (.invokestatic 35, 3) := by decide +kernel
theorem dX0_insertFault_21 : decode cX0_insertFault 21 = .ok (.ifCond .eq 11, 3) := by decide +kernel
theorem dX0_insertFault_24 : decode cX0_insertFault 24 = .ok (.iload 4, 2) := by decide +kernel
theorem dX0_insertFault_26 : decode cX0_insertFault 26 = .ok (.invokestatic 35, 3) := by decide +kernel
theorem dX0_insertFault_29 : decode cX0_insertFault 29 = .ok (.ifCond .ne 7, 3) := by decide +kernel
theorem dX0_insertFault_32 : decode cX0_insertFault 32 = .ok (.sipush (-1002), 3) := by decide +kernel
theorem dX0_insertFault_35 : decode cX0_insertFault 35 = .ok (.ireturn, 1) := by decide +kernel
theorem dX0_insertFault_36 : decode cX0_insertFault 36 = .ok (.aload_n 0, 1) := by decide +kernel
theorem dX0_insertFault_37 : decode cX0_insertFault 37 = .ok (.getfield 12, 3) := by decide +kernel
theorem dX0_insertFault_40 : decode cX0_insertFault 40 = .ok (.getfield 39, 3) := by decide +kernel
theorem dX0_insertFault_43 : decode cX0_insertFault 43 = .ok (.iload_n 1, 1) := by decide +kernel
theorem dX0_insertFault_44 : decode cX0_insertFault 44 = .ok (.invokevirtual 43, 3) := by decide +kernel
theorem dX0_insertFault_47 : decode cX0_insertFault 47 = .ok (.ifnull 7, 3) := by decide +kernel
theorem dX0_insertFault_50 : decode cX0_insertFault 50 = .ok (.sipush (-1004), 3) := by decide +kernel
theorem dX0_insertFault_53 : decode cX0_insertFault 53 = .ok (.ireturn, 1) := by decide +kernel
theorem dX0_insertFault_54 : decode cX0_insertFault 54 = .ok (.aload_n 0, 1) := by decide +kernel
theorem dX0_insertFault_55 : decode cX0_insertFault 55 = .ok (.getfield 12, 3) := by decide +kernel
theorem dX0_insertFault_58 : decode cX0_insertFault 58 = .ok (.getfield 39, 3) := by decide +kernel
theorem dX0_insertFault_61 : decode cX0_insertFault 61 = .ok (.invokevirtual 49, 3) := by decide +kernel
theorem dX0_insertFault_64 : decode cX0_insertFault 64 = .ok (.ifCond .eq 9, 3) := by decide +kernel
theorem dX0_insertFault_67 : decode cX0_insertFault 67 = .ok (.sipush (-1003), 3) := by decide +kernel
theorem dX0_insertFault_70 : decode cX0_insertFault 70 = .ok (.goto 4, 3) := by decide +kernel
theorem dX0_insertFault_73 : decode cX0_insertFault 73 = .ok (.iconst 0, 1) := by decide +kernel
theorem dX0_insertFault_74 : decode cX0_insertFault 74 = .ok (.ireturn, 1) := by decide +kernel
theorem dX0_updateFault_0 : decode cX0_updateFault 0 = .ok (.aload_n 0, 1) := by decide +kernel
theorem dX0_updateFault_1 : decode cX0_updateFault 1 = .ok (.getfield 12, 3) := by decide +kernel
theorem dX0_updateFault_4 : decode cX0_updateFault 4 = .ok (.getfield 39, 3) := by decide +kernel
theorem dX0_updateFault_7 : decode cX0_updateFault 7 = .ok (.iload_n 1, 1) := by decide +kernel
theorem dX0_updateFault_8 : decode cX0_updateFault 8 = .ok (.invokevirtual 43, 3) := by decide +kernel
theorem dX0_updateFault_11 : decode cX0_updateFault 11 = .ok (.astore 4, 2) := by decide +kernel
theorem dX0_updateFault_13 : decode cX0_updateFault 13 = .ok (.aload 4, 2) := by decide +kernel
theorem dX0_updateFault_15 : decode cX0_updateFault 15 = .ok (.ifnonnull 7, 3) := by decide +kernel
theorem dX0_updateFault_18 : decode cX0_updateFault 18 = .ok (.sipush (-1001), 3) := by decide +kernel
theorem dX0_updateFault_21 : decode cX0_updateFault 21 = .ok (.ireturn, 1) := by decide +kernel
theorem dX0_updateFault_22 : decode cX0_updateFault 22 = .ok (.iload_n 2, 1) := by decide +kernel
theorem dX0_updateFault_23 : decode cX0_updateFault 23 = .ok (.iconst 0, 1) := by decide +kernel
theorem dX0_updateFault_24 : decode cX0_updateFault 24 = .ok (.iconst 2, 1) := by decide +kernel
theorem dX0_updateFault_25 : decode cX0_updateFault 25 = .ok (.invokestatic 31, 3) := by decide +kernel
theorem dX0_updateFault_28 : decode cX0_updateFault 28 = .ok (.ifCond .eq 10, 3) := by decide +kernel
theorem dX0_updateFault_31 : decode cX0_updateFault 31 = .ok (.iload_n 3, 1) := by decide +kernel
theorem dX0_updateFault_32 : decode cX0_updateFault 32 = .ok (.invokestatic 35, 3) := by decide +kernel
theorem dX0_updateFault_35 : decode cX0_updateFault 35 = .ok (.ifCond .ne 7, 3) := by decide +kernel
theorem dX0_updateFault_38 : decode cX0_updateFault 38 = .ok (.sipush (-1002), 3) := by decide +kernel
theorem dX0_updateFault_41 : decode cX0_updateFault 41 = .ok (.ireturn, 1) := by decide +kernel
theorem dX0_updateFault_42 : decode cX0_updateFault 42 = .ok (.aload 4, 2) := by decide +kernel
theorem dX0_updateFault_44 : decode cX0_updateFault 44 = .ok (.iload_n 2, 1) := by decide +kernel
theorem dX0_updateFault_45 : decode cX0_updateFault 45 = .ok (.invokevirtual 53, 3) := by decide +kernel
theorem dX0_updateFault_48 : decode cX0_updateFault 48 = .ok (.iload_n 3, 1) := by decide +kernel
theorem dX0_updateFault_49 : decode cX0_updateFault 49 = .ok (.if_icmp .ne 9, 3) := by decide +kernel
theorem dX0_updateFault_52 : decode cX0_updateFault 52 = .ok (.sipush (-1006), 3) := by decide +kernel
theorem dX0_updateFault_55 : decode cX0_updateFault 55 = .ok (.goto 4, 3) := by decide +kernel
theorem dX0_updateFault_58 : decode cX0_updateFault 58 = .ok (.iconst 0, 1) := by decide +kernel
theorem dX0_updateFault_59 : decode cX0_updateFault 59 = .ok (.ireturn, 1) := by decide +kernel
theorem dX0_deleteFault_0 : decode cX0_deleteFault 0 = .ok (.aload_n 0, 1) := by decide +kernel
theorem dX0_deleteFault_1 : decode cX0_deleteFault 1 = .ok (.getfield 12, 3) := by decide +kernel
theorem dX0_deleteFault_4 : decode cX0_deleteFault 4 = .ok (.getfield 39, 3) := by decide +kernel
theorem dX0_deleteFault_7 : decode cX0_deleteFault 7 = .ok (.iload_n 1, 1) := by decide +kernel
theorem dX0_deleteFault_8 : decode cX0_deleteFault 8 = .ok (.invokevirtual 43, 3) := by decide +kernel
theorem dX0_deleteFault_11 : decode cX0_deleteFault 11 = .ok (.ifnonnull 9, 3) := by decide +kernel
theorem dX0_deleteFault_14 : decode cX0_deleteFault 14 = .ok (.sipush (-1001), 3) := by decide +kernel
theorem dX0_deleteFault_17 : decode cX0_deleteFault 17 = .ok (.goto 4, 3) := by decide +kernel
theorem dX0_deleteFault_20 : decode cX0_deleteFault 20 = .ok (.iconst 0, 1) := by decide +kernel
theorem dX0_deleteFault_21 : decode cX0_deleteFault 21 = .ok (.ireturn, 1) := by decide +kernel
theorem dX0_runInsert_0 : decode cX0_runInsert 0 = .ok (.aload_n 0, 1) := by decide +kernel
theorem dX0_runInsert_1 : decode cX0_runInsert 1 = .ok (.iload_n 1, 1) := by decide +kernel
theorem dX0_runInsert_2 : decode cX0_runInsert 2 = .ok (.iload_n 2, 1) := by decide +kernel
theorem dX0_runInsert_3 : decode cX0_runInsert 3 = .ok (.iload_n 3, 1) := by decide +kernel
theorem dX0_runInsert_4 : decode cX0_runInsert 4 = .ok (.iload 4, 2) := by decide +kernel
theorem dX0_runInsert_6 : decode cX0_runInsert 6 = .ok (.invokevirtual 59, 3) := by decide +kernel
theorem dX0_runInsert_9 : decode cX0_runInsert 9 = .ok (.istore 5, 2) := by decide +kernel
theorem dX0_runInsert_11 : decode cX0_runInsert 11 = .ok (.iload 5, 2) := by decide +kernel
theorem dX0_runInsert_13 : decode cX0_runInsert 13 = .ok (.ifCond .eq 6, 3) := by decide +kernel
theorem dX0_runInsert_16 : decode cX0_runInsert 16 = .ok (.iload 5, 2) := by decide +kernel
theorem dX0_runInsert_18 : decode cX0_runInsert 18 = .ok (.ireturn, 1) := by decide +kernel
theorem dX0_runInsert_19 : decode cX0_runInsert 19 = .ok (.aload_n 0, 1) := by decide +kernel
theorem dX0_runInsert_20 : decode cX0_runInsert 20 = .ok (.getfield 27, 3) := by decide +kernel
theorem dX0_runInsert_23 : decode cX0_runInsert 23 = .ok (.getfield 63, 3) := by decide +kernel
theorem dX0_runInsert_26 : decode cX0_runInsert 26 = .ok (.iload_n 1, 1) := by decide +kernel
theorem dX0_runInsert_27 : decode cX0_runInsert 27 = .ok (.iload_n 2, 1) := by decide +kernel
theorem dX0_runInsert_28 : decode cX0_runInsert 28 = .ok (.iload_n 3, 1) := by decide +kernel
theorem dX0_runInsert_29 : decode cX0_runInsert 29 = .ok (.iload 4, 2) := by decide +kernel
theorem dX0_runInsert_31 : decode cX0_runInsert 31 = .ok (.invokevirtual 67, 3) := by decide +kernel
theorem dX0_runInsert_34 : decode cX0_runInsert 34 = .ok (.aload_n 0, 1) := by decide +kernel
theorem dX0_runInsert_35 : decode cX0_runInsert 35 = .ok (.iconst 0, 1) := by decide +kernel
theorem dX0_runInsert_36 : decode cX0_runInsert 36 = .ok (.invokevirtual 71, 3) := by decide +kernel
theorem dX0_runInsert_39 : decode cX0_runInsert 39 = .ok (.ireturn, 1) := by decide +kernel
theorem dX0_runUpdate_0 : decode cX0_runUpdate 0 = .ok (.aload_n 0, 1) := by decide +kernel
theorem dX0_runUpdate_1 : decode cX0_runUpdate 1 = .ok (.iload_n 1, 1) := by decide +kernel
theorem dX0_runUpdate_2 : decode cX0_runUpdate 2 = .ok (.iload_n 2, 1) := by decide +kernel
theorem dX0_runUpdate_3 : decode cX0_runUpdate 3 = .ok (.iload_n 3, 1) := by decide +kernel
theorem dX0_runUpdate_4 : decode cX0_runUpdate 4 = .ok (.invokevirtual 74, 3) := by decide +kernel
theorem dX0_runUpdate_7 : decode cX0_runUpdate 7 = .ok (.istore 4, 2) := by decide +kernel
theorem dX0_runUpdate_9 : decode cX0_runUpdate 9 = .ok (.iload 4, 2) := by decide +kernel
theorem dX0_runUpdate_11 : decode cX0_runUpdate 11 = .ok (.ifCond .eq 6, 3) := by decide +kernel
theorem dX0_runUpdate_14 : decode cX0_runUpdate 14 = .ok (.iload 4, 2) := by decide +kernel
theorem dX0_runUpdate_16 : decode cX0_runUpdate 16 = .ok (.ireturn, 1) := by decide +kernel
theorem dX0_runUpdate_17 : decode cX0_runUpdate 17 = .ok (.aload_n 0, 1) := by decide +kernel
theorem dX0_runUpdate_18 : decode cX0_runUpdate 18 = .ok (.aload_n 0, 1) := by decide +kernel
theorem dX0_runUpdate_19 : decode cX0_runUpdate 19 = .ok (.getfield 27, 3) := by decide +kernel
theorem dX0_runUpdate_22 : decode cX0_runUpdate 22 = .ok (.getfield 63, 3) := by decide +kernel
theorem dX0_runUpdate_25 : decode cX0_runUpdate 25 = .ok (.iload_n 1, 1) := by decide +kernel
theorem dX0_runUpdate_26 : decode cX0_runUpdate 26 = .ok (.iload_n 2, 1) := by decide +kernel
theorem dX0_runUpdate_27 : decode cX0_runUpdate 27 = .ok (.iload_n 3, 1) := by decide +kernel
theorem dX0_runUpdate_28 : decode cX0_runUpdate 28 = .ok (.invokevirtual 78, 3) := by decide +kernel
theorem dX0_runUpdate_31 : decode cX0_runUpdate 31 = .ok (.pop, 1) := by decide +kernel
theorem dX0_runUpdate_32 : decode cX0_runUpdate 32 = .ok (.aload_n 0, 1) := by decide +kernel
theorem dX0_runUpdate_33 : decode cX0_runUpdate 33 = .ok (.iconst 1, 1) := by decide +kernel
theorem dX0_runUpdate_34 : decode cX0_runUpdate 34 = .ok (.invokevirtual 71, 3) := by decide +kernel
theorem dX0_runUpdate_37 : decode cX0_runUpdate 37 = .ok (.ireturn, 1) := by decide +kernel
theorem dX0_runDelete_0 : decode cX0_runDelete 0 = .ok (.aload_n 0, 1) := by decide +kernel
theorem dX0_runDelete_1 : decode cX0_runDelete 1 = .ok (.iload_n 1, 1) := by decide +kernel
theorem dX0_runDelete_2 : decode cX0_runDelete 2 = .ok (.invokevirtual 82, 3) := by decide +kernel
theorem dX0_runDelete_5 : decode cX0_runDelete 5 = .ok (.istore_n 2, 1) := by decide +kernel
theorem dX0_runDelete_6 : decode cX0_runDelete 6 = .ok (.iload_n 2, 1) := by decide +kernel
theorem dX0_runDelete_7 : decode cX0_runDelete 7 = .ok (.ifCond .eq 5, 3) := by decide +kernel
theorem dX0_runDelete_10 : decode cX0_runDelete 10 = .ok (.iload_n 2, 1) := by decide +kernel
theorem dX0_runDelete_11 : decode cX0_runDelete 11 = .ok (.ireturn, 1) := by decide +kernel
theorem dX0_runDelete_12 : decode cX0_runDelete 12 = .ok (.aload_n 0, 1) := by decide +kernel
theorem dX0_runDelete_13 : decode cX0_runDelete 13 = .ok (.aload_n 0, 1) := by decide +kernel
theorem dX0_runDelete_14 : decode cX0_runDelete 14 = .ok (.getfield 27, 3) := by decide +kernel
theorem dX0_runDelete_17 : decode cX0_runDelete 17 = .ok (.getfield 63, 3) := by decide +kernel
theorem dX0_runDelete_20 : decode cX0_runDelete 20 = .ok (.iload_n 1, 1) := by decide +kernel
theorem dX0_runDelete_21 : decode cX0_runDelete 21 = .ok (.invokevirtual 85, 3) := by decide +kernel
theorem dX0_runDelete_24 : decode cX0_runDelete 24 = .ok (.pop, 1) := by decide +kernel
theorem dX0_runDelete_25 : decode cX0_runDelete 25 = .ok (.aload_n 0, 1) := by decide +kernel
theorem dX0_runDelete_26 : decode cX0_runDelete 26 = .ok (.iconst 2, 1) := by decide +kernel
theorem dX0_runDelete_27 : decode cX0_runDelete 27 = .ok (.invokevirtual 71, 3) := by decide +kernel
theorem dX0_runDelete_30 : decode cX0_runDelete 30 = .ok (.ireturn, 1) := by decide +kernel
theorem dX0_run_0 : decode cX0_run 0 = .ok (.aload_n 0, 1) := by decide +kernel
theorem dX0_run_1 : decode cX0_run 1 = .ok (.invokevirtual 89, 3) := by decide +kernel
theorem dX0_run_4 : decode cX0_run 4 = .ok (.aload_n 0, 1) := by decide +kernel
theorem dX0_run_5 : decode cX0_run 5 = .ok (.iload_n 1, 1) := by decide +kernel
theorem dX0_run_6 : decode cX0_run 6 = .ok (.aload_n 0, 1) := by decide +kernel
theorem dX0_run_7 : decode cX0_run 7 = .ok (.getfield 27, 3) := by decide +kernel
theorem dX0_run_10 : decode cX0_run 10 = .ok (.sipush (-1006), 3) := by decide +kernel
theorem dX0_run_13 : decode cX0_run 13 = .ok (.invokevirtual 92, 3) := by decide +kernel
theorem dX0_run_16 : decode cX0_run 16 = .ok (.aload_n 0, 1) := by decide +kernel
theorem dX0_run_17 : decode cX0_run 17 = .ok (.getfield 96, 3) := by decide +kernel
theorem dX0_run_20 : decode cX0_run 20 = .ok (.ifCond .eq 7, 3) := by decide +kernel
theorem dX0_run_23 : decode cX0_run 23 = .ok (.sipush (-1005), 3) := by decide +kernel
theorem dX0_run_26 : decode cX0_run 26 = .ok (.ireturn, 1) := by decide +kernel
theorem dX0_run_27 : decode cX0_run 27 = .ok (.aload_n 0, 1) := by decide +kernel
theorem dX0_run_28 : decode cX0_run 28 = .ok (.getfield 12, 3) := by decide +kernel
theorem dX0_run_31 : decode cX0_run 31 = .ok (.dup, 1) := by decide +kernel
theorem dX0_run_32 : decode cX0_run 32 = .ok (.getfield 100, 3) := by decide +kernel
theorem dX0_run_35 : decode cX0_run 35 = .ok (.iconst 1, 1) := by decide +kernel
theorem dX0_run_36 : decode cX0_run 36 = .ok (.iadd, 1) := by decide +kernel
theorem dX0_run_37 : decode cX0_run 37 = .ok (.putfield 100, 3) := by decide +kernel
theorem dX0_run_40 : decode cX0_run 40 = .ok (.aload_n 0, 1) := by decide +kernel
theorem dX0_run_41 : decode cX0_run 41 = .ok (.getfield 12, 3) := by decide +kernel
theorem dX0_run_44 : decode cX0_run 44 = .ok (.dup, 1) := by decide +kernel
theorem dX0_run_45 : decode cX0_run 45 = .ok (.getfield 103, 3) := by decide +kernel
theorem dX0_run_48 : decode cX0_run 48 = .ok (.aload_n 0, 1) := by decide +kernel
theorem dX0_run_49 : decode cX0_run 49 = .ok (.getfield 106, 3) := by decide +kernel
theorem dX0_run_52 : decode cX0_run 52 = .ok (.iadd, 1) := by decide +kernel
theorem dX0_run_53 : decode cX0_run 53 = .ok (.putfield 103, 3) := by decide +kernel
theorem dX0_run_56 : decode cX0_run 56 = .ok (.aload_n 0, 1) := by decide +kernel
theorem dX0_run_57 : decode cX0_run 57 = .ok (.getfield 12, 3) := by decide +kernel
theorem dX0_run_60 : decode cX0_run 60 = .ok (.dup, 1) := by decide +kernel
theorem dX0_run_61 : decode cX0_run 61 = .ok (.getfield 107, 3) := by decide +kernel
theorem dX0_run_64 : decode cX0_run 64 = .ok (.aload_n 0, 1) := by decide +kernel
theorem dX0_run_65 : decode cX0_run 65 = .ok (.getfield 110, 3) := by decide +kernel
theorem dX0_run_68 : decode cX0_run 68 = .ok (.iadd, 1) := by decide +kernel
theorem dX0_run_69 : decode cX0_run 69 = .ok (.putfield 107, 3) := by decide +kernel
theorem dX0_run_72 : decode cX0_run 72 = .ok (.aload_n 0, 1) := by decide +kernel
theorem dX0_run_73 : decode cX0_run 73 = .ok (.getfield 12, 3) := by decide +kernel
theorem dX0_run_76 : decode cX0_run 76 = .ok (.aload_n 0, 1) := by decide +kernel
theorem dX0_run_77 : decode cX0_run 77 = .ok (.getfield 12, 3) := by decide +kernel
theorem dX0_run_80 : decode cX0_run 80 = .ok (.getfield 111, 3) := by decide +kernel
theorem dX0_run_83 : decode cX0_run 83 = .ok (.aload_n 0, 1) := by decide +kernel
theorem dX0_run_84 : decode cX0_run 84 = .ok (.getfield 114, 3) := by decide +kernel
theorem dX0_run_87 : decode cX0_run 87 = .ok (.invokestatic 115, 3) := by decide +kernel
theorem dX0_run_90 : decode cX0_run 90 = .ok (.putfield 111, 3) := by decide +kernel
theorem dX0_run_93 : decode cX0_run 93 = .ok (.aload_n 0, 1) := by decide +kernel
theorem dX0_run_94 : decode cX0_run 94 = .ok (.getfield 106, 3) := by decide +kernel
theorem dX0_run_97 : decode cX0_run 97 = .ok (.ireturn, 1) := by decide +kernel
theorem dX0_report_0 : decode cX0_report 0 = .ok (.iload_n 1, 1) := by decide +kernel
theorem dX0_report_1 : decode cX0_report 1 = .ok (.tableswitch 51 0 3 #[31, 36, 41, 46], 31) := by decide +kernel
theorem dX0_report_32 : decode cX0_report 32 = .ok (.aload_n 0, 1) := by decide +kernel
theorem dX0_report_33 : decode cX0_report 33 = .ok (.getfield 96, 3) := by decide +kernel
theorem dX0_report_36 : decode cX0_report 36 = .ok (.ireturn, 1) := by decide +kernel
theorem dX0_report_37 : decode cX0_report 37 = .ok (.aload_n 0, 1) := by decide +kernel
theorem dX0_report_38 : decode cX0_report 38 = .ok (.getfield 121, 3) := by decide +kernel
theorem dX0_report_41 : decode cX0_report 41 = .ok (.ireturn, 1) := by decide +kernel
theorem dX0_report_42 : decode cX0_report 42 = .ok (.aload_n 0, 1) := by decide +kernel
theorem dX0_report_43 : decode cX0_report 43 = .ok (.getfield 106, 3) := by decide +kernel
theorem dX0_report_46 : decode cX0_report 46 = .ok (.ireturn, 1) := by decide +kernel
theorem dX0_report_47 : decode cX0_report 47 = .ok (.aload_n 0, 1) := by decide +kernel
theorem dX0_report_48 : decode cX0_report 48 = .ok (.getfield 110, 3) := by decide +kernel
theorem dX0_report_51 : decode cX0_report 51 = .ok (.ireturn, 1) := by decide +kernel
theorem dX0_report_52 : decode cX0_report 52 = .ok (.aload_n 0, 1) := by decide +kernel
theorem dX0_report_53 : decode cX0_report 53 = .ok (.getfield 114, 3) := by decide +kernel
theorem dX0_report_56 : decode cX0_report 56 = .ok (.ireturn, 1) := by decide +kernel
theorem dX0_begin_0 : decode cX0_begin 0 = .ok (.aload_n 0, 1) := by decide +kernel
theorem dX0_begin_1 : decode cX0_begin 1 = .ok (.getfield 12, 3) := by decide +kernel
theorem dX0_begin_4 : decode cX0_begin 4 = .ok (.getfield 124, 3) := by decide +kernel
theorem dX0_begin_7 : decode cX0_begin 7 = .ok (.iconst 0, 1) := by decide +kernel
theorem dX0_begin_8 : decode cX0_begin 8 = .ok (.putfield 128, 3) := by decide +kernel
theorem dX0_begin_11 : decode cX0_begin 11 = .ok (.aload_n 0, 1) := by decide +kernel
theorem dX0_begin_12 : decode cX0_begin 12 = .ok (.iconst 0, 1) := by decide +kernel
theorem dX0_begin_13 : decode cX0_begin 13 = .ok (.putfield 106, 3) := by decide +kernel
theorem dX0_begin_16 : decode cX0_begin 16 = .ok (.aload_n 0, 1) := by decide +kernel
theorem dX0_begin_17 : decode cX0_begin 17 = .ok (.iconst 0, 1) := by decide +kernel
theorem dX0_begin_18 : decode cX0_begin 18 = .ok (.putfield 110, 3) := by decide +kernel
theorem dX0_begin_21 : decode cX0_begin 21 = .ok (.aload_n 0, 1) := by decide +kernel
theorem dX0_begin_22 : decode cX0_begin 22 = .ok (.iconst 0, 1) := by decide +kernel
theorem dX0_begin_23 : decode cX0_begin 23 = .ok (.putfield 114, 3) := by decide +kernel
theorem dX0_begin_26 : decode cX0_begin 26 = .ok (.aload_n 0, 1) := by decide +kernel
theorem dX0_begin_27 : decode cX0_begin 27 = .ok (.iconst 0, 1) := by decide +kernel
theorem dX0_begin_28 : decode cX0_begin 28 = .ok (.putfield 96, 3) := by decide +kernel
theorem dX0_begin_31 : decode cX0_begin 31 = .ok (.aload_n 0, 1) := by decide +kernel
theorem dX0_begin_32 : decode cX0_begin 32 = .ok (.sipush (-1006), 3) := by decide +kernel
theorem dX0_begin_35 : decode cX0_begin 35 = .ok (.putfield 121, 3) := by decide +kernel
theorem dX0_begin_38 : decode cX0_begin 38 = .ok (.return_, 1) := by decide +kernel
theorem dX0_canTake_0 : decode cX0_canTake 0 = .ok (.iload_n 1, 1) := by decide +kernel
theorem dX0_canTake_1 : decode cX0_canTake 1 = .ok (.iconst 0, 1) := by decide +kernel
theorem dX0_canTake_2 : decode cX0_canTake 2 = .ok (.bipush 99, 2) := by decide +kernel
theorem dX0_canTake_4 : decode cX0_canTake 4 = .ok (.invokestatic 31, 3) := by decide +kernel
theorem dX0_canTake_7 : decode cX0_canTake 7 = .ok (.ifCond .eq 34, 3) := by decide +kernel
theorem dX0_canTake_10 : decode cX0_canTake 10 = .ok (.aload_n 0, 1) := by decide +kernel
theorem dX0_canTake_11 : decode cX0_canTake 11 = .ok (.getfield 12, 3) := by decide +kernel
theorem dX0_canTake_14 : decode cX0_canTake 14 = .ok (.getfield 39, 3) := by decide +kernel
theorem dX0_canTake_17 : decode cX0_canTake 17 = .ok (.iload_n 1, 1) := by decide +kernel
theorem dX0_canTake_18 : decode cX0_canTake 18 = .ok (.invokevirtual 43, 3) := by decide +kernel
theorem dX0_canTake_21 : decode cX0_canTake 21 = .ok (.ifnonnull 20, 3) := by decide +kernel
theorem dX0_canTake_24 : decode cX0_canTake 24 = .ok (.aload_n 0, 1) := by decide +kernel
theorem dX0_canTake_25 : decode cX0_canTake 25 = .ok (.getfield 12, 3) := by decide +kernel
theorem dX0_canTake_28 : decode cX0_canTake 28 = .ok (.getfield 39, 3) := by decide +kernel
theorem dX0_canTake_31 : decode cX0_canTake 31 = .ok (.invokevirtual 49, 3) := by decide +kernel
theorem dX0_canTake_34 : decode cX0_canTake 34 = .ok (.ifCond .ne 7, 3) := by decide +kernel
theorem dX0_canTake_37 : decode cX0_canTake 37 = .ok (.iconst 1, 1) := by decide +kernel
theorem dX0_canTake_38 : decode cX0_canTake 38 = .ok (.goto 4, 3) := by decide +kernel
theorem dX0_canTake_41 : decode cX0_canTake 41 = .ok (.iconst 0, 1) := by decide +kernel
theorem dX0_canTake_42 : decode cX0_canTake 42 = .ok (.ireturn, 1) := by decide +kernel
theorem dX0_prepareUpdate_0 : decode cX0_prepareUpdate 0 = .ok (.aload_n 0, 1) := by decide +kernel
theorem dX0_prepareUpdate_1 : decode cX0_prepareUpdate 1 = .ok (.getfield 12, 3) := by decide +kernel
theorem dX0_prepareUpdate_4 : decode cX0_prepareUpdate 4 = .ok (.getfield 39, 3) := by decide +kernel
theorem dX0_prepareUpdate_7 : decode cX0_prepareUpdate 7 = .ok (.iload_n 2, 1) := by decide +kernel
theorem dX0_prepareUpdate_8 : decode cX0_prepareUpdate 8 = .ok (.invokevirtual 43, 3) := by decide +kernel
theorem dX0_prepareUpdate_11 : decode cX0_prepareUpdate 11 = .ok (.astore 5, 2) := by decide +kernel
theorem dX0_prepareUpdate_13 : decode cX0_prepareUpdate 13 = .ok (.aload 5, 2) := by decide +kernel
theorem dX0_prepareUpdate_15 : decode cX0_prepareUpdate 15 = .ok (.ifnull 14, 3) := by decide +kernel
theorem dX0_prepareUpdate_18 : decode cX0_prepareUpdate 18 = .ok (.aload 5, 2) := by decide +kernel
theorem dX0_prepareUpdate_20 : decode cX0_prepareUpdate 20 = .ok (.iload_n 3, 1) := by decide +kernel
theorem dX0_prepareUpdate_21 : decode cX0_prepareUpdate 21 = .ok (.invokevirtual 53, 3) := by decide +kernel
theorem dX0_prepareUpdate_24 : decode cX0_prepareUpdate 24 = .ok (.iload 4, 2) := by decide +kernel
theorem dX0_prepareUpdate_26 : decode cX0_prepareUpdate 26 = .ok (.if_icmp .ne 5, 3) := by decide +kernel
theorem dX0_prepareUpdate_29 : decode cX0_prepareUpdate 29 = .ok (.iconst 0, 1) := by decide +kernel
theorem dX0_prepareUpdate_30 : decode cX0_prepareUpdate 30 = .ok (.ireturn, 1) := by decide +kernel
theorem dX0_prepareUpdate_31 : decode cX0_prepareUpdate 31 = .ok (.aload_n 1, 1) := by decide +kernel
theorem dX0_prepareUpdate_32 : decode cX0_prepareUpdate 32 = .ok (.aload 5, 2) := by decide +kernel
theorem dX0_prepareUpdate_34 : decode cX0_prepareUpdate 34 = .ok (.invokevirtual 133, 3) := by decide +kernel
theorem dX0_prepareUpdate_37 : decode cX0_prepareUpdate 37 = .ok (.aload_n 1, 1) := by decide +kernel
theorem dX0_prepareUpdate_38 : decode cX0_prepareUpdate 38 = .ok (.iload_n 3, 1) := by decide +kernel
theorem dX0_prepareUpdate_39 : decode cX0_prepareUpdate 39 = .ok (.iload 4, 2) := by decide +kernel
theorem dX0_prepareUpdate_41 : decode cX0_prepareUpdate 41 = .ok (.invokevirtual 137, 3) := by decide +kernel
theorem dX0_prepareUpdate_44 : decode cX0_prepareUpdate 44 = .ok (.iconst 1, 1) := by decide +kernel
theorem dX0_prepareUpdate_45 : decode cX0_prepareUpdate 45 = .ok (.ireturn, 1) := by decide +kernel
theorem dX0_prepareDelete_0 : decode cX0_prepareDelete 0 = .ok (.aload_n 0, 1) := by decide +kernel
theorem dX0_prepareDelete_1 : decode cX0_prepareDelete 1 = .ok (.getfield 12, 3) := by decide +kernel
theorem dX0_prepareDelete_4 : decode cX0_prepareDelete 4 = .ok (.getfield 39, 3) := by decide +kernel
theorem dX0_prepareDelete_7 : decode cX0_prepareDelete 7 = .ok (.iload_n 2, 1) := by decide +kernel
theorem dX0_prepareDelete_8 : decode cX0_prepareDelete 8 = .ok (.invokevirtual 43, 3) := by decide +kernel
theorem dX0_prepareDelete_11 : decode cX0_prepareDelete 11 = .ok (.astore_n 3, 1) := by decide +kernel
theorem dX0_prepareDelete_12 : decode cX0_prepareDelete 12 = .ok (.aload_n 3, 1) := by decide +kernel
theorem dX0_prepareDelete_13 : decode cX0_prepareDelete 13 = .ok (.ifnonnull 5, 3) := by decide +kernel
theorem dX0_prepareDelete_16 : decode cX0_prepareDelete 16 = .ok (.iconst 0, 1) := by decide +kernel
theorem dX0_prepareDelete_17 : decode cX0_prepareDelete 17 = .ok (.ireturn, 1) := by decide +kernel
theorem dX0_prepareDelete_18 : decode cX0_prepareDelete 18 = .ok (.aload_n 1, 1) := by decide +kernel
theorem dX0_prepareDelete_19 : decode cX0_prepareDelete 19 = .ok (.aload_n 3, 1) := by decide +kernel
theorem dX0_prepareDelete_20 : decode cX0_prepareDelete 20 = .ok (.invokevirtual 133, 3) := by decide +kernel
theorem dX0_prepareDelete_23 : decode cX0_prepareDelete 23 = .ok (.iconst 1, 1) := by decide +kernel
theorem dX0_prepareDelete_24 : decode cX0_prepareDelete 24 = .ok (.ireturn, 1) := by decide +kernel
theorem dX0_prepareCaused_0 : decode cX0_prepareCaused 0 = .ok (.aload_n 1, 1) := by decide +kernel
theorem dX0_prepareCaused_1 : decode cX0_prepareCaused 1 = .ok (.aload_n 2, 1) := by decide +kernel
theorem dX0_prepareCaused_2 : decode cX0_prepareCaused 2 = .ok (.invokevirtual 141, 3) := by decide +kernel
theorem dX0_prepareCaused_5 : decode cX0_prepareCaused 5 = .ok (.istore 4, 2) := by decide +kernel
theorem dX0_prepareCaused_7 : decode cX0_prepareCaused 7 = .ok (.aload_n 1, 1) := by decide +kernel
theorem dX0_prepareCaused_8 : decode cX0_prepareCaused 8 = .ok (.getfield 147, 3) := by decide +kernel
theorem dX0_prepareCaused_11 : decode cX0_prepareCaused 11 = .ok (.lookupswitch 74 #[(3, 25), (4, 43)], 25) := by decide +kernel
theorem dX0_prepareCaused_36 : decode cX0_prepareCaused 36 = .ok (.aload_n 3, 1) := by decide +kernel
theorem dX0_prepareCaused_37 : decode cX0_prepareCaused 37 = .ok (.aload_n 2, 1) := by decide +kernel
theorem dX0_prepareCaused_38 : decode cX0_prepareCaused 38 = .ok (.invokevirtual 133, 3) := by decide +kernel
theorem dX0_prepareCaused_41 : decode cX0_prepareCaused 41 = .ok (.aload_n 3, 1) := by decide +kernel
theorem dX0_prepareCaused_42 : decode cX0_prepareCaused 42 = .ok (.iload 4, 2) := by decide +kernel
theorem dX0_prepareCaused_44 : decode cX0_prepareCaused 44 = .ok (.putfield 150, 3) := by decide +kernel
theorem dX0_prepareCaused_47 : decode cX0_prepareCaused 47 = .ok (.aload_n 0, 1) := by decide +kernel
theorem dX0_prepareCaused_48 : decode cX0_prepareCaused 48 = .ok (.iload 4, 2) := by decide +kernel
theorem dX0_prepareCaused_50 : decode cX0_prepareCaused 50 = .ok (.invokevirtual 153, 3) := by decide +kernel
theorem dX0_prepareCaused_53 : decode cX0_prepareCaused 53 = .ok (.ireturn, 1) := by decide +kernel
theorem dX0_prepareCaused_54 : decode cX0_prepareCaused 54 = .ok (.aload_n 0, 1) := by decide +kernel
theorem dX0_prepareCaused_55 : decode cX0_prepareCaused 55 = .ok (.aload_n 3, 1) := by decide +kernel
theorem dX0_prepareCaused_56 : decode cX0_prepareCaused 56 = .ok (.aload_n 2, 1) := by decide +kernel
theorem dX0_prepareCaused_57 : decode cX0_prepareCaused 57 = .ok (.getfield 150, 3) := by decide +kernel
theorem dX0_prepareCaused_60 : decode cX0_prepareCaused 60 = .ok (.bipush 99, 2) := by decide +kernel
theorem dX0_prepareCaused_62 : decode cX0_prepareCaused 62 = .ok (.if_icmp .ne 7, 3) := by decide +kernel
theorem dX0_prepareCaused_65 : decode cX0_prepareCaused 65 = .ok (.iconst 0, 1) := by decide +kernel
theorem dX0_prepareCaused_66 : decode cX0_prepareCaused 66 = .ok (.goto 9, 3) := by decide +kernel
theorem dX0_prepareCaused_69 : decode cX0_prepareCaused 69 = .ok (.aload_n 2, 1) := by decide +kernel
theorem dX0_prepareCaused_70 : decode cX0_prepareCaused 70 = .ok (.getfield 150, 3) := by decide +kernel
theorem dX0_prepareCaused_73 : decode cX0_prepareCaused 73 = .ok (.iconst 1, 1) := by decide +kernel
theorem dX0_prepareCaused_74 : decode cX0_prepareCaused 74 = .ok (.iadd, 1) := by decide +kernel
theorem dX0_prepareCaused_75 : decode cX0_prepareCaused 75 = .ok (.aload_n 1, 1) := by decide +kernel
theorem dX0_prepareCaused_76 : decode cX0_prepareCaused 76 = .ok (.getfield 156, 3) := by decide +kernel
theorem dX0_prepareCaused_79 : decode cX0_prepareCaused 79 = .ok (.iload 4, 2) := by decide +kernel
theorem dX0_prepareCaused_81 : decode cX0_prepareCaused 81 = .ok (.invokevirtual 78, 3) := by decide +kernel
theorem dX0_prepareCaused_84 : decode cX0_prepareCaused 84 = .ok (.ireturn, 1) := by decide +kernel
theorem dX0_prepareCaused_85 : decode cX0_prepareCaused 85 = .ok (.aload_n 0, 1) := by decide +kernel
theorem dX0_prepareCaused_86 : decode cX0_prepareCaused 86 = .ok (.aload_n 3, 1) := by decide +kernel
theorem dX0_prepareCaused_87 : decode cX0_prepareCaused 87 = .ok (.iload 4, 2) := by decide +kernel
theorem dX0_prepareCaused_89 : decode cX0_prepareCaused 89 = .ok (.invokevirtual 85, 3) := by decide +kernel
theorem dX0_prepareCaused_92 : decode cX0_prepareCaused 92 = .ok (.ireturn, 1) := by decide +kernel
theorem dX0_operate_0 : decode cX0_operate 0 = .ok (.aload_n 0, 1) := by decide +kernel
theorem dX0_operate_1 : decode cX0_operate 1 = .ok (.getfield 106, 3) := by decide +kernel
theorem dX0_operate_4 : decode cX0_operate 4 = .ok (.bipush 100, 2) := by decide +kernel
theorem dX0_operate_6 : decode cX0_operate 6 = .ok (.if_icmp .lt 10, 3) := by decide +kernel
theorem dX0_operate_9 : decode cX0_operate 9 = .ok (.aload_n 0, 1) := by decide +kernel
theorem dX0_operate_10 : decode cX0_operate 10 = .ok (.iconst 3, 1) := by decide +kernel
theorem dX0_operate_11 : decode cX0_operate 11 = .ok (.iload_n 3, 1) := by decide +kernel
theorem dX0_operate_12 : decode cX0_operate 12 = .ok (.invokevirtual 159, 3) := by decide +kernel
theorem dX0_operate_15 : decode cX0_operate 15 = .ok (.return_, 1) := by decide +kernel
theorem dX0_operate_16 : decode cX0_operate 16 = .ok (.aload_n 0, 1) := by decide +kernel
theorem dX0_operate_17 : decode cX0_operate 17 = .ok (.dup, 1) := by decide +kernel
theorem dX0_operate_18 : decode cX0_operate 18 = .ok (.getfield 106, 3) := by decide +kernel
theorem dX0_operate_21 : decode cX0_operate 21 = .ok (.iconst 1, 1) := by decide +kernel
theorem dX0_operate_22 : decode cX0_operate 22 = .ok (.iadd, 1) := by decide +kernel
theorem dX0_operate_23 : decode cX0_operate 23 = .ok (.putfield 106, 3) := by decide +kernel
theorem dX0_operate_26 : decode cX0_operate 26 = .ok (.aload_n 0, 1) := by decide +kernel
theorem dX0_operate_27 : decode cX0_operate 27 = .ok (.aload_n 0, 1) := by decide +kernel
theorem dX0_operate_28 : decode cX0_operate 28 = .ok (.getfield 114, 3) := by decide +kernel
theorem dX0_operate_31 : decode cX0_operate 31 = .ok (.aload_n 2, 1) := by decide +kernel
theorem dX0_operate_32 : decode cX0_operate 32 = .ok (.getfield 162, 3) := by decide +kernel
theorem dX0_operate_35 : decode cX0_operate 35 = .ok (.invokestatic 115, 3) := by decide +kernel
theorem dX0_operate_38 : decode cX0_operate 38 = .ok (.putfield 114, 3) := by decide +kernel
theorem dX0_operate_41 : decode cX0_operate 41 = .ok (.aload_n 0, 1) := by decide +kernel
theorem dX0_operate_42 : decode cX0_operate 42 = .ok (.iload_n 1, 1) := by decide +kernel
theorem dX0_operate_43 : decode cX0_operate 43 = .ok (.iconst 0, 1) := by decide +kernel
theorem dX0_operate_44 : decode cX0_operate 44 = .ok (.aload_n 2, 1) := by decide +kernel
theorem dX0_operate_45 : decode cX0_operate 45 = .ok (.invokevirtual 165, 3) := by decide +kernel
theorem dX0_operate_48 : decode cX0_operate 48 = .ok (.ifCond .ne 4, 3) := by decide +kernel
theorem dX0_operate_51 : decode cX0_operate 51 = .ok (.return_, 1) := by decide +kernel
theorem dX0_operate_52 : decode cX0_operate 52 = .ok (.aload_n 0, 1) := by decide +kernel
theorem dX0_operate_53 : decode cX0_operate 53 = .ok (.iload_n 1, 1) := by decide +kernel
theorem dX0_operate_54 : decode cX0_operate 54 = .ok (.aload_n 2, 1) := by decide +kernel
theorem dX0_operate_55 : decode cX0_operate 55 = .ok (.getfield 63, 3) := by decide +kernel
theorem dX0_operate_58 : decode cX0_operate 58 = .ok (.invokevirtual 169, 3) := by decide +kernel
theorem dX0_operate_61 : decode cX0_operate 61 = .ok (.aload_n 0, 1) := by decide +kernel
theorem dX0_operate_62 : decode cX0_operate 62 = .ok (.iload_n 1, 1) := by decide +kernel
theorem dX0_operate_63 : decode cX0_operate 63 = .ok (.iconst 1, 1) := by decide +kernel
theorem dX0_operate_64 : decode cX0_operate 64 = .ok (.aload_n 2, 1) := by decide +kernel
theorem dX0_operate_65 : decode cX0_operate 65 = .ok (.invokevirtual 165, 3) := by decide +kernel
theorem dX0_operate_68 : decode cX0_operate 68 = .ok (.pop, 1) := by decide +kernel
theorem dX0_operate_69 : decode cX0_operate 69 = .ok (.return_, 1) := by decide +kernel
theorem dX0_carryOut_0 : decode cX0_carryOut 0 = .ok (.iload_n 1, 1) := by decide +kernel
theorem dX0_carryOut_1 : decode cX0_carryOut 1 = .ok (.lookupswitch 68 #[(0, 27), (1, 41)], 27) := by decide +kernel
theorem dX0_carryOut_28 : decode cX0_carryOut 28 = .ok (.aload_n 0, 1) := by decide +kernel
theorem dX0_carryOut_29 : decode cX0_carryOut 29 = .ok (.getfield 12, 3) := by decide +kernel
theorem dX0_carryOut_32 : decode cX0_carryOut 32 = .ok (.getfield 39, 3) := by decide +kernel
theorem dX0_carryOut_35 : decode cX0_carryOut 35 = .ok (.aload_n 2, 1) := by decide +kernel
theorem dX0_carryOut_36 : decode cX0_carryOut 36 = .ok (.invokevirtual 173, 3) := by decide +kernel
theorem dX0_carryOut_39 : decode cX0_carryOut 39 = .ok (.goto 44, 3) := by decide +kernel
theorem dX0_carryOut_42 : decode cX0_carryOut 42 = .ok (.aload_n 0, 1) := by decide +kernel
theorem dX0_carryOut_43 : decode cX0_carryOut 43 = .ok (.getfield 12, 3) := by decide +kernel
theorem dX0_carryOut_46 : decode cX0_carryOut 46 = .ok (.getfield 39, 3) := by decide +kernel
theorem dX0_carryOut_49 : decode cX0_carryOut 49 = .ok (.aload_n 2, 1) := by decide +kernel
theorem dX0_carryOut_50 : decode cX0_carryOut 50 = .ok (.getfield 150, 3) := by decide +kernel
theorem dX0_carryOut_53 : decode cX0_carryOut 53 = .ok (.invokevirtual 43, 3) := by decide +kernel
theorem dX0_carryOut_56 : decode cX0_carryOut 56 = .ok (.astore_n 3, 1) := by decide +kernel
theorem dX0_carryOut_57 : decode cX0_carryOut 57 = .ok (.aload_n 3, 1) := by decide +kernel
theorem dX0_carryOut_58 : decode cX0_carryOut 58 = .ok (.ifnull 25, 3) := by decide +kernel
theorem dX0_carryOut_61 : decode cX0_carryOut 61 = .ok (.aload_n 3, 1) := by decide +kernel
theorem dX0_carryOut_62 : decode cX0_carryOut 62 = .ok (.aload_n 2, 1) := by decide +kernel
theorem dX0_carryOut_63 : decode cX0_carryOut 63 = .ok (.invokevirtual 133, 3) := by decide +kernel
theorem dX0_carryOut_66 : decode cX0_carryOut 66 = .ok (.goto 17, 3) := by decide +kernel
theorem dX0_carryOut_69 : decode cX0_carryOut 69 = .ok (.aload_n 0, 1) := by decide +kernel
theorem dX0_carryOut_70 : decode cX0_carryOut 70 = .ok (.getfield 12, 3) := by decide +kernel
theorem dX0_carryOut_73 : decode cX0_carryOut 73 = .ok (.getfield 39, 3) := by decide +kernel
theorem dX0_carryOut_76 : decode cX0_carryOut 76 = .ok (.aload_n 2, 1) := by decide +kernel
theorem dX0_carryOut_77 : decode cX0_carryOut 77 = .ok (.getfield 150, 3) := by decide +kernel
theorem dX0_carryOut_80 : decode cX0_carryOut 80 = .ok (.invokevirtual 176, 3) := by decide +kernel
theorem dX0_carryOut_83 : decode cX0_carryOut 83 = .ok (.return_, 1) := by decide +kernel
theorem dX0_fireRules_0 : decode cX0_fireRules 0 = .ok (.aload_n 0, 1) := by decide +kernel
theorem dX0_fireRules_1 : decode cX0_fireRules 1 = .ok (.getfield 12, 3) := by decide +kernel
theorem dX0_fireRules_4 : decode cX0_fireRules 4 = .ok (.getfield 180, 3) := by decide +kernel
theorem dX0_fireRules_7 : decode cX0_fireRules 7 = .ok (.astore 4, 2) := by decide +kernel
theorem dX0_fireRules_9 : decode cX0_fireRules 9 = .ok (.iconst 0, 1) := by decide +kernel
theorem dX0_fireRules_10 : decode cX0_fireRules 10 = .ok (.istore 5, 2) := by decide +kernel
theorem dX0_fireRules_12 : decode cX0_fireRules 12 = .ok (.iload 5, 2) := by decide +kernel
theorem dX0_fireRules_14 : decode cX0_fireRules 14 = .ok (.aload 4, 2) := by decide +kernel
theorem dX0_fireRules_16 : decode cX0_fireRules 16 = .ok (.getfield 184, 3) := by decide +kernel
theorem dX0_fireRules_19 : decode cX0_fireRules 19 = .ok (.if_icmp .ge 92, 3) := by decide +kernel
theorem dX0_fireRules_22 : decode cX0_fireRules 22 = .ok (.iload 5, 2) := by decide +kernel
theorem dX0_fireRules_24 : decode cX0_fireRules 24 = .ok (.bipush 12, 2) := by decide +kernel
theorem dX0_fireRules_26 : decode cX0_fireRules 26 = .ok (.if_icmp .ge 85, 3) := by decide +kernel
theorem dX0_fireRules_29 : decode cX0_fireRules 29 = .ok (.aload 4, 2) := by decide +kernel
theorem dX0_fireRules_31 : decode cX0_fireRules 31 = .ok (.iload 5, 2) := by decide +kernel
theorem dX0_fireRules_33 : decode cX0_fireRules 33 = .ok (.invokevirtual 187, 3) := by decide +kernel
theorem dX0_fireRules_36 : decode cX0_fireRules 36 = .ok (.istore 6, 2) := by decide +kernel
theorem dX0_fireRules_38 : decode cX0_fireRules 38 = .ok (.aload 4, 2) := by decide +kernel
theorem dX0_fireRules_40 : decode cX0_fireRules 40 = .ok (.iload 6, 2) := by decide +kernel
theorem dX0_fireRules_42 : decode cX0_fireRules 42 = .ok (.invokevirtual 190, 3) := by decide +kernel
theorem dX0_fireRules_45 : decode cX0_fireRules 45 = .ok (.astore 7, 2) := by decide +kernel
theorem dX0_fireRules_47 : decode cX0_fireRules 47 = .ok (.aload 7, 2) := by decide +kernel
theorem dX0_fireRules_49 : decode cX0_fireRules 49 = .ok (.ifnull 56, 3) := by decide +kernel
theorem dX0_fireRules_52 : decode cX0_fireRules 52 = .ok (.aload 7, 2) := by decide +kernel
theorem dX0_fireRules_54 : decode cX0_fireRules 54 = .ok (.getfield 194, 3) := by decide +kernel
theorem dX0_fireRules_57 : decode cX0_fireRules 57 = .ok (.ifCond .eq 48, 3) := by decide +kernel
theorem dX0_fireRules_60 : decode cX0_fireRules 60 = .ok (.aload 7, 2) := by decide +kernel
theorem dX0_fireRules_62 : decode cX0_fireRules 62 = .ok (.iload_n 1, 1) := by decide +kernel
theorem dX0_fireRules_63 : decode cX0_fireRules 63 = .ok (.iload_n 2, 1) := by decide +kernel
theorem dX0_fireRules_64 : decode cX0_fireRules 64 = .ok (.invokevirtual 198, 3) := by decide +kernel
theorem dX0_fireRules_67 : decode cX0_fireRules 67 = .ok (.ifCond .eq 38, 3) := by decide +kernel
theorem dX0_fireRules_70 : decode cX0_fireRules 70 = .ok (.aload_n 0, 1) := by decide +kernel
theorem dX0_fireRules_71 : decode cX0_fireRules 71 = .ok (.iload 6, 2) := by decide +kernel
theorem dX0_fireRules_73 : decode cX0_fireRules 73 = .ok (.invokevirtual 202, 3) := by decide +kernel
theorem dX0_fireRules_76 : decode cX0_fireRules 76 = .ok (.ifCond .ne 29, 3) := by decide +kernel
theorem dX0_fireRules_79 : decode cX0_fireRules 79 = .ok (.aload 7, 2) := by decide +kernel
theorem dX0_fireRules_81 : decode cX0_fireRules 81 = .ok (.aload_n 3, 1) := by decide +kernel
theorem dX0_fireRules_82 : decode cX0_fireRules 82 = .ok (.getfield 63, 3) := by decide +kernel
theorem dX0_fireRules_85 : decode cX0_fireRules 85 = .ok (.invokevirtual 205, 3) := by decide +kernel
theorem dX0_fireRules_88 : decode cX0_fireRules 88 = .ok (.ifCond .eq 17, 3) := by decide +kernel
theorem dX0_fireRules_91 : decode cX0_fireRules 91 = .ok (.aload_n 0, 1) := by decide +kernel
theorem dX0_fireRules_92 : decode cX0_fireRules 92 = .ok (.iload 6, 2) := by decide +kernel
theorem dX0_fireRules_94 : decode cX0_fireRules 94 = .ok (.aload 7, 2) := by decide +kernel
theorem dX0_fireRules_96 : decode cX0_fireRules 96 = .ok (.aload_n 3, 1) := by decide +kernel
theorem dX0_fireRules_97 : decode cX0_fireRules 97 = .ok (.invokevirtual 209, 3) := by decide +kernel
theorem dX0_fireRules_100 : decode cX0_fireRules 100 = .ok (.ifCond .ne 5, 3) := by decide +kernel
theorem dX0_fireRules_103 : decode cX0_fireRules 103 = .ok (.iconst 0, 1) := by decide +kernel
theorem dX0_fireRules_104 : decode cX0_fireRules 104 = .ok (.ireturn, 1) := by decide +kernel
theorem dX0_fireRules_105 : decode cX0_fireRules 105 = .ok (.iinc 5 1, 3) := by decide +kernel
theorem dX0_fireRules_108 : decode cX0_fireRules 108 = .ok (.goto (-96), 3) := by decide +kernel
theorem dX0_fireRules_111 : decode cX0_fireRules 111 = .ok (.iconst 1, 1) := by decide +kernel
theorem dX0_fireRules_112 : decode cX0_fireRules 112 = .ok (.ireturn, 1) := by decide +kernel
theorem dX0_fire_0 : decode cX0_fire 0 = .ok (.aload_n 0, 1) := by decide +kernel
theorem dX0_fire_1 : decode cX0_fire 1 = .ok (.dup, 1) := by decide +kernel
theorem dX0_fire_2 : decode cX0_fire 2 = .ok (.getfield 110, 3) := by decide +kernel
theorem dX0_fire_5 : decode cX0_fire 5 = .ok (.iconst 1, 1) := by decide +kernel
theorem dX0_fire_6 : decode cX0_fire 6 = .ok (.iadd, 1) := by decide +kernel
theorem dX0_fire_7 : decode cX0_fire 7 = .ok (.putfield 110, 3) := by decide +kernel
theorem dX0_fire_10 : decode cX0_fire 10 = .ok (.aload_n 2, 1) := by decide +kernel
theorem dX0_fire_11 : decode cX0_fire 11 = .ok (.dup, 1) := by decide +kernel
theorem dX0_fire_12 : decode cX0_fire 12 = .ok (.getfield 213, 3) := by decide +kernel
theorem dX0_fire_15 : decode cX0_fire 15 = .ok (.iconst 1, 1) := by decide +kernel
theorem dX0_fire_16 : decode cX0_fire 16 = .ok (.iadd, 1) := by decide +kernel
theorem dX0_fire_17 : decode cX0_fire 17 = .ok (.putfield 213, 3) := by decide +kernel
theorem dX0_fire_20 : decode cX0_fire 20 = .ok (.aload_n 0, 1) := by decide +kernel
theorem dX0_fire_21 : decode cX0_fire 21 = .ok (.getfield 12, 3) := by decide +kernel
theorem dX0_fire_24 : decode cX0_fire 24 = .ok (.getfield 124, 3) := by decide +kernel
theorem dX0_fire_27 : decode cX0_fire 27 = .ok (.iload_n 1, 1) := by decide +kernel
theorem dX0_fire_28 : decode cX0_fire 28 = .ok (.aload_n 3, 1) := by decide +kernel
theorem dX0_fire_29 : decode cX0_fire 29 = .ok (.getfield 162, 3) := by decide +kernel
theorem dX0_fire_32 : decode cX0_fire 32 = .ok (.aload_n 3, 1) := by decide +kernel
theorem dX0_fire_33 : decode cX0_fire 33 = .ok (.getfield 63, 3) := by decide +kernel
theorem dX0_fire_36 : decode cX0_fire 36 = .ok (.getfield 150, 3) := by decide +kernel
theorem dX0_fire_39 : decode cX0_fire 39 = .ok (.invokevirtual 214, 3) := by decide +kernel
theorem dX0_fire_42 : decode cX0_fire 42 = .ok (.aload_n 2, 1) := by decide +kernel
theorem dX0_fire_43 : decode cX0_fire 43 = .ok (.getfield 147, 3) := by decide +kernel
theorem dX0_fire_46 : decode cX0_fire 46 = .ok (.tableswitch 57 0 2 #[26, 49, 47], 26) := by decide +kernel
theorem dX0_fire_72 : decode cX0_fire 72 = .ok (.aload_n 3, 1) := by decide +kernel
theorem dX0_fire_73 : decode cX0_fire 73 = .ok (.getfield 63, 3) := by decide +kernel
theorem dX0_fire_76 : decode cX0_fire 76 = .ok (.aload_n 2, 1) := by decide +kernel
theorem dX0_fire_77 : decode cX0_fire 77 = .ok (.getfield 156, 3) := by decide +kernel
theorem dX0_fire_80 : decode cX0_fire 80 = .ok (.aload_n 2, 1) := by decide +kernel
theorem dX0_fire_81 : decode cX0_fire 81 = .ok (.aload_n 3, 1) := by decide +kernel
theorem dX0_fire_82 : decode cX0_fire 82 = .ok (.getfield 63, 3) := by decide +kernel
theorem dX0_fire_85 : decode cX0_fire 85 = .ok (.invokevirtual 141, 3) := by decide +kernel
theorem dX0_fire_88 : decode cX0_fire 88 = .ok (.invokevirtual 137, 3) := by decide +kernel
theorem dX0_fire_91 : decode cX0_fire 91 = .ok (.iconst 1, 1) := by decide +kernel
theorem dX0_fire_92 : decode cX0_fire 92 = .ok (.ireturn, 1) := by decide +kernel
theorem dX0_fire_93 : decode cX0_fire 93 = .ok (.iconst 0, 1) := by decide +kernel
theorem dX0_fire_94 : decode cX0_fire 94 = .ok (.ireturn, 1) := by decide +kernel
theorem dX0_fire_95 : decode cX0_fire 95 = .ok (.aload_n 0, 1) := by decide +kernel
theorem dX0_fire_96 : decode cX0_fire 96 = .ok (.iconst 1, 1) := by decide +kernel
theorem dX0_fire_97 : decode cX0_fire 97 = .ok (.iload_n 1, 1) := by decide +kernel
theorem dX0_fire_98 : decode cX0_fire 98 = .ok (.invokevirtual 159, 3) := by decide +kernel
theorem dX0_fire_101 : decode cX0_fire 101 = .ok (.iconst 0, 1) := by decide +kernel
theorem dX0_fire_102 : decode cX0_fire 102 = .ok (.ireturn, 1) := by decide +kernel
theorem dX0_fire_103 : decode cX0_fire 103 = .ok (.aload_n 0, 1) := by decide +kernel
theorem dX0_fire_104 : decode cX0_fire 104 = .ok (.iload_n 1, 1) := by decide +kernel
theorem dX0_fire_105 : decode cX0_fire 105 = .ok (.aload_n 2, 1) := by decide +kernel
theorem dX0_fire_106 : decode cX0_fire 106 = .ok (.aload_n 3, 1) := by decide +kernel
theorem dX0_fire_107 : decode cX0_fire 107 = .ok (.invokevirtual 218, 3) := by decide +kernel
theorem dX0_fire_110 : decode cX0_fire 110 = .ok (.aload_n 0, 1) := by decide +kernel
theorem dX0_fire_111 : decode cX0_fire 111 = .ok (.getfield 96, 3) := by decide +kernel
theorem dX0_fire_114 : decode cX0_fire 114 = .ok (.ifCond .ne 7, 3) := by decide +kernel
theorem dX0_fire_117 : decode cX0_fire 117 = .ok (.iconst 1, 1) := by decide +kernel
theorem dX0_fire_118 : decode cX0_fire 118 = .ok (.goto 4, 3) := by decide +kernel
theorem dX0_fire_121 : decode cX0_fire 121 = .ok (.iconst 0, 1) := by decide +kernel
theorem dX0_fire_122 : decode cX0_fire 122 = .ok (.ireturn, 1) := by decide +kernel
theorem dX0_cause_0 : decode cX0_cause 0 = .ok (.aload_n 3, 1) := by decide +kernel
theorem dX0_cause_1 : decode cX0_cause 1 = .ok (.getfield 222, 3) := by decide +kernel
theorem dX0_cause_4 : decode cX0_cause 4 = .ok (.astore 4, 2) := by decide +kernel
theorem dX0_cause_6 : decode cX0_cause 6 = .ok (.aload 4, 2) := by decide +kernel
theorem dX0_cause_8 : decode cX0_cause 8 = .ok (.ifnull 17, 3) := by decide +kernel
theorem dX0_cause_11 : decode cX0_cause 11 = .ok (.aload_n 3, 1) := by decide +kernel
theorem dX0_cause_12 : decode cX0_cause 12 = .ok (.getfield 162, 3) := by decide +kernel
theorem dX0_cause_15 : decode cX0_cause 15 = .ok (.aload_n 0, 1) := by decide +kernel
theorem dX0_cause_16 : decode cX0_cause 16 = .ok (.getfield 12, 3) := by decide +kernel
theorem dX0_cause_19 : decode cX0_cause 19 = .ok (.getfield 225, 3) := by decide +kernel
theorem dX0_cause_22 : decode cX0_cause 22 = .ok (.if_icmp .lt 10, 3) := by decide +kernel
theorem dX0_cause_25 : decode cX0_cause 25 = .ok (.aload_n 0, 1) := by decide +kernel
theorem dX0_cause_26 : decode cX0_cause 26 = .ok (.iconst 2, 1) := by decide +kernel
theorem dX0_cause_27 : decode cX0_cause 27 = .ok (.iload_n 1, 1) := by decide +kernel
theorem dX0_cause_28 : decode cX0_cause 28 = .ok (.invokevirtual 159, 3) := by decide +kernel
theorem dX0_cause_31 : decode cX0_cause 31 = .ok (.return_, 1) := by decide +kernel
theorem dX0_cause_32 : decode cX0_cause 32 = .ok (.aload_n 0, 1) := by decide +kernel
theorem dX0_cause_33 : decode cX0_cause 33 = .ok (.aload_n 2, 1) := by decide +kernel
theorem dX0_cause_34 : decode cX0_cause 34 = .ok (.aload_n 3, 1) := by decide +kernel
theorem dX0_cause_35 : decode cX0_cause 35 = .ok (.getfield 63, 3) := by decide +kernel
theorem dX0_cause_38 : decode cX0_cause 38 = .ok (.aload 4, 2) := by decide +kernel
theorem dX0_cause_40 : decode cX0_cause 40 = .ok (.getfield 63, 3) := by decide +kernel
theorem dX0_cause_43 : decode cX0_cause 43 = .ok (.invokevirtual 228, 3) := by decide +kernel
theorem dX0_cause_46 : decode cX0_cause 46 = .ok (.ifCond .eq 28, 3) := by decide +kernel
theorem dX0_cause_49 : decode cX0_cause 49 = .ok (.aload_n 0, 1) := by decide +kernel
theorem dX0_cause_50 : decode cX0_cause 50 = .ok (.iload_n 1, 1) := by decide +kernel
theorem dX0_cause_51 : decode cX0_cause 51 = .ok (.iconst 1, 1) := by decide +kernel
theorem dX0_cause_52 : decode cX0_cause 52 = .ok (.invokevirtual 232, 3) := by decide +kernel
theorem dX0_cause_55 : decode cX0_cause 55 = .ok (.aload_n 0, 1) := by decide +kernel
theorem dX0_cause_56 : decode cX0_cause 56 = .ok (.aload_n 2, 1) := by decide +kernel
theorem dX0_cause_57 : decode cX0_cause 57 = .ok (.getfield 147, 3) := by decide +kernel
theorem dX0_cause_60 : decode cX0_cause 60 = .ok (.iconst 3, 1) := by decide +kernel
theorem dX0_cause_61 : decode cX0_cause 61 = .ok (.isub, 1) := by decide +kernel
theorem dX0_cause_62 : decode cX0_cause 62 = .ok (.aload 4, 2) := by decide +kernel
theorem dX0_cause_64 : decode cX0_cause 64 = .ok (.iload_n 1, 1) := by decide +kernel
theorem dX0_cause_65 : decode cX0_cause 65 = .ok (.invokevirtual 92, 3) := by decide +kernel
theorem dX0_cause_68 : decode cX0_cause 68 = .ok (.aload_n 0, 1) := by decide +kernel
theorem dX0_cause_69 : decode cX0_cause 69 = .ok (.iload_n 1, 1) := by decide +kernel
theorem dX0_cause_70 : decode cX0_cause 70 = .ok (.iconst 0, 1) := by decide +kernel
theorem dX0_cause_71 : decode cX0_cause 71 = .ok (.invokevirtual 232, 3) := by decide +kernel
theorem dX0_cause_74 : decode cX0_cause 74 = .ok (.return_, 1) := by decide +kernel
theorem dX0_isHeldBack_0 : decode cX0_isHeldBack 0 = .ok (.aload_n 0, 1) := by decide +kernel
theorem dX0_isHeldBack_1 : decode cX0_isHeldBack 1 = .ok (.getfield 12, 3) := by decide +kernel
theorem dX0_isHeldBack_4 : decode cX0_isHeldBack 4 = .ok (.getfield 236, 3) := by decide +kernel
theorem dX0_isHeldBack_7 : decode cX0_isHeldBack 7 = .ok (.iconst 1, 1) := by decide +kernel
theorem dX0_isHeldBack_8 : decode cX0_isHeldBack 8 = .ok (.if_icmp .ne 29, 3) := by decide +kernel
theorem dX0_isHeldBack_11 : decode cX0_isHeldBack 11 = .ok (.iload_n 1, 1) := by decide +kernel
theorem dX0_isHeldBack_12 : decode cX0_isHeldBack 12 = .ok (.ifCond .lt 25, 3) := by decide +kernel
theorem dX0_isHeldBack_15 : decode cX0_isHeldBack 15 = .ok (.iload_n 1, 1) := by decide +kernel
theorem dX0_isHeldBack_16 : decode cX0_isHeldBack 16 = .ok (.aload_n 0, 1) := by decide +kernel
theorem dX0_isHeldBack_17 : decode cX0_isHeldBack 17 = .ok (.getfield 18, 3) := by decide +kernel
theorem dX0_isHeldBack_20 : decode cX0_isHeldBack 20 = .ok (.arraylength, 1) := by decide +kernel
theorem dX0_isHeldBack_21 : decode cX0_isHeldBack 21 = .ok (.if_icmp .ge 16, 3) := by decide +kernel
theorem dX0_isHeldBack_24 : decode cX0_isHeldBack 24 = .ok (.aload_n 0, 1) := by decide +kernel
theorem dX0_isHeldBack_25 : decode cX0_isHeldBack 25 = .ok (.getfield 18, 3) := by decide +kernel
theorem dX0_isHeldBack_28 : decode cX0_isHeldBack 28 = .ok (.iload_n 1, 1) := by decide +kernel
theorem dX0_isHeldBack_29 : decode cX0_isHeldBack 29 = .ok (.baload, 1) := by decide +kernel
theorem dX0_isHeldBack_30 : decode cX0_isHeldBack 30 = .ok (.ifCond .eq 7, 3) := by decide +kernel
theorem dX0_isHeldBack_33 : decode cX0_isHeldBack 33 = .ok (.iconst 1, 1) := by decide +kernel
theorem dX0_isHeldBack_34 : decode cX0_isHeldBack 34 = .ok (.goto 4, 3) := by decide +kernel
theorem dX0_isHeldBack_37 : decode cX0_isHeldBack 37 = .ok (.iconst 0, 1) := by decide +kernel
theorem dX0_isHeldBack_38 : decode cX0_isHeldBack 38 = .ok (.ireturn, 1) := by decide +kernel
theorem dX0_mark_0 : decode cX0_mark 0 = .ok (.iload_n 1, 1) := by decide +kernel
theorem dX0_mark_1 : decode cX0_mark 1 = .ok (.ifCond .lt 19, 3) := by decide +kernel
theorem dX0_mark_4 : decode cX0_mark 4 = .ok (.iload_n 1, 1) := by decide +kernel
theorem dX0_mark_5 : decode cX0_mark 5 = .ok (.aload_n 0, 1) := by decide +kernel
theorem dX0_mark_6 : decode cX0_mark 6 = .ok (.getfield 18, 3) := by decide +kernel
theorem dX0_mark_9 : decode cX0_mark 9 = .ok (.arraylength, 1) := by decide +kernel
theorem dX0_mark_10 : decode cX0_mark 10 = .ok (.if_icmp .ge 10, 3) := by decide +kernel
theorem dX0_mark_13 : decode cX0_mark 13 = .ok (.aload_n 0, 1) := by decide +kernel
theorem dX0_mark_14 : decode cX0_mark 14 = .ok (.getfield 18, 3) := by decide +kernel
theorem dX0_mark_17 : decode cX0_mark 17 = .ok (.iload_n 1, 1) := by decide +kernel
theorem dX0_mark_18 : decode cX0_mark 18 = .ok (.iload_n 2, 1) := by decide +kernel
theorem dX0_mark_19 : decode cX0_mark 19 = .ok (.bastore, 1) := by decide +kernel
theorem dX0_mark_20 : decode cX0_mark 20 = .ok (.return_, 1) := by decide +kernel
theorem dX0_refuse_0 : decode cX0_refuse 0 = .ok (.aload_n 0, 1) := by decide +kernel
theorem dX0_refuse_1 : decode cX0_refuse 1 = .ok (.iload_n 1, 1) := by decide +kernel
theorem dX0_refuse_2 : decode cX0_refuse 2 = .ok (.putfield 96, 3) := by decide +kernel
theorem dX0_refuse_5 : decode cX0_refuse 5 = .ok (.aload_n 0, 1) := by decide +kernel
theorem dX0_refuse_6 : decode cX0_refuse 6 = .ok (.iload_n 2, 1) := by decide +kernel
theorem dX0_refuse_7 : decode cX0_refuse 7 = .ok (.putfield 121, 3) := by decide +kernel
theorem dX0_refuse_10 : decode cX0_refuse 10 = .ok (.return_, 1) := by decide +kernel
theorem dX1_init_0 : decode cX1_init 0 = .ok (.aload_n 0, 1) := by decide +kernel
theorem dX1_init_1 : decode cX1_init 1 = .ok (.invokespecial 3, 3) := by decide +kernel
theorem dX1_init_4 : decode cX1_init 4 = .ok (.aload_n 0, 1) := by decide +kernel
theorem dX1_init_5 : decode cX1_init 5 = .ok (.bipush 60, 2) := by decide +kernel
theorem dX1_init_7 : decode cX1_init 7 = .ok (.newarray .int, 2) := by decide +kernel
theorem dX1_init_9 : decode cX1_init 9 = .ok (.putfield 9, 3) := by decide +kernel
theorem dX1_init_12 : decode cX1_init 12 = .ok (.aload_n 0, 1) := by decide +kernel
theorem dX1_init_13 : decode cX1_init 13 = .ok (.bipush 60, 2) := by decide +kernel
theorem dX1_init_15 : decode cX1_init 15 = .ok (.newarray .int, 2) := by decide +kernel
theorem dX1_init_17 : decode cX1_init 17 = .ok (.putfield 15, 3) := by decide +kernel
theorem dX1_init_20 : decode cX1_init 20 = .ok (.aload_n 0, 1) := by decide +kernel
theorem dX1_init_21 : decode cX1_init 21 = .ok (.bipush 60, 2) := by decide +kernel
theorem dX1_init_23 : decode cX1_init 23 = .ok (.newarray .int, 2) := by decide +kernel
theorem dX1_init_25 : decode cX1_init 25 = .ok (.putfield 18, 3) := by decide +kernel
theorem dX1_init_28 : decode cX1_init 28 = .ok (.return_, 1) := by decide +kernel
theorem dX1_add_0 : decode cX1_add 0 = .ok (.aload_n 0, 1) := by decide +kernel
theorem dX1_add_1 : decode cX1_add 1 = .ok (.getfield 21, 3) := by decide +kernel
theorem dX1_add_4 : decode cX1_add 4 = .ok (.ifCond .lt 12, 3) := by decide +kernel
theorem dX1_add_7 : decode cX1_add 7 = .ok (.aload_n 0, 1) := by decide +kernel
theorem dX1_add_8 : decode cX1_add 8 = .ok (.getfield 21, 3) := by decide +kernel
theorem dX1_add_11 : decode cX1_add 11 = .ok (.bipush 60, 2) := by decide +kernel
theorem dX1_add_13 : decode cX1_add 13 = .ok (.if_icmp .lt 4, 3) := by decide +kernel
theorem dX1_add_16 : decode cX1_add 16 = .ok (.return_, 1) := by decide +kernel
theorem dX1_add_17 : decode cX1_add 17 = .ok (.aload_n 0, 1) := by decide +kernel
theorem dX1_add_18 : decode cX1_add 18 = .ok (.getfield 9, 3) := by decide +kernel
theorem dX1_add_21 : decode cX1_add 21 = .ok (.aload_n 0, 1) := by decide +kernel
theorem dX1_add_22 : decode cX1_add 22 = .ok (.getfield 21, 3) := by decide +kernel
theorem dX1_add_25 : decode cX1_add 25 = .ok (.iload_n 1, 1) := by decide +kernel
theorem dX1_add_26 : decode cX1_add 26 = .ok (.iastore, 1) := by decide +kernel
theorem dX1_add_27 : decode cX1_add 27 = .ok (.aload_n 0, 1) := by decide +kernel
theorem dX1_add_28 : decode cX1_add 28 = .ok (.getfield 15, 3) := by decide +kernel
theorem dX1_add_31 : decode cX1_add 31 = .ok (.aload_n 0, 1) := by decide +kernel
theorem dX1_add_32 : decode cX1_add 32 = .ok (.getfield 21, 3) := by decide +kernel
theorem dX1_add_35 : decode cX1_add 35 = .ok (.iload_n 2, 1) := by decide +kernel
theorem dX1_add_36 : decode cX1_add 36 = .ok (.iastore, 1) := by decide +kernel
theorem dX1_add_37 : decode cX1_add 37 = .ok (.aload_n 0, 1) := by decide +kernel
theorem dX1_add_38 : decode cX1_add 38 = .ok (.getfield 18, 3) := by decide +kernel
theorem dX1_add_41 : decode cX1_add 41 = .ok (.aload_n 0, 1) := by decide +kernel
theorem dX1_add_42 : decode cX1_add 42 = .ok (.getfield 21, 3) := by decide +kernel
theorem dX1_add_45 : decode cX1_add 45 = .ok (.iload_n 3, 1) := by decide +kernel
theorem dX1_add_46 : decode cX1_add 46 = .ok (.iastore, 1) := by decide +kernel
theorem dX1_add_47 : decode cX1_add 47 = .ok (.aload_n 0, 1) := by decide +kernel
theorem dX1_add_48 : decode cX1_add 48 = .ok (.dup, 1) := by decide +kernel
theorem dX1_add_49 : decode cX1_add 49 = .ok (.getfield 21, 3) := by decide +kernel
theorem dX1_add_52 : decode cX1_add 52 = .ok (.iconst 1, 1) := by decide +kernel
theorem dX1_add_53 : decode cX1_add 53 = .ok (.iadd, 1) := by decide +kernel
theorem dX1_add_54 : decode cX1_add 54 = .ok (.putfield 21, 3) := by decide +kernel
theorem dX1_add_57 : decode cX1_add 57 = .ok (.return_, 1) := by decide +kernel
theorem dX1_tell_0 : decode cX1_tell 0 = .ok (.iload_n 1, 1) := by decide +kernel
theorem dX1_tell_1 : decode cX1_tell 1 = .ok (.ifCond .lt 17, 3) := by decide +kernel
theorem dX1_tell_4 : decode cX1_tell 4 = .ok (.iload_n 1, 1) := by decide +kernel
theorem dX1_tell_5 : decode cX1_tell 5 = .ok (.aload_n 0, 1) := by decide +kernel
theorem dX1_tell_6 : decode cX1_tell 6 = .ok (.getfield 21, 3) := by decide +kernel
theorem dX1_tell_9 : decode cX1_tell 9 = .ok (.if_icmp .ge 9, 3) := by decide +kernel
theorem dX1_tell_12 : decode cX1_tell 12 = .ok (.iload_n 1, 1) := by decide +kernel
theorem dX1_tell_13 : decode cX1_tell 13 = .ok (.bipush 60, 2) := by decide +kernel
theorem dX1_tell_15 : decode cX1_tell 15 = .ok (.if_icmp .lt 7, 3) := by decide +kernel
theorem dX1_tell_18 : decode cX1_tell 18 = .ok (.sipush (-1006), 3) := by decide +kernel
theorem dX1_tell_21 : decode cX1_tell 21 = .ok (.ireturn, 1) := by decide +kernel
theorem dX1_tell_22 : decode cX1_tell 22 = .ok (.iload_n 2, 1) := by decide +kernel
theorem dX1_tell_23 : decode cX1_tell 23 = .ok (.lookupswitch 39 #[(0, 25), (1, 32)], 25) := by decide +kernel
theorem dX1_tell_48 : decode cX1_tell 48 = .ok (.aload_n 0, 1) := by decide +kernel
theorem dX1_tell_49 : decode cX1_tell 49 = .ok (.getfield 9, 3) := by decide +kernel
theorem dX1_tell_52 : decode cX1_tell 52 = .ok (.iload_n 1, 1) := by decide +kernel
theorem dX1_tell_53 : decode cX1_tell 53 = .ok (.iaload, 1) := by decide +kernel
theorem dX1_tell_54 : decode cX1_tell 54 = .ok (.ireturn, 1) := by decide +kernel
theorem dX1_tell_55 : decode cX1_tell 55 = .ok (.aload_n 0, 1) := by decide +kernel
theorem dX1_tell_56 : decode cX1_tell 56 = .ok (.getfield 15, 3) := by decide +kernel
theorem dX1_tell_59 : decode cX1_tell 59 = .ok (.iload_n 1, 1) := by decide +kernel
theorem dX1_tell_60 : decode cX1_tell 60 = .ok (.iaload, 1) := by decide +kernel
theorem dX1_tell_61 : decode cX1_tell 61 = .ok (.ireturn, 1) := by decide +kernel
theorem dX1_tell_62 : decode cX1_tell 62 = .ok (.aload_n 0, 1) := by decide +kernel
theorem dX1_tell_63 : decode cX1_tell 63 = .ok (.getfield 18, 3) := by decide +kernel
theorem dX1_tell_66 : decode cX1_tell 66 = .ok (.iload_n 1, 1) := by decide +kernel
theorem dX1_tell_67 : decode cX1_tell 67 = .ok (.iaload, 1) := by decide +kernel
theorem dX1_tell_68 : decode cX1_tell 68 = .ok (.ireturn, 1) := by decide +kernel
theorem dX1_copyFrom_0 : decode cX1_copyFrom 0 = .ok (.aload_n 0, 1) := by decide +kernel
theorem dX1_copyFrom_1 : decode cX1_copyFrom 1 = .ok (.aload_n 1, 1) := by decide +kernel
theorem dX1_copyFrom_2 : decode cX1_copyFrom 2 = .ok (.getfield 21, 3) := by decide +kernel
theorem dX1_copyFrom_5 : decode cX1_copyFrom 5 = .ok (.putfield 21, 3) := by decide +kernel
theorem dX1_copyFrom_8 : decode cX1_copyFrom 8 = .ok (.aload_n 1, 1) := by decide +kernel
theorem dX1_copyFrom_9 : decode cX1_copyFrom 9 = .ok (.getfield 9, 3) := by decide +kernel
theorem dX1_copyFrom_12 : decode cX1_copyFrom 12 = .ok (.iconst 0, 1) := by decide +kernel
theorem dX1_copyFrom_13 : decode cX1_copyFrom 13 = .ok (.aload_n 0, 1) := by decide +kernel
theorem dX1_copyFrom_14 : decode cX1_copyFrom 14 = .ok (.getfield 9, 3) := by decide +kernel
theorem dX1_copyFrom_17 : decode cX1_copyFrom 17 = .ok (.iconst 0, 1) := by decide +kernel
theorem dX1_copyFrom_18 : decode cX1_copyFrom 18 = .ok (.bipush 60, 2) := by decide +kernel
theorem dX1_copyFrom_20 : decode cX1_copyFrom 20 = .ok (.invokestatic 25, 3) := by decide +kernel
theorem dX1_copyFrom_23 : decode cX1_copyFrom 23 = .ok (.aload_n 1, 1) := by decide +kernel
theorem dX1_copyFrom_24 : decode cX1_copyFrom 24 = .ok (.getfield 15, 3) := by decide +kernel
theorem dX1_copyFrom_27 : decode cX1_copyFrom 27 = .ok (.iconst 0, 1) := by decide +kernel
theorem dX1_copyFrom_28 : decode cX1_copyFrom 28 = .ok (.aload_n 0, 1) := by decide +kernel
theorem dX1_copyFrom_29 : decode cX1_copyFrom 29 = .ok (.getfield 15, 3) := by decide +kernel
theorem dX1_copyFrom_32 : decode cX1_copyFrom 32 = .ok (.iconst 0, 1) := by decide +kernel
theorem dX1_copyFrom_33 : decode cX1_copyFrom 33 = .ok (.bipush 60, 2) := by decide +kernel
theorem dX1_copyFrom_35 : decode cX1_copyFrom 35 = .ok (.invokestatic 25, 3) := by decide +kernel
theorem dX1_copyFrom_38 : decode cX1_copyFrom 38 = .ok (.aload_n 1, 1) := by decide +kernel
theorem dX1_copyFrom_39 : decode cX1_copyFrom 39 = .ok (.getfield 18, 3) := by decide +kernel
theorem dX1_copyFrom_42 : decode cX1_copyFrom 42 = .ok (.iconst 0, 1) := by decide +kernel
theorem dX1_copyFrom_43 : decode cX1_copyFrom 43 = .ok (.aload_n 0, 1) := by decide +kernel
theorem dX1_copyFrom_44 : decode cX1_copyFrom 44 = .ok (.getfield 18, 3) := by decide +kernel
theorem dX1_copyFrom_47 : decode cX1_copyFrom 47 = .ok (.iconst 0, 1) := by decide +kernel
theorem dX1_copyFrom_48 : decode cX1_copyFrom 48 = .ok (.bipush 60, 2) := by decide +kernel
theorem dX1_copyFrom_50 : decode cX1_copyFrom 50 = .ok (.invokestatic 25, 3) := by decide +kernel
theorem dX1_copyFrom_53 : decode cX1_copyFrom 53 = .ok (.return_, 1) := by decide +kernel
theorem dX2_init_0 : decode cX2_init 0 = .ok (.aload_n 0, 1) := by decide +kernel
theorem dX2_init_1 : decode cX2_init 1 = .ok (.invokespecial 3, 3) := by decide +kernel
theorem dX2_init_4 : decode cX2_init 4 = .ok (.aload_n 0, 1) := by decide +kernel
theorem dX2_init_5 : decode cX2_init 5 = .ok (.iconst 4, 1) := by decide +kernel
theorem dX2_init_6 : decode cX2_init 6 = .ok (.anewarray 9, 3) := by decide +kernel
theorem dX2_init_9 : decode cX2_init 9 = .ok (.putfield 11, 3) := by decide +kernel
theorem dX2_init_12 : decode cX2_init 12 = .ok (.iconst 0, 1) := by decide +kernel
theorem dX2_init_13 : decode cX2_init 13 = .ok (.istore_n 1, 1) := by decide +kernel
theorem dX2_init_14 : decode cX2_init 14 = .ok (.iload_n 1, 1) := by decide +kernel
theorem dX2_init_15 : decode cX2_init 15 = .ok (.aload_n 0, 1) := by decide +kernel
theorem dX2_init_16 : decode cX2_init 16 = .ok (.getfield 11, 3) := by decide +kernel
theorem dX2_init_19 : decode cX2_init 19 = .ok (.arraylength, 1) := by decide +kernel
theorem dX2_init_20 : decode cX2_init 20 = .ok (.if_icmp .ge 22, 3) := by decide +kernel
theorem dX2_init_23 : decode cX2_init 23 = .ok (.aload_n 0, 1) := by decide +kernel
theorem dX2_init_24 : decode cX2_init 24 = .ok (.getfield 11, 3) := by decide +kernel
theorem dX2_init_27 : decode cX2_init 27 = .ok (.iload_n 1, 1) := by decide +kernel
theorem dX2_init_28 : decode cX2_init 28 = .ok (.new 9, 3) := by decide +kernel
theorem dX2_init_31 : decode cX2_init 31 = .ok (.dup, 1) := by decide +kernel
theorem dX2_init_32 : decode cX2_init 32 = .ok (.invokespecial 17, 3) := by decide +kernel
theorem dX2_init_35 : decode cX2_init 35 = .ok (.aastore, 1) := by decide +kernel
theorem dX2_init_36 : decode cX2_init 36 = .ok (.iinc 1 1, 3) := by decide +kernel
theorem dX2_init_39 : decode cX2_init 39 = .ok (.goto (-25), 3) := by decide +kernel
theorem dX2_init_42 : decode cX2_init 42 = .ok (.return_, 1) := by decide +kernel
theorem dX2_push_0 : decode cX2_push 0 = .ok (.aload_n 0, 1) := by decide +kernel
theorem dX2_push_1 : decode cX2_push 1 = .ok (.getfield 18, 3) := by decide +kernel
theorem dX2_push_4 : decode cX2_push 4 = .ok (.iconst 4, 1) := by decide +kernel
theorem dX2_push_5 : decode cX2_push 5 = .ok (.if_icmp .lt 7, 3) := by decide +kernel
theorem dX2_push_8 : decode cX2_push 8 = .ok (.aload_n 0, 1) := by decide +kernel
theorem dX2_push_9 : decode cX2_push 9 = .ok (.invokevirtual 22, 3) := by decide +kernel
theorem dX2_push_12 : decode cX2_push 12 = .ok (.aload_n 0, 1) := by decide +kernel
theorem dX2_push_13 : decode cX2_push 13 = .ok (.getfield 18, 3) := by decide +kernel
theorem dX2_push_16 : decode cX2_push 16 = .ok (.ifCond .lt 15, 3) := by decide +kernel
theorem dX2_push_19 : decode cX2_push 19 = .ok (.aload_n 0, 1) := by decide +kernel
theorem dX2_push_20 : decode cX2_push 20 = .ok (.getfield 18, 3) := by decide +kernel
theorem dX2_push_23 : decode cX2_push 23 = .ok (.aload_n 0, 1) := by decide +kernel
theorem dX2_push_24 : decode cX2_push 24 = .ok (.getfield 11, 3) := by decide +kernel
theorem dX2_push_27 : decode cX2_push 27 = .ok (.arraylength, 1) := by decide +kernel
theorem dX2_push_28 : decode cX2_push 28 = .ok (.if_icmp .lt 4, 3) := by decide +kernel
theorem dX2_push_31 : decode cX2_push 31 = .ok (.return_, 1) := by decide +kernel
theorem dX2_push_32 : decode cX2_push 32 = .ok (.aload_n 0, 1) := by decide +kernel
theorem dX2_push_33 : decode cX2_push 33 = .ok (.getfield 11, 3) := by decide +kernel
theorem dX2_push_36 : decode cX2_push 36 = .ok (.aload_n 0, 1) := by decide +kernel
theorem dX2_push_37 : decode cX2_push 37 = .ok (.getfield 18, 3) := by decide +kernel
theorem dX2_push_40 : decode cX2_push 40 = .ok (.aaload, 1) := by decide +kernel
theorem dX2_push_41 : decode cX2_push 41 = .ok (.astore_n 2, 1) := by decide +kernel
theorem dX2_push_42 : decode cX2_push 42 = .ok (.aload_n 2, 1) := by decide +kernel
theorem dX2_push_43 : decode cX2_push 43 = .ok (.ifnull 18, 3) := by decide +kernel
theorem dX2_push_46 : decode cX2_push 46 = .ok (.aload_n 2, 1) := by decide +kernel
theorem dX2_push_47 : decode cX2_push 47 = .ok (.aload_n 1, 1) := by decide +kernel
theorem dX2_push_48 : decode cX2_push 48 = .ok (.invokevirtual 25, 3) := by decide +kernel
theorem dX2_push_51 : decode cX2_push 51 = .ok (.aload_n 0, 1) := by decide +kernel
theorem dX2_push_52 : decode cX2_push 52 = .ok (.dup, 1) := by decide +kernel
theorem dX2_push_53 : decode cX2_push 53 = .ok (.getfield 18, 3) := by decide +kernel
theorem dX2_push_56 : decode cX2_push 56 = .ok (.iconst 1, 1) := by decide +kernel
theorem dX2_push_57 : decode cX2_push 57 = .ok (.iadd, 1) := by decide +kernel
theorem dX2_push_58 : decode cX2_push 58 = .ok (.putfield 18, 3) := by decide +kernel
theorem dX2_push_61 : decode cX2_push 61 = .ok (.return_, 1) := by decide +kernel
theorem dX2_popInto_0 : decode cX2_popInto 0 = .ok (.aload_n 0, 1) := by decide +kernel
theorem dX2_popInto_1 : decode cX2_popInto 1 = .ok (.getfield 18, 3) := by decide +kernel
theorem dX2_popInto_4 : decode cX2_popInto 4 = .ok (.iconst 1, 1) := by decide +kernel
theorem dX2_popInto_5 : decode cX2_popInto 5 = .ok (.if_icmp .lt 15, 3) := by decide +kernel
theorem dX2_popInto_8 : decode cX2_popInto 8 = .ok (.aload_n 0, 1) := by decide +kernel
theorem dX2_popInto_9 : decode cX2_popInto 9 = .ok (.getfield 18, 3) := by decide +kernel
theorem dX2_popInto_12 : decode cX2_popInto 12 = .ok (.aload_n 0, 1) := by decide +kernel
theorem dX2_popInto_13 : decode cX2_popInto 13 = .ok (.getfield 11, 3) := by decide +kernel
theorem dX2_popInto_16 : decode cX2_popInto 16 = .ok (.arraylength, 1) := by decide +kernel
theorem dX2_popInto_17 : decode cX2_popInto 17 = .ok (.if_icmp .le 5, 3) := by decide +kernel
theorem dX2_popInto_20 : decode cX2_popInto 20 = .ok (.iconst 0, 1) := by decide +kernel
theorem dX2_popInto_21 : decode cX2_popInto 21 = .ok (.ireturn, 1) := by decide +kernel
theorem dX2_popInto_22 : decode cX2_popInto 22 = .ok (.aload_n 0, 1) := by decide +kernel
theorem dX2_popInto_23 : decode cX2_popInto 23 = .ok (.getfield 11, 3) := by decide +kernel
theorem dX2_popInto_26 : decode cX2_popInto 26 = .ok (.aload_n 0, 1) := by decide +kernel
theorem dX2_popInto_27 : decode cX2_popInto 27 = .ok (.getfield 18, 3) := by decide +kernel
theorem dX2_popInto_30 : decode cX2_popInto 30 = .ok (.iconst 1, 1) := by decide +kernel
theorem dX2_popInto_31 : decode cX2_popInto 31 = .ok (.isub, 1) := by decide +kernel
theorem dX2_popInto_32 : decode cX2_popInto 32 = .ok (.aaload, 1) := by decide +kernel
theorem dX2_popInto_33 : decode cX2_popInto 33 = .ok (.astore_n 2, 1) := by decide +kernel
theorem dX2_popInto_34 : decode cX2_popInto 34 = .ok (.aload_n 2, 1) := by decide +kernel
theorem dX2_popInto_35 : decode cX2_popInto 35 = .ok (.ifnonnull 5, 3) := by decide +kernel
theorem dX2_popInto_38 : decode cX2_popInto 38 = .ok (.iconst 0, 1) := by decide +kernel
theorem dX2_popInto_39 : decode cX2_popInto 39 = .ok (.ireturn, 1) := by decide +kernel
theorem dX2_popInto_40 : decode cX2_popInto 40 = .ok (.aload_n 1, 1) := by decide +kernel
theorem dX2_popInto_41 : decode cX2_popInto 41 = .ok (.aload_n 2, 1) := by decide +kernel
theorem dX2_popInto_42 : decode cX2_popInto 42 = .ok (.invokevirtual 25, 3) := by decide +kernel
theorem dX2_popInto_45 : decode cX2_popInto 45 = .ok (.aload_n 0, 1) := by decide +kernel
theorem dX2_popInto_46 : decode cX2_popInto 46 = .ok (.dup, 1) := by decide +kernel
theorem dX2_popInto_47 : decode cX2_popInto 47 = .ok (.getfield 18, 3) := by decide +kernel
theorem dX2_popInto_50 : decode cX2_popInto 50 = .ok (.iconst 1, 1) := by decide +kernel
theorem dX2_popInto_51 : decode cX2_popInto 51 = .ok (.isub, 1) := by decide +kernel
theorem dX2_popInto_52 : decode cX2_popInto 52 = .ok (.putfield 18, 3) := by decide +kernel
theorem dX2_popInto_55 : decode cX2_popInto 55 = .ok (.iconst 1, 1) := by decide +kernel
theorem dX2_popInto_56 : decode cX2_popInto 56 = .ok (.ireturn, 1) := by decide +kernel
theorem dX2_dropOldest_0 : decode cX2_dropOldest 0 = .ok (.iconst 1, 1) := by decide +kernel
theorem dX2_dropOldest_1 : decode cX2_dropOldest 1 = .ok (.istore_n 1, 1) := by decide +kernel
theorem dX2_dropOldest_2 : decode cX2_dropOldest 2 = .ok (.iload_n 1, 1) := by decide +kernel
theorem dX2_dropOldest_3 : decode cX2_dropOldest 3 = .ok (.aload_n 0, 1) := by decide +kernel
theorem dX2_dropOldest_4 : decode cX2_dropOldest 4 = .ok (.getfield 11, 3) := by decide +kernel
theorem dX2_dropOldest_7 : decode cX2_dropOldest 7 = .ok (.arraylength, 1) := by decide +kernel
theorem dX2_dropOldest_8 : decode cX2_dropOldest 8 = .ok (.if_icmp .ge 39, 3) := by decide +kernel
theorem dX2_dropOldest_11 : decode cX2_dropOldest 11 = .ok (.aload_n 0, 1) := by decide +kernel
theorem dX2_dropOldest_12 : decode cX2_dropOldest 12 = .ok (.getfield 11, 3) := by decide +kernel
theorem dX2_dropOldest_15 : decode cX2_dropOldest 15 = .ok (.iload_n 1, 1) := by decide +kernel
theorem dX2_dropOldest_16 : decode cX2_dropOldest 16 = .ok (.aaload, 1) := by decide +kernel
theorem dX2_dropOldest_17 : decode cX2_dropOldest 17 = .ok (.astore_n 2, 1) := by decide +kernel
theorem dX2_dropOldest_18 : decode cX2_dropOldest 18 = .ok (.aload_n 0, 1) := by decide +kernel
theorem dX2_dropOldest_19 : decode cX2_dropOldest 19 = .ok (.getfield 11, 3) := by decide +kernel
theorem dX2_dropOldest_22 : decode cX2_dropOldest 22 = .ok (.iload_n 1, 1) := by decide +kernel
theorem dX2_dropOldest_23 : decode cX2_dropOldest 23 = .ok (.aload_n 0, 1) := by decide +kernel
theorem dX2_dropOldest_24 : decode cX2_dropOldest 24 = .ok (.getfield 11, 3) := by decide +kernel
theorem dX2_dropOldest_27 : decode cX2_dropOldest 27 = .ok (.iload_n 1, 1) := by decide +kernel
theorem dX2_dropOldest_28 : decode cX2_dropOldest 28 = .ok (.iconst 1, 1) := by decide +kernel
theorem dX2_dropOldest_29 : decode cX2_dropOldest 29 = .ok (.isub, 1) := by decide +kernel
theorem dX2_dropOldest_30 : decode cX2_dropOldest 30 = .ok (.aaload, 1) := by decide +kernel
theorem dX2_dropOldest_31 : decode cX2_dropOldest 31 = .ok (.aastore, 1) := by decide +kernel
theorem dX2_dropOldest_32 : decode cX2_dropOldest 32 = .ok (.aload_n 0, 1) := by decide +kernel
theorem dX2_dropOldest_33 : decode cX2_dropOldest 33 = .ok (.getfield 11, 3) := by decide +kernel
theorem dX2_dropOldest_36 : decode cX2_dropOldest 36 = .ok (.iload_n 1, 1) := by decide +kernel
theorem dX2_dropOldest_37 : decode cX2_dropOldest 37 = .ok (.iconst 1, 1) := by decide +kernel
theorem dX2_dropOldest_38 : decode cX2_dropOldest 38 = .ok (.isub, 1) := by decide +kernel
theorem dX2_dropOldest_39 : decode cX2_dropOldest 39 = .ok (.aload_n 2, 1) := by decide +kernel
theorem dX2_dropOldest_40 : decode cX2_dropOldest 40 = .ok (.aastore, 1) := by decide +kernel
theorem dX2_dropOldest_41 : decode cX2_dropOldest 41 = .ok (.iinc 1 1, 3) := by decide +kernel
theorem dX2_dropOldest_44 : decode cX2_dropOldest 44 = .ok (.goto (-42), 3) := by decide +kernel
theorem dX2_dropOldest_47 : decode cX2_dropOldest 47 = .ok (.aload_n 0, 1) := by decide +kernel
theorem dX2_dropOldest_48 : decode cX2_dropOldest 48 = .ok (.dup, 1) := by decide +kernel
theorem dX2_dropOldest_49 : decode cX2_dropOldest 49 = .ok (.getfield 18, 3) := by decide +kernel
theorem dX2_dropOldest_52 : decode cX2_dropOldest 52 = .ok (.iconst 1, 1) := by decide +kernel
theorem dX2_dropOldest_53 : decode cX2_dropOldest 53 = .ok (.isub, 1) := by decide +kernel
theorem dX2_dropOldest_54 : decode cX2_dropOldest 54 = .ok (.putfield 18, 3) := by decide +kernel
theorem dX2_dropOldest_57 : decode cX2_dropOldest 57 = .ok (.return_, 1) := by decide +kernel
theorem dX3_init_0 : decode cX3_init 0 = .ok (.aload_n 0, 1) := by decide +kernel
theorem dX3_init_1 : decode cX3_init 1 = .ok (.invokespecial 1, 3) := by decide +kernel
theorem dX3_init_4 : decode cX3_init 4 = .ok (.aload_n 0, 1) := by decide +kernel
theorem dX3_init_5 : decode cX3_init 5 = .ok (.new 7, 3) := by decide +kernel
theorem dX3_init_8 : decode cX3_init 8 = .ok (.dup, 1) := by decide +kernel
theorem dX3_init_9 : decode cX3_init 9 = .ok (.invokespecial 9, 3) := by decide +kernel
theorem dX3_init_12 : decode cX3_init 12 = .ok (.putfield 10, 3) := by decide +kernel
theorem dX3_init_15 : decode cX3_init 15 = .ok (.aload_n 0, 1) := by decide +kernel
theorem dX3_init_16 : decode cX3_init 16 = .ok (.iload_n 1, 1) := by decide +kernel
theorem dX3_init_17 : decode cX3_init 17 = .ok (.putfield 16, 3) := by decide +kernel
theorem dX3_init_20 : decode cX3_init 20 = .ok (.aload_n 0, 1) := by decide +kernel
theorem dX3_init_21 : decode cX3_init 21 = .ok (.aload_n 2, 1) := by decide +kernel
theorem dX3_init_22 : decode cX3_init 22 = .ok (.putfield 20, 3) := by decide +kernel
theorem dX3_init_25 : decode cX3_init 25 = .ok (.return_, 1) := by decide +kernel
theorem dX4_init_0 : decode cX4_init 0 = .ok (.aload_n 0, 1) := by decide +kernel
theorem dX4_init_1 : decode cX4_init 1 = .ok (.invokespecial 1, 3) := by decide +kernel
theorem dX4_init_4 : decode cX4_init 4 = .ok (.return_, 1) := by decide +kernel
theorem dX4_fill_0 : decode cX4_fill 0 = .ok (.aload_n 0, 1) := by decide +kernel
theorem dX4_fill_1 : decode cX4_fill 1 = .ok (.iload_n 1, 1) := by decide +kernel
theorem dX4_fill_2 : decode cX4_fill 2 = .ok (.putfield 7, 3) := by decide +kernel
theorem dX4_fill_5 : decode cX4_fill 5 = .ok (.aload_n 0, 1) := by decide +kernel
theorem dX4_fill_6 : decode cX4_fill 6 = .ok (.iload_n 2, 1) := by decide +kernel
theorem dX4_fill_7 : decode cX4_fill 7 = .ok (.putfield 13, 3) := by decide +kernel
theorem dX4_fill_10 : decode cX4_fill 10 = .ok (.aload_n 0, 1) := by decide +kernel
theorem dX4_fill_11 : decode cX4_fill 11 = .ok (.iload_n 3, 1) := by decide +kernel
theorem dX4_fill_12 : decode cX4_fill 12 = .ok (.putfield 16, 3) := by decide +kernel
theorem dX4_fill_15 : decode cX4_fill 15 = .ok (.aload_n 0, 1) := by decide +kernel
theorem dX4_fill_16 : decode cX4_fill 16 = .ok (.iload 4, 2) := by decide +kernel
theorem dX4_fill_18 : decode cX4_fill 18 = .ok (.putfield 19, 3) := by decide +kernel
theorem dX4_fill_21 : decode cX4_fill 21 = .ok (.return_, 1) := by decide +kernel
theorem dX4_copyFrom_0 : decode cX4_copyFrom 0 = .ok (.aload_n 0, 1) := by decide +kernel
theorem dX4_copyFrom_1 : decode cX4_copyFrom 1 = .ok (.aload_n 1, 1) := by decide +kernel
theorem dX4_copyFrom_2 : decode cX4_copyFrom 2 = .ok (.getfield 7, 3) := by decide +kernel
theorem dX4_copyFrom_5 : decode cX4_copyFrom 5 = .ok (.putfield 7, 3) := by decide +kernel
theorem dX4_copyFrom_8 : decode cX4_copyFrom 8 = .ok (.aload_n 0, 1) := by decide +kernel
theorem dX4_copyFrom_9 : decode cX4_copyFrom 9 = .ok (.aload_n 1, 1) := by decide +kernel
theorem dX4_copyFrom_10 : decode cX4_copyFrom 10 = .ok (.getfield 13, 3) := by decide +kernel
theorem dX4_copyFrom_13 : decode cX4_copyFrom 13 = .ok (.putfield 13, 3) := by decide +kernel
theorem dX4_copyFrom_16 : decode cX4_copyFrom 16 = .ok (.aload_n 0, 1) := by decide +kernel
theorem dX4_copyFrom_17 : decode cX4_copyFrom 17 = .ok (.aload_n 1, 1) := by decide +kernel
theorem dX4_copyFrom_18 : decode cX4_copyFrom 18 = .ok (.getfield 16, 3) := by decide +kernel
theorem dX4_copyFrom_21 : decode cX4_copyFrom 21 = .ok (.putfield 16, 3) := by decide +kernel
theorem dX4_copyFrom_24 : decode cX4_copyFrom 24 = .ok (.aload_n 0, 1) := by decide +kernel
theorem dX4_copyFrom_25 : decode cX4_copyFrom 25 = .ok (.aload_n 1, 1) := by decide +kernel
theorem dX4_copyFrom_26 : decode cX4_copyFrom 26 = .ok (.getfield 19, 3) := by decide +kernel
theorem dX4_copyFrom_29 : decode cX4_copyFrom 29 = .ok (.putfield 19, 3) := by decide +kernel
theorem dX4_copyFrom_32 : decode cX4_copyFrom 32 = .ok (.return_, 1) := by decide +kernel
theorem dX4_valueOf_0 : decode cX4_valueOf 0 = .ok (.iload_n 1, 1) := by decide +kernel
theorem dX4_valueOf_1 : decode cX4_valueOf 1 = .ok (.tableswitch 42 0 2 #[27, 32, 37], 27) := by decide +kernel
theorem dX4_valueOf_28 : decode cX4_valueOf 28 = .ok (.aload_n 0, 1) := by decide +kernel
theorem dX4_valueOf_29 : decode cX4_valueOf 29 = .ok (.getfield 13, 3) := by decide +kernel
theorem dX4_valueOf_32 : decode cX4_valueOf 32 = .ok (.ireturn, 1) := by decide +kernel
theorem dX4_valueOf_33 : decode cX4_valueOf 33 = .ok (.aload_n 0, 1) := by decide +kernel
theorem dX4_valueOf_34 : decode cX4_valueOf 34 = .ok (.getfield 16, 3) := by decide +kernel
theorem dX4_valueOf_37 : decode cX4_valueOf 37 = .ok (.ireturn, 1) := by decide +kernel
theorem dX4_valueOf_38 : decode cX4_valueOf 38 = .ok (.aload_n 0, 1) := by decide +kernel
theorem dX4_valueOf_39 : decode cX4_valueOf 39 = .ok (.getfield 19, 3) := by decide +kernel
theorem dX4_valueOf_42 : decode cX4_valueOf 42 = .ok (.ireturn, 1) := by decide +kernel
theorem dX4_valueOf_43 : decode cX4_valueOf 43 = .ok (.aload_n 0, 1) := by decide +kernel
theorem dX4_valueOf_44 : decode cX4_valueOf 44 = .ok (.getfield 7, 3) := by decide +kernel
theorem dX4_valueOf_47 : decode cX4_valueOf 47 = .ok (.ireturn, 1) := by decide +kernel
theorem dX4_change_0 : decode cX4_change 0 = .ok (.iload_n 1, 1) := by decide +kernel
theorem dX4_change_1 : decode cX4_change 1 = .ok (.lookupswitch 43 #[(0, 27), (1, 35)], 27) := by decide +kernel
theorem dX4_change_28 : decode cX4_change 28 = .ok (.aload_n 0, 1) := by decide +kernel
theorem dX4_change_29 : decode cX4_change 29 = .ok (.iload_n 2, 1) := by decide +kernel
theorem dX4_change_30 : decode cX4_change 30 = .ok (.putfield 13, 3) := by decide +kernel
theorem dX4_change_33 : decode cX4_change 33 = .ok (.goto 16, 3) := by decide +kernel
theorem dX4_change_36 : decode cX4_change 36 = .ok (.aload_n 0, 1) := by decide +kernel
theorem dX4_change_37 : decode cX4_change 37 = .ok (.iload_n 2, 1) := by decide +kernel
theorem dX4_change_38 : decode cX4_change 38 = .ok (.putfield 16, 3) := by decide +kernel
theorem dX4_change_41 : decode cX4_change 41 = .ok (.goto 8, 3) := by decide +kernel
theorem dX4_change_44 : decode cX4_change 44 = .ok (.aload_n 0, 1) := by decide +kernel
theorem dX4_change_45 : decode cX4_change 45 = .ok (.iload_n 2, 1) := by decide +kernel
theorem dX4_change_46 : decode cX4_change 46 = .ok (.putfield 19, 3) := by decide +kernel
theorem dX4_change_49 : decode cX4_change 49 = .ok (.return_, 1) := by decide +kernel
theorem dX5_init_0 : decode cX5_init 0 = .ok (.aload_n 0, 1) := by decide +kernel
theorem dX5_init_1 : decode cX5_init 1 = .ok (.invokespecial 3, 3) := by decide +kernel
theorem dX5_init_4 : decode cX5_init 4 = .ok (.return_, 1) := by decide +kernel
theorem dX5_define_0 : decode cX5_define 0 = .ok (.aload_n 0, 1) := by decide +kernel
theorem dX5_define_1 : decode cX5_define 1 = .ok (.iload_n 1, 1) := by decide +kernel
theorem dX5_define_2 : decode cX5_define 2 = .ok (.putfield 9, 3) := by decide +kernel
theorem dX5_define_5 : decode cX5_define 5 = .ok (.aload_n 0, 1) := by decide +kernel
theorem dX5_define_6 : decode cX5_define 6 = .ok (.iload_n 2, 1) := by decide +kernel
theorem dX5_define_7 : decode cX5_define 7 = .ok (.putfield 15, 3) := by decide +kernel
theorem dX5_define_10 : decode cX5_define 10 = .ok (.aload_n 0, 1) := by decide +kernel
theorem dX5_define_11 : decode cX5_define 11 = .ok (.iload_n 3, 1) := by decide +kernel
theorem dX5_define_12 : decode cX5_define 12 = .ok (.putfield 18, 3) := by decide +kernel
theorem dX5_define_15 : decode cX5_define 15 = .ok (.aload_n 0, 1) := by decide +kernel
theorem dX5_define_16 : decode cX5_define 16 = .ok (.iload 4, 2) := by decide +kernel
theorem dX5_define_18 : decode cX5_define 18 = .ok (.putfield 21, 3) := by decide +kernel
theorem dX5_define_21 : decode cX5_define 21 = .ok (.aload_n 0, 1) := by decide +kernel
theorem dX5_define_22 : decode cX5_define 22 = .ok (.iload 5, 2) := by decide +kernel
theorem dX5_define_24 : decode cX5_define 24 = .ok (.putfield 24, 3) := by decide +kernel
theorem dX5_define_27 : decode cX5_define 27 = .ok (.aload_n 0, 1) := by decide +kernel
theorem dX5_define_28 : decode cX5_define 28 = .ok (.iload 6, 2) := by decide +kernel
theorem dX5_define_30 : decode cX5_define 30 = .ok (.putfield 27, 3) := by decide +kernel
theorem dX5_define_33 : decode cX5_define 33 = .ok (.aload_n 0, 1) := by decide +kernel
theorem dX5_define_34 : decode cX5_define 34 = .ok (.iload 7, 2) := by decide +kernel
theorem dX5_define_36 : decode cX5_define 36 = .ok (.putfield 30, 3) := by decide +kernel
theorem dX5_define_39 : decode cX5_define 39 = .ok (.aload_n 0, 1) := by decide +kernel
theorem dX5_define_40 : decode cX5_define 40 = .ok (.iconst 3, 1) := by decide +kernel
theorem dX5_define_41 : decode cX5_define 41 = .ok (.iconst 4, 1) := by decide +kernel
theorem dX5_define_42 : decode cX5_define 42 = .ok (.iconst 0, 1) := by decide +kernel
theorem dX5_define_43 : decode cX5_define 43 = .ok (.invokevirtual 33, 3) := by decide +kernel
theorem dX5_define_46 : decode cX5_define 46 = .ok (.aload_n 0, 1) := by decide +kernel
theorem dX5_define_47 : decode cX5_define 47 = .ok (.iconst 1, 1) := by decide +kernel
theorem dX5_define_48 : decode cX5_define 48 = .ok (.putfield 37, 3) := by decide +kernel
theorem dX5_define_51 : decode cX5_define 51 = .ok (.aload_n 0, 1) := by decide +kernel
theorem dX5_define_52 : decode cX5_define 52 = .ok (.iconst 0, 1) := by decide +kernel
theorem dX5_define_53 : decode cX5_define 53 = .ok (.putfield 41, 3) := by decide +kernel
theorem dX5_define_56 : decode cX5_define 56 = .ok (.return_, 1) := by decide +kernel
theorem dX5_demand_0 : decode cX5_demand 0 = .ok (.aload_n 0, 1) := by decide +kernel
theorem dX5_demand_1 : decode cX5_demand 1 = .ok (.iload_n 1, 1) := by decide +kernel
theorem dX5_demand_2 : decode cX5_demand 2 = .ok (.putfield 44, 3) := by decide +kernel
theorem dX5_demand_5 : decode cX5_demand 5 = .ok (.aload_n 0, 1) := by decide +kernel
theorem dX5_demand_6 : decode cX5_demand 6 = .ok (.iload_n 2, 1) := by decide +kernel
theorem dX5_demand_7 : decode cX5_demand 7 = .ok (.putfield 47, 3) := by decide +kernel
theorem dX5_demand_10 : decode cX5_demand 10 = .ok (.aload_n 0, 1) := by decide +kernel
theorem dX5_demand_11 : decode cX5_demand 11 = .ok (.iload_n 3, 1) := by decide +kernel
theorem dX5_demand_12 : decode cX5_demand 12 = .ok (.putfield 50, 3) := by decide +kernel
theorem dX5_demand_15 : decode cX5_demand 15 = .ok (.return_, 1) := by decide +kernel
theorem dX5_copyFrom_0 : decode cX5_copyFrom 0 = .ok (.aload_n 0, 1) := by decide +kernel
theorem dX5_copyFrom_1 : decode cX5_copyFrom 1 = .ok (.aload_n 1, 1) := by decide +kernel
theorem dX5_copyFrom_2 : decode cX5_copyFrom 2 = .ok (.getfield 9, 3) := by decide +kernel
theorem dX5_copyFrom_5 : decode cX5_copyFrom 5 = .ok (.aload_n 1, 1) := by decide +kernel
theorem dX5_copyFrom_6 : decode cX5_copyFrom 6 = .ok (.getfield 15, 3) := by decide +kernel
theorem dX5_copyFrom_9 : decode cX5_copyFrom 9 = .ok (.aload_n 1, 1) := by decide +kernel
theorem dX5_copyFrom_10 : decode cX5_copyFrom 10 = .ok (.getfield 18, 3) := by decide +kernel
theorem dX5_copyFrom_13 : decode cX5_copyFrom 13 = .ok (.aload_n 1, 1) := by decide +kernel
theorem dX5_copyFrom_14 : decode cX5_copyFrom 14 = .ok (.getfield 21, 3) := by decide +kernel
theorem dX5_copyFrom_17 : decode cX5_copyFrom 17 = .ok (.aload_n 1, 1) := by decide +kernel
theorem dX5_copyFrom_18 : decode cX5_copyFrom 18 = .ok (.getfield 24, 3) := by decide +kernel
theorem dX5_copyFrom_21 : decode cX5_copyFrom 21 = .ok (.aload_n 1, 1) := by decide +kernel
theorem dX5_copyFrom_22 : decode cX5_copyFrom 22 = .ok (.getfield 27, 3) := by decide +kernel
theorem dX5_copyFrom_25 : decode cX5_copyFrom 25 = .ok (.aload_n 1, 1) := by decide +kernel
theorem dX5_copyFrom_26 : decode cX5_copyFrom 26 = .ok (.getfield 30, 3) := by decide +kernel
theorem dX5_copyFrom_29 : decode cX5_copyFrom 29 = .ok (.invokevirtual 53, 3) := by decide +kernel
theorem dX5_copyFrom_32 : decode cX5_copyFrom 32 = .ok (.aload_n 0, 1) := by decide +kernel
theorem dX5_copyFrom_33 : decode cX5_copyFrom 33 = .ok (.aload_n 1, 1) := by decide +kernel
theorem dX5_copyFrom_34 : decode cX5_copyFrom 34 = .ok (.getfield 44, 3) := by decide +kernel
theorem dX5_copyFrom_37 : decode cX5_copyFrom 37 = .ok (.aload_n 1, 1) := by decide +kernel
theorem dX5_copyFrom_38 : decode cX5_copyFrom 38 = .ok (.getfield 47, 3) := by decide +kernel
theorem dX5_copyFrom_41 : decode cX5_copyFrom 41 = .ok (.aload_n 1, 1) := by decide +kernel
theorem dX5_copyFrom_42 : decode cX5_copyFrom 42 = .ok (.getfield 50, 3) := by decide +kernel
theorem dX5_copyFrom_45 : decode cX5_copyFrom 45 = .ok (.invokevirtual 33, 3) := by decide +kernel
theorem dX5_copyFrom_48 : decode cX5_copyFrom 48 = .ok (.aload_n 0, 1) := by decide +kernel
theorem dX5_copyFrom_49 : decode cX5_copyFrom 49 = .ok (.aload_n 1, 1) := by decide +kernel
theorem dX5_copyFrom_50 : decode cX5_copyFrom 50 = .ok (.getfield 37, 3) := by decide +kernel
theorem dX5_copyFrom_53 : decode cX5_copyFrom 53 = .ok (.putfield 37, 3) := by decide +kernel
theorem dX5_copyFrom_56 : decode cX5_copyFrom 56 = .ok (.aload_n 0, 1) := by decide +kernel
theorem dX5_copyFrom_57 : decode cX5_copyFrom 57 = .ok (.aload_n 1, 1) := by decide +kernel
theorem dX5_copyFrom_58 : decode cX5_copyFrom 58 = .ok (.getfield 41, 3) := by decide +kernel
theorem dX5_copyFrom_61 : decode cX5_copyFrom 61 = .ok (.putfield 41, 3) := by decide +kernel
theorem dX5_copyFrom_64 : decode cX5_copyFrom 64 = .ok (.return_, 1) := by decide +kernel
theorem dX5_isFor_0 : decode cX5_isFor 0 = .ok (.aload_n 0, 1) := by decide +kernel
theorem dX5_isFor_1 : decode cX5_isFor 1 = .ok (.getfield 9, 3) := by decide +kernel
theorem dX5_isFor_4 : decode cX5_isFor 4 = .ok (.iload_n 1, 1) := by decide +kernel
theorem dX5_isFor_5 : decode cX5_isFor 5 = .ok (.if_icmp .ne 15, 3) := by decide +kernel
theorem dX5_isFor_8 : decode cX5_isFor 8 = .ok (.aload_n 0, 1) := by decide +kernel
theorem dX5_isFor_9 : decode cX5_isFor 9 = .ok (.getfield 15, 3) := by decide +kernel
theorem dX5_isFor_12 : decode cX5_isFor 12 = .ok (.iload_n 2, 1) := by decide +kernel
theorem dX5_isFor_13 : decode cX5_isFor 13 = .ok (.if_icmp .ne 7, 3) := by decide +kernel
theorem dX5_isFor_16 : decode cX5_isFor 16 = .ok (.iconst 1, 1) := by decide +kernel
theorem dX5_isFor_17 : decode cX5_isFor 17 = .ok (.goto 4, 3) := by decide +kernel
theorem dX5_isFor_20 : decode cX5_isFor 20 = .ok (.iconst 0, 1) := by decide +kernel
theorem dX5_isFor_21 : decode cX5_isFor 21 = .ok (.ireturn, 1) := by decide +kernel
theorem dX5_holdsFor_0 : decode cX5_holdsFor 0 = .ok (.aload_n 1, 1) := by decide +kernel
theorem dX5_holdsFor_1 : decode cX5_holdsFor 1 = .ok (.aload_n 0, 1) := by decide +kernel
theorem dX5_holdsFor_2 : decode cX5_holdsFor 2 = .ok (.getfield 44, 3) := by decide +kernel
theorem dX5_holdsFor_5 : decode cX5_holdsFor 5 = .ok (.invokevirtual 57, 3) := by decide +kernel
theorem dX5_holdsFor_8 : decode cX5_holdsFor 8 = .ok (.istore_n 2, 1) := by decide +kernel
theorem dX5_holdsFor_9 : decode cX5_holdsFor 9 = .ok (.aload_n 0, 1) := by decide +kernel
theorem dX5_holdsFor_10 : decode cX5_holdsFor 10 = .ok (.getfield 47, 3) := by decide +kernel
theorem dX5_holdsFor_13 : decode cX5_holdsFor 13 = .ok (.tableswitch 105 0 4 #[35, 49, 63, 77, 91], 35) := by decide +kernel
theorem dX5_holdsFor_48 : decode cX5_holdsFor 48 = .ok (.iload_n 2, 1) := by decide +kernel
theorem dX5_holdsFor_49 : decode cX5_holdsFor 49 = .ok (.aload_n 0, 1) := by decide +kernel
theorem dX5_holdsFor_50 : decode cX5_holdsFor 50 = .ok (.getfield 50, 3) := by decide +kernel
theorem dX5_holdsFor_53 : decode cX5_holdsFor 53 = .ok (.if_icmp .ge 7, 3) := by decide +kernel
theorem dX5_holdsFor_56 : decode cX5_holdsFor 56 = .ok (.iconst 1, 1) := by decide +kernel
theorem dX5_holdsFor_57 : decode cX5_holdsFor 57 = .ok (.goto 4, 3) := by decide +kernel
theorem dX5_holdsFor_60 : decode cX5_holdsFor 60 = .ok (.iconst 0, 1) := by decide +kernel
theorem dX5_holdsFor_61 : decode cX5_holdsFor 61 = .ok (.ireturn, 1) := by decide +kernel
theorem dX5_holdsFor_62 : decode cX5_holdsFor 62 = .ok (.iload_n 2, 1) := by decide +kernel
theorem dX5_holdsFor_63 : decode cX5_holdsFor 63 = .ok (.aload_n 0, 1) := by decide +kernel
theorem dX5_holdsFor_64 : decode cX5_holdsFor 64 = .ok (.getfield 50, 3) := by decide +kernel
theorem dX5_holdsFor_67 : decode cX5_holdsFor 67 = .ok (.if_icmp .gt 7, 3) := by decide +kernel
theorem dX5_holdsFor_70 : decode cX5_holdsFor 70 = .ok (.iconst 1, 1) := by decide +kernel
theorem dX5_holdsFor_71 : decode cX5_holdsFor 71 = .ok (.goto 4, 3) := by decide +kernel
theorem dX5_holdsFor_74 : decode cX5_holdsFor 74 = .ok (.iconst 0, 1) := by decide +kernel
theorem dX5_holdsFor_75 : decode cX5_holdsFor 75 = .ok (.ireturn, 1) := by decide +kernel
theorem dX5_holdsFor_76 : decode cX5_holdsFor 76 = .ok (.iload_n 2, 1) := by decide +kernel
theorem dX5_holdsFor_77 : decode cX5_holdsFor 77 = .ok (.aload_n 0, 1) := by decide +kernel
theorem dX5_holdsFor_78 : decode cX5_holdsFor 78 = .ok (.getfield 50, 3) := by decide +kernel
theorem dX5_holdsFor_81 : decode cX5_holdsFor 81 = .ok (.if_icmp .ne 7, 3) := by decide +kernel
theorem dX5_holdsFor_84 : decode cX5_holdsFor 84 = .ok (.iconst 1, 1) := by decide +kernel
theorem dX5_holdsFor_85 : decode cX5_holdsFor 85 = .ok (.goto 4, 3) := by decide +kernel
theorem dX5_holdsFor_88 : decode cX5_holdsFor 88 = .ok (.iconst 0, 1) := by decide +kernel
theorem dX5_holdsFor_89 : decode cX5_holdsFor 89 = .ok (.ireturn, 1) := by decide +kernel
theorem dX5_holdsFor_90 : decode cX5_holdsFor 90 = .ok (.iload_n 2, 1) := by decide +kernel
theorem dX5_holdsFor_91 : decode cX5_holdsFor 91 = .ok (.aload_n 0, 1) := by decide +kernel
theorem dX5_holdsFor_92 : decode cX5_holdsFor 92 = .ok (.getfield 50, 3) := by decide +kernel
theorem dX5_holdsFor_95 : decode cX5_holdsFor 95 = .ok (.if_icmp .eq 7, 3) := by decide +kernel
theorem dX5_holdsFor_98 : decode cX5_holdsFor 98 = .ok (.iconst 1, 1) := by decide +kernel
theorem dX5_holdsFor_99 : decode cX5_holdsFor 99 = .ok (.goto 4, 3) := by decide +kernel
theorem dX5_holdsFor_102 : decode cX5_holdsFor 102 = .ok (.iconst 0, 1) := by decide +kernel
theorem dX5_holdsFor_103 : decode cX5_holdsFor 103 = .ok (.ireturn, 1) := by decide +kernel
theorem dX5_holdsFor_104 : decode cX5_holdsFor 104 = .ok (.iload_n 2, 1) := by decide +kernel
theorem dX5_holdsFor_105 : decode cX5_holdsFor 105 = .ok (.aload_n 0, 1) := by decide +kernel
theorem dX5_holdsFor_106 : decode cX5_holdsFor 106 = .ok (.getfield 50, 3) := by decide +kernel
theorem dX5_holdsFor_109 : decode cX5_holdsFor 109 = .ok (.if_icmp .lt 7, 3) := by decide +kernel
theorem dX5_holdsFor_112 : decode cX5_holdsFor 112 = .ok (.iconst 1, 1) := by decide +kernel
theorem dX5_holdsFor_113 : decode cX5_holdsFor 113 = .ok (.goto 4, 3) := by decide +kernel
theorem dX5_holdsFor_116 : decode cX5_holdsFor 116 = .ok (.iconst 0, 1) := by decide +kernel
theorem dX5_holdsFor_117 : decode cX5_holdsFor 117 = .ok (.ireturn, 1) := by decide +kernel
theorem dX5_holdsFor_118 : decode cX5_holdsFor 118 = .ok (.iload_n 2, 1) := by decide +kernel
theorem dX5_holdsFor_119 : decode cX5_holdsFor 119 = .ok (.aload_n 0, 1) := by decide +kernel
theorem dX5_holdsFor_120 : decode cX5_holdsFor 120 = .ok (.getfield 50, 3) := by decide +kernel
theorem dX5_holdsFor_123 : decode cX5_holdsFor 123 = .ok (.if_icmp .le 7, 3) := by decide +kernel
theorem dX5_holdsFor_126 : decode cX5_holdsFor 126 = .ok (.iconst 1, 1) := by decide +kernel
theorem dX5_holdsFor_127 : decode cX5_holdsFor 127 = .ok (.goto 4, 3) := by decide +kernel
theorem dX5_holdsFor_130 : decode cX5_holdsFor 130 = .ok (.iconst 0, 1) := by decide +kernel
theorem dX5_holdsFor_131 : decode cX5_holdsFor 131 = .ok (.ireturn, 1) := by decide +kernel
theorem dX5_valueFor_0 : decode cX5_valueFor 0 = .ok (.sipush (-999), 3) := by decide +kernel
theorem dX5_valueFor_3 : decode cX5_valueFor 3 = .ok (.sipush 999, 3) := by decide +kernel
theorem dX5_valueFor_6 : decode cX5_valueFor 6 = .ok (.aload_n 1, 1) := by decide +kernel
theorem dX5_valueFor_7 : decode cX5_valueFor 7 = .ok (.aload_n 0, 1) := by decide +kernel
theorem dX5_valueFor_8 : decode cX5_valueFor 8 = .ok (.getfield 27, 3) := by decide +kernel
theorem dX5_valueFor_11 : decode cX5_valueFor 11 = .ok (.invokevirtual 57, 3) := by decide +kernel
theorem dX5_valueFor_14 : decode cX5_valueFor 14 = .ok (.aload_n 0, 1) := by decide +kernel
theorem dX5_valueFor_15 : decode cX5_valueFor 15 = .ok (.getfield 30, 3) := by decide +kernel
theorem dX5_valueFor_18 : decode cX5_valueFor 18 = .ok (.iadd, 1) := by decide +kernel
theorem dX5_valueFor_19 : decode cX5_valueFor 19 = .ok (.invokestatic 63, 3) := by decide +kernel
theorem dX5_valueFor_22 : decode cX5_valueFor 22 = .ok (.invokestatic 69, 3) := by decide +kernel
theorem dX5_valueFor_25 : decode cX5_valueFor 25 = .ok (.ireturn, 1) := by decide +kernel
theorem dX5_tell_0 : decode cX5_tell 0 = .ok (.iload_n 1, 1) := by decide +kernel
theorem dX5_tell_1 : decode cX5_tell 1 = .ok (.tableswitch 131 0 11 #[63, 68, 73, 78, 83, 88, 93, 98, 103, 108, 113, 126], 63) := by decide +kernel
theorem dX5_tell_64 : decode cX5_tell 64 = .ok (.aload_n 0, 1) := by decide +kernel
theorem dX5_tell_65 : decode cX5_tell 65 = .ok (.getfield 9, 3) := by decide +kernel
theorem dX5_tell_68 : decode cX5_tell 68 = .ok (.ireturn, 1) := by decide +kernel
theorem dX5_tell_69 : decode cX5_tell 69 = .ok (.aload_n 0, 1) := by decide +kernel
theorem dX5_tell_70 : decode cX5_tell 70 = .ok (.getfield 15, 3) := by decide +kernel
theorem dX5_tell_73 : decode cX5_tell 73 = .ok (.ireturn, 1) := by decide +kernel
theorem dX5_tell_74 : decode cX5_tell 74 = .ok (.aload_n 0, 1) := by decide +kernel
theorem dX5_tell_75 : decode cX5_tell 75 = .ok (.getfield 18, 3) := by decide +kernel
theorem dX5_tell_78 : decode cX5_tell 78 = .ok (.ireturn, 1) := by decide +kernel
theorem dX5_tell_79 : decode cX5_tell 79 = .ok (.aload_n 0, 1) := by decide +kernel
theorem dX5_tell_80 : decode cX5_tell 80 = .ok (.getfield 21, 3) := by decide +kernel
theorem dX5_tell_83 : decode cX5_tell 83 = .ok (.ireturn, 1) := by decide +kernel
theorem dX5_tell_84 : decode cX5_tell 84 = .ok (.aload_n 0, 1) := by decide +kernel
theorem dX5_tell_85 : decode cX5_tell 85 = .ok (.getfield 24, 3) := by decide +kernel
theorem dX5_tell_88 : decode cX5_tell 88 = .ok (.ireturn, 1) := by decide +kernel
theorem dX5_tell_89 : decode cX5_tell 89 = .ok (.aload_n 0, 1) := by decide +kernel
theorem dX5_tell_90 : decode cX5_tell 90 = .ok (.getfield 27, 3) := by decide +kernel
theorem dX5_tell_93 : decode cX5_tell 93 = .ok (.ireturn, 1) := by decide +kernel
theorem dX5_tell_94 : decode cX5_tell 94 = .ok (.aload_n 0, 1) := by decide +kernel
theorem dX5_tell_95 : decode cX5_tell 95 = .ok (.getfield 30, 3) := by decide +kernel
theorem dX5_tell_98 : decode cX5_tell 98 = .ok (.ireturn, 1) := by decide +kernel
theorem dX5_tell_99 : decode cX5_tell 99 = .ok (.aload_n 0, 1) := by decide +kernel
theorem dX5_tell_100 : decode cX5_tell 100 = .ok (.getfield 44, 3) := by decide +kernel
theorem dX5_tell_103 : decode cX5_tell 103 = .ok (.ireturn, 1) := by decide +kernel
theorem dX5_tell_104 : decode cX5_tell 104 = .ok (.aload_n 0, 1) := by decide +kernel
theorem dX5_tell_105 : decode cX5_tell 105 = .ok (.getfield 47, 3) := by decide +kernel
theorem dX5_tell_108 : decode cX5_tell 108 = .ok (.ireturn, 1) := by decide +kernel
theorem dX5_tell_109 : decode cX5_tell 109 = .ok (.aload_n 0, 1) := by decide +kernel
theorem dX5_tell_110 : decode cX5_tell 110 = .ok (.getfield 50, 3) := by decide +kernel
theorem dX5_tell_113 : decode cX5_tell 113 = .ok (.ireturn, 1) := by decide +kernel
theorem dX5_tell_114 : decode cX5_tell 114 = .ok (.aload_n 0, 1) := by decide +kernel
theorem dX5_tell_115 : decode cX5_tell 115 = .ok (.getfield 37, 3) := by decide +kernel
theorem dX5_tell_118 : decode cX5_tell 118 = .ok (.ifCond .eq 7, 3) := by decide +kernel
theorem dX5_tell_121 : decode cX5_tell 121 = .ok (.iconst 1, 1) := by decide +kernel
theorem dX5_tell_122 : decode cX5_tell 122 = .ok (.goto 4, 3) := by decide +kernel
theorem dX5_tell_125 : decode cX5_tell 125 = .ok (.iconst 0, 1) := by decide +kernel
theorem dX5_tell_126 : decode cX5_tell 126 = .ok (.ireturn, 1) := by decide +kernel
theorem dX5_tell_127 : decode cX5_tell 127 = .ok (.aload_n 0, 1) := by decide +kernel
theorem dX5_tell_128 : decode cX5_tell 128 = .ok (.getfield 41, 3) := by decide +kernel
theorem dX5_tell_131 : decode cX5_tell 131 = .ok (.ireturn, 1) := by decide +kernel
theorem dX5_tell_132 : decode cX5_tell 132 = .ok (.sipush (-1002), 3) := by decide +kernel
theorem dX5_tell_135 : decode cX5_tell 135 = .ok (.ireturn, 1) := by decide +kernel
theorem dX6_init_0 : decode cX6_init 0 = .ok (.aload_n 0, 1) := by decide +kernel
theorem dX6_init_1 : decode cX6_init 1 = .ok (.invokespecial 3, 3) := by decide +kernel
theorem dX6_init_4 : decode cX6_init 4 = .ok (.aload_n 0, 1) := by decide +kernel
theorem dX6_init_5 : decode cX6_init 5 = .ok (.bipush 12, 2) := by decide +kernel
theorem dX6_init_7 : decode cX6_init 7 = .ok (.anewarray 9, 3) := by decide +kernel
theorem dX6_init_10 : decode cX6_init 10 = .ok (.putfield 11, 3) := by decide +kernel
theorem dX6_init_13 : decode cX6_init 13 = .ok (.aload_n 0, 1) := by decide +kernel
theorem dX6_init_14 : decode cX6_init 14 = .ok (.bipush 12, 2) := by decide +kernel
theorem dX6_init_16 : decode cX6_init 16 = .ok (.newarray .int, 2) := by decide +kernel
theorem dX6_init_18 : decode cX6_init 18 = .ok (.putfield 17, 3) := by decide +kernel
theorem dX6_init_21 : decode cX6_init 21 = .ok (.iconst 0, 1) := by decide +kernel
theorem dX6_init_22 : decode cX6_init 22 = .ok (.istore_n 1, 1) := by decide +kernel
theorem dX6_init_23 : decode cX6_init 23 = .ok (.iload_n 1, 1) := by decide +kernel
theorem dX6_init_24 : decode cX6_init 24 = .ok (.aload_n 0, 1) := by decide +kernel
theorem dX6_init_25 : decode cX6_init 25 = .ok (.getfield 11, 3) := by decide +kernel
theorem dX6_init_28 : decode cX6_init 28 = .ok (.arraylength, 1) := by decide +kernel
theorem dX6_init_29 : decode cX6_init 29 = .ok (.if_icmp .ge 22, 3) := by decide +kernel
theorem dX6_init_32 : decode cX6_init 32 = .ok (.aload_n 0, 1) := by decide +kernel
theorem dX6_init_33 : decode cX6_init 33 = .ok (.getfield 11, 3) := by decide +kernel
theorem dX6_init_36 : decode cX6_init 36 = .ok (.iload_n 1, 1) := by decide +kernel
theorem dX6_init_37 : decode cX6_init 37 = .ok (.new 9, 3) := by decide +kernel
theorem dX6_init_40 : decode cX6_init 40 = .ok (.dup, 1) := by decide +kernel
theorem dX6_init_41 : decode cX6_init 41 = .ok (.invokespecial 21, 3) := by decide +kernel
theorem dX6_init_44 : decode cX6_init 44 = .ok (.aastore, 1) := by decide +kernel
theorem dX6_init_45 : decode cX6_init 45 = .ok (.iinc 1 1, 3) := by decide +kernel
theorem dX6_init_48 : decode cX6_init 48 = .ok (.goto (-25), 3) := by decide +kernel
theorem dX6_init_51 : decode cX6_init 51 = .ok (.return_, 1) := by decide +kernel
theorem dX6_ruleOf_0 : decode cX6_ruleOf 0 = .ok (.iload_n 1, 1) := by decide +kernel
theorem dX6_ruleOf_1 : decode cX6_ruleOf 1 = .ok (.ifCond .lt 29, 3) := by decide +kernel
theorem dX6_ruleOf_4 : decode cX6_ruleOf 4 = .ok (.iload_n 1, 1) := by decide +kernel
theorem dX6_ruleOf_5 : decode cX6_ruleOf 5 = .ok (.aload_n 0, 1) := by decide +kernel
theorem dX6_ruleOf_6 : decode cX6_ruleOf 6 = .ok (.getfield 22, 3) := by decide +kernel
theorem dX6_ruleOf_9 : decode cX6_ruleOf 9 = .ok (.if_icmp .ge 21, 3) := by decide +kernel
theorem dX6_ruleOf_12 : decode cX6_ruleOf 12 = .ok (.iload_n 1, 1) := by decide +kernel
theorem dX6_ruleOf_13 : decode cX6_ruleOf 13 = .ok (.aload_n 0, 1) := by decide +kernel
theorem dX6_ruleOf_14 : decode cX6_ruleOf 14 = .ok (.getfield 11, 3) := by decide +kernel
theorem dX6_ruleOf_17 : decode cX6_ruleOf 17 = .ok (.arraylength, 1) := by decide +kernel
theorem dX6_ruleOf_18 : decode cX6_ruleOf 18 = .ok (.if_icmp .ge 12, 3) := by decide +kernel
theorem dX6_ruleOf_21 : decode cX6_ruleOf 21 = .ok (.aload_n 0, 1) := by decide +kernel
theorem dX6_ruleOf_22 : decode cX6_ruleOf 22 = .ok (.getfield 11, 3) := by decide +kernel
theorem dX6_ruleOf_25 : decode cX6_ruleOf 25 = .ok (.iload_n 1, 1) := by decide +kernel
theorem dX6_ruleOf_26 : decode cX6_ruleOf 26 = .ok (.aaload, 1) := by decide +kernel
theorem dX6_ruleOf_27 : decode cX6_ruleOf 27 = .ok (.goto 4, 3) := by decide +kernel
theorem dX6_ruleOf_30 : decode cX6_ruleOf 30 = .ok (.aconst_null, 1) := by decide +kernel
theorem dX6_ruleOf_31 : decode cX6_ruleOf 31 = .ok (.areturn, 1) := by decide +kernel
theorem dX6_numberAt_0 : decode cX6_numberAt 0 = .ok (.iload_n 1, 1) := by decide +kernel
theorem dX6_numberAt_1 : decode cX6_numberAt 1 = .ok (.ifCond .lt 29, 3) := by decide +kernel
theorem dX6_numberAt_4 : decode cX6_numberAt 4 = .ok (.iload_n 1, 1) := by decide +kernel
theorem dX6_numberAt_5 : decode cX6_numberAt 5 = .ok (.aload_n 0, 1) := by decide +kernel
theorem dX6_numberAt_6 : decode cX6_numberAt 6 = .ok (.getfield 22, 3) := by decide +kernel
theorem dX6_numberAt_9 : decode cX6_numberAt 9 = .ok (.if_icmp .ge 21, 3) := by decide +kernel
theorem dX6_numberAt_12 : decode cX6_numberAt 12 = .ok (.iload_n 1, 1) := by decide +kernel
theorem dX6_numberAt_13 : decode cX6_numberAt 13 = .ok (.aload_n 0, 1) := by decide +kernel
theorem dX6_numberAt_14 : decode cX6_numberAt 14 = .ok (.getfield 17, 3) := by decide +kernel
theorem dX6_numberAt_17 : decode cX6_numberAt 17 = .ok (.arraylength, 1) := by decide +kernel
theorem dX6_numberAt_18 : decode cX6_numberAt 18 = .ok (.if_icmp .ge 12, 3) := by decide +kernel
theorem dX6_numberAt_21 : decode cX6_numberAt 21 = .ok (.aload_n 0, 1) := by decide +kernel
theorem dX6_numberAt_22 : decode cX6_numberAt 22 = .ok (.getfield 17, 3) := by decide +kernel
theorem dX6_numberAt_25 : decode cX6_numberAt 25 = .ok (.iload_n 1, 1) := by decide +kernel
theorem dX6_numberAt_26 : decode cX6_numberAt 26 = .ok (.iaload, 1) := by decide +kernel
theorem dX6_numberAt_27 : decode cX6_numberAt 27 = .ok (.goto 6, 3) := by decide +kernel
theorem dX6_numberAt_30 : decode cX6_numberAt 30 = .ok (.sipush (-1006), 3) := by decide +kernel
theorem dX6_numberAt_33 : decode cX6_numberAt 33 = .ok (.ireturn, 1) := by decide +kernel
theorem dX6_numberAmong_0 : decode cX6_numberAmong 0 = .ok (.iconst 0, 1) := by decide +kernel
theorem dX6_numberAmong_1 : decode cX6_numberAmong 1 = .ok (.istore 4, 2) := by decide +kernel
theorem dX6_numberAmong_3 : decode cX6_numberAmong 3 = .ok (.iconst 0, 1) := by decide +kernel
theorem dX6_numberAmong_4 : decode cX6_numberAmong 4 = .ok (.istore 5, 2) := by decide +kernel
theorem dX6_numberAmong_6 : decode cX6_numberAmong 6 = .ok (.iload 5, 2) := by decide +kernel
theorem dX6_numberAmong_8 : decode cX6_numberAmong 8 = .ok (.aload_n 0, 1) := by decide +kernel
theorem dX6_numberAmong_9 : decode cX6_numberAmong 9 = .ok (.getfield 22, 3) := by decide +kernel
theorem dX6_numberAmong_12 : decode cX6_numberAmong 12 = .ok (.if_icmp .ge 52, 3) := by decide +kernel
theorem dX6_numberAmong_15 : decode cX6_numberAmong 15 = .ok (.aload_n 0, 1) := by decide +kernel
theorem dX6_numberAmong_16 : decode cX6_numberAmong 16 = .ok (.iload 5, 2) := by decide +kernel
theorem dX6_numberAmong_18 : decode cX6_numberAmong 18 = .ok (.invokevirtual 26, 3) := by decide +kernel
theorem dX6_numberAmong_21 : decode cX6_numberAmong 21 = .ok (.istore 6, 2) := by decide +kernel
theorem dX6_numberAmong_23 : decode cX6_numberAmong 23 = .ok (.aload_n 0, 1) := by decide +kernel
theorem dX6_numberAmong_24 : decode cX6_numberAmong 24 = .ok (.iload 6, 2) := by decide +kernel
theorem dX6_numberAmong_26 : decode cX6_numberAmong 26 = .ok (.invokevirtual 30, 3) := by decide +kernel
theorem dX6_numberAmong_29 : decode cX6_numberAmong 29 = .ok (.astore 7, 2) := by decide +kernel
theorem dX6_numberAmong_31 : decode cX6_numberAmong 31 = .ok (.aload 7, 2) := by decide +kernel
theorem dX6_numberAmong_33 : decode cX6_numberAmong 33 = .ok (.ifnull 25, 3) := by decide +kernel
theorem dX6_numberAmong_36 : decode cX6_numberAmong 36 = .ok (.aload 7, 2) := by decide +kernel
theorem dX6_numberAmong_38 : decode cX6_numberAmong 38 = .ok (.iload_n 1, 1) := by decide +kernel
theorem dX6_numberAmong_39 : decode cX6_numberAmong 39 = .ok (.iload_n 2, 1) := by decide +kernel
theorem dX6_numberAmong_40 : decode cX6_numberAmong 40 = .ok (.invokevirtual 34, 3) := by decide +kernel
theorem dX6_numberAmong_43 : decode cX6_numberAmong 43 = .ok (.ifCond .eq 15, 3) := by decide +kernel
theorem dX6_numberAmong_46 : decode cX6_numberAmong 46 = .ok (.iload 4, 2) := by decide +kernel
theorem dX6_numberAmong_48 : decode cX6_numberAmong 48 = .ok (.iload_n 3, 1) := by decide +kernel
theorem dX6_numberAmong_49 : decode cX6_numberAmong 49 = .ok (.if_icmp .ne 6, 3) := by decide +kernel
theorem dX6_numberAmong_52 : decode cX6_numberAmong 52 = .ok (.iload 6, 2) := by decide +kernel
theorem dX6_numberAmong_54 : decode cX6_numberAmong 54 = .ok (.ireturn, 1) := by decide +kernel
theorem dX6_numberAmong_55 : decode cX6_numberAmong 55 = .ok (.iinc 4 1, 3) := by decide +kernel
theorem dX6_numberAmong_58 : decode cX6_numberAmong 58 = .ok (.iinc 5 1, 3) := by decide +kernel
theorem dX6_numberAmong_61 : decode cX6_numberAmong 61 = .ok (.goto (-55), 3) := by decide +kernel
theorem dX6_numberAmong_64 : decode cX6_numberAmong 64 = .ok (.sipush (-1006), 3) := by decide +kernel
theorem dX6_numberAmong_67 : decode cX6_numberAmong 67 = .ok (.ireturn, 1) := by decide +kernel
theorem dX6_countOn_0 : decode cX6_countOn 0 = .ok (.iconst 0, 1) := by decide +kernel
theorem dX6_countOn_1 : decode cX6_countOn 1 = .ok (.istore_n 1, 1) := by decide +kernel
theorem dX6_countOn_2 : decode cX6_countOn 2 = .ok (.iconst 0, 1) := by decide +kernel
theorem dX6_countOn_3 : decode cX6_countOn 3 = .ok (.istore_n 2, 1) := by decide +kernel
theorem dX6_countOn_4 : decode cX6_countOn 4 = .ok (.iload_n 2, 1) := by decide +kernel
theorem dX6_countOn_5 : decode cX6_countOn 5 = .ok (.aload_n 0, 1) := by decide +kernel
theorem dX6_countOn_6 : decode cX6_countOn 6 = .ok (.getfield 22, 3) := by decide +kernel
theorem dX6_countOn_9 : decode cX6_countOn 9 = .ok (.if_icmp .ge 29, 3) := by decide +kernel
theorem dX6_countOn_12 : decode cX6_countOn 12 = .ok (.aload_n 0, 1) := by decide +kernel
theorem dX6_countOn_13 : decode cX6_countOn 13 = .ok (.iload_n 2, 1) := by decide +kernel
theorem dX6_countOn_14 : decode cX6_countOn 14 = .ok (.invokevirtual 30, 3) := by decide +kernel
theorem dX6_countOn_17 : decode cX6_countOn 17 = .ok (.astore_n 3, 1) := by decide +kernel
theorem dX6_countOn_18 : decode cX6_countOn 18 = .ok (.aload_n 3, 1) := by decide +kernel
theorem dX6_countOn_19 : decode cX6_countOn 19 = .ok (.ifnull 13, 3) := by decide +kernel
theorem dX6_countOn_22 : decode cX6_countOn 22 = .ok (.aload_n 3, 1) := by decide +kernel
theorem dX6_countOn_23 : decode cX6_countOn 23 = .ok (.getfield 38, 3) := by decide +kernel
theorem dX6_countOn_26 : decode cX6_countOn 26 = .ok (.ifCond .eq 6, 3) := by decide +kernel
theorem dX6_countOn_29 : decode cX6_countOn 29 = .ok (.iinc 1 1, 3) := by decide +kernel
theorem dX6_countOn_32 : decode cX6_countOn 32 = .ok (.iinc 2 1, 3) := by decide +kernel
theorem dX6_countOn_35 : decode cX6_countOn 35 = .ok (.goto (-31), 3) := by decide +kernel
theorem dX6_countOn_38 : decode cX6_countOn 38 = .ok (.iload_n 1, 1) := by decide +kernel
theorem dX6_countOn_39 : decode cX6_countOn 39 = .ok (.ireturn, 1) := by decide +kernel
theorem dX6_spare_0 : decode cX6_spare 0 = .ok (.aload_n 0, 1) := by decide +kernel
theorem dX6_spare_1 : decode cX6_spare 1 = .ok (.getfield 22, 3) := by decide +kernel
theorem dX6_spare_4 : decode cX6_spare 4 = .ok (.ifCond .lt 27, 3) := by decide +kernel
theorem dX6_spare_7 : decode cX6_spare 7 = .ok (.aload_n 0, 1) := by decide +kernel
theorem dX6_spare_8 : decode cX6_spare 8 = .ok (.getfield 22, 3) := by decide +kernel
theorem dX6_spare_11 : decode cX6_spare 11 = .ok (.aload_n 0, 1) := by decide +kernel
theorem dX6_spare_12 : decode cX6_spare 12 = .ok (.getfield 11, 3) := by decide +kernel
theorem dX6_spare_15 : decode cX6_spare 15 = .ok (.arraylength, 1) := by decide +kernel
theorem dX6_spare_16 : decode cX6_spare 16 = .ok (.if_icmp .ge 15, 3) := by decide +kernel
theorem dX6_spare_19 : decode cX6_spare 19 = .ok (.aload_n 0, 1) := by decide +kernel
theorem dX6_spare_20 : decode cX6_spare 20 = .ok (.getfield 11, 3) := by decide +kernel
theorem dX6_spare_23 : decode cX6_spare 23 = .ok (.aload_n 0, 1) := by decide +kernel
theorem dX6_spare_24 : decode cX6_spare 24 = .ok (.getfield 22, 3) := by decide +kernel
theorem dX6_spare_27 : decode cX6_spare 27 = .ok (.aaload, 1) := by decide +kernel
theorem dX6_spare_28 : decode cX6_spare 28 = .ok (.goto 4, 3) := by decide +kernel
theorem dX6_spare_31 : decode cX6_spare 31 = .ok (.aconst_null, 1) := by decide +kernel
theorem dX6_spare_32 : decode cX6_spare 32 = .ok (.areturn, 1) := by decide +kernel
theorem dX6_takeSpare_0 : decode cX6_takeSpare 0 = .ok (.aload_n 0, 1) := by decide +kernel
theorem dX6_takeSpare_1 : decode cX6_takeSpare 1 = .ok (.dup, 1) := by decide +kernel
theorem dX6_takeSpare_2 : decode cX6_takeSpare 2 = .ok (.getfield 22, 3) := by decide +kernel
theorem dX6_takeSpare_5 : decode cX6_takeSpare 5 = .ok (.iconst 1, 1) := by decide +kernel
theorem dX6_takeSpare_6 : decode cX6_takeSpare 6 = .ok (.iadd, 1) := by decide +kernel
theorem dX6_takeSpare_7 : decode cX6_takeSpare 7 = .ok (.putfield 22, 3) := by decide +kernel
theorem dX6_takeSpare_10 : decode cX6_takeSpare 10 = .ok (.aload_n 0, 1) := by decide +kernel
theorem dX6_takeSpare_11 : decode cX6_takeSpare 11 = .ok (.invokevirtual 42, 3) := by decide +kernel
theorem dX6_takeSpare_14 : decode cX6_takeSpare 14 = .ok (.aload_n 0, 1) := by decide +kernel
theorem dX6_takeSpare_15 : decode cX6_takeSpare 15 = .ok (.getfield 22, 3) := by decide +kernel
theorem dX6_takeSpare_18 : decode cX6_takeSpare 18 = .ok (.iconst 1, 1) := by decide +kernel
theorem dX6_takeSpare_19 : decode cX6_takeSpare 19 = .ok (.isub, 1) := by decide +kernel
theorem dX6_takeSpare_20 : decode cX6_takeSpare 20 = .ok (.ireturn, 1) := by decide +kernel
theorem dX6_drop_0 : decode cX6_drop 0 = .ok (.iload_n 1, 1) := by decide +kernel
theorem dX6_drop_1 : decode cX6_drop 1 = .ok (.ifCond .lt 20, 3) := by decide +kernel
theorem dX6_drop_4 : decode cX6_drop 4 = .ok (.iload_n 1, 1) := by decide +kernel
theorem dX6_drop_5 : decode cX6_drop 5 = .ok (.aload_n 0, 1) := by decide +kernel
theorem dX6_drop_6 : decode cX6_drop 6 = .ok (.getfield 22, 3) := by decide +kernel
theorem dX6_drop_9 : decode cX6_drop 9 = .ok (.if_icmp .ge 12, 3) := by decide +kernel
theorem dX6_drop_12 : decode cX6_drop 12 = .ok (.iload_n 1, 1) := by decide +kernel
theorem dX6_drop_13 : decode cX6_drop 13 = .ok (.aload_n 0, 1) := by decide +kernel
theorem dX6_drop_14 : decode cX6_drop 14 = .ok (.getfield 11, 3) := by decide +kernel
theorem dX6_drop_17 : decode cX6_drop 17 = .ok (.arraylength, 1) := by decide +kernel
theorem dX6_drop_18 : decode cX6_drop 18 = .ok (.if_icmp .lt 4, 3) := by decide +kernel
theorem dX6_drop_21 : decode cX6_drop 21 = .ok (.return_, 1) := by decide +kernel
theorem dX6_drop_22 : decode cX6_drop 22 = .ok (.aload_n 0, 1) := by decide +kernel
theorem dX6_drop_23 : decode cX6_drop 23 = .ok (.getfield 11, 3) := by decide +kernel
theorem dX6_drop_26 : decode cX6_drop 26 = .ok (.iload_n 1, 1) := by decide +kernel
theorem dX6_drop_27 : decode cX6_drop 27 = .ok (.aaload, 1) := by decide +kernel
theorem dX6_drop_28 : decode cX6_drop 28 = .ok (.astore_n 2, 1) := by decide +kernel
theorem dX6_drop_29 : decode cX6_drop 29 = .ok (.iload_n 1, 1) := by decide +kernel
theorem dX6_drop_30 : decode cX6_drop 30 = .ok (.istore_n 3, 1) := by decide +kernel
theorem dX6_drop_31 : decode cX6_drop 31 = .ok (.iload_n 3, 1) := by decide +kernel
theorem dX6_drop_32 : decode cX6_drop 32 = .ok (.iconst 1, 1) := by decide +kernel
theorem dX6_drop_33 : decode cX6_drop 33 = .ok (.iadd, 1) := by decide +kernel
theorem dX6_drop_34 : decode cX6_drop 34 = .ok (.aload_n 0, 1) := by decide +kernel
theorem dX6_drop_35 : decode cX6_drop 35 = .ok (.getfield 22, 3) := by decide +kernel
theorem dX6_drop_38 : decode cX6_drop 38 = .ok (.if_icmp .ge 34, 3) := by decide +kernel
theorem dX6_drop_41 : decode cX6_drop 41 = .ok (.iload_n 3, 1) := by decide +kernel
theorem dX6_drop_42 : decode cX6_drop 42 = .ok (.iconst 1, 1) := by decide +kernel
theorem dX6_drop_43 : decode cX6_drop 43 = .ok (.iadd, 1) := by decide +kernel
theorem dX6_drop_44 : decode cX6_drop 44 = .ok (.aload_n 0, 1) := by decide +kernel
theorem dX6_drop_45 : decode cX6_drop 45 = .ok (.getfield 11, 3) := by decide +kernel
theorem dX6_drop_48 : decode cX6_drop 48 = .ok (.arraylength, 1) := by decide +kernel
theorem dX6_drop_49 : decode cX6_drop 49 = .ok (.if_icmp .ge 23, 3) := by decide +kernel
theorem dX6_drop_52 : decode cX6_drop 52 = .ok (.aload_n 0, 1) := by decide +kernel
theorem dX6_drop_53 : decode cX6_drop 53 = .ok (.getfield 11, 3) := by decide +kernel
theorem dX6_drop_56 : decode cX6_drop 56 = .ok (.iload_n 3, 1) := by decide +kernel
theorem dX6_drop_57 : decode cX6_drop 57 = .ok (.aload_n 0, 1) := by decide +kernel
theorem dX6_drop_58 : decode cX6_drop 58 = .ok (.getfield 11, 3) := by decide +kernel
theorem dX6_drop_61 : decode cX6_drop 61 = .ok (.iload_n 3, 1) := by decide +kernel
theorem dX6_drop_62 : decode cX6_drop 62 = .ok (.iconst 1, 1) := by decide +kernel
theorem dX6_drop_63 : decode cX6_drop 63 = .ok (.iadd, 1) := by decide +kernel
theorem dX6_drop_64 : decode cX6_drop 64 = .ok (.aaload, 1) := by decide +kernel
theorem dX6_drop_65 : decode cX6_drop 65 = .ok (.aastore, 1) := by decide +kernel
theorem dX6_drop_66 : decode cX6_drop 66 = .ok (.iinc 3 1, 3) := by decide +kernel
theorem dX6_drop_69 : decode cX6_drop 69 = .ok (.goto (-38), 3) := by decide +kernel
theorem dX6_drop_72 : decode cX6_drop 72 = .ok (.aload_n 0, 1) := by decide +kernel
theorem dX6_drop_73 : decode cX6_drop 73 = .ok (.getfield 11, 3) := by decide +kernel
theorem dX6_drop_76 : decode cX6_drop 76 = .ok (.iload_n 3, 1) := by decide +kernel
theorem dX6_drop_77 : decode cX6_drop 77 = .ok (.aload_n 2, 1) := by decide +kernel
theorem dX6_drop_78 : decode cX6_drop 78 = .ok (.aastore, 1) := by decide +kernel
theorem dX6_drop_79 : decode cX6_drop 79 = .ok (.aload_n 0, 1) := by decide +kernel
theorem dX6_drop_80 : decode cX6_drop 80 = .ok (.dup, 1) := by decide +kernel
theorem dX6_drop_81 : decode cX6_drop 81 = .ok (.getfield 22, 3) := by decide +kernel
theorem dX6_drop_84 : decode cX6_drop 84 = .ok (.iconst 1, 1) := by decide +kernel
theorem dX6_drop_85 : decode cX6_drop 85 = .ok (.isub, 1) := by decide +kernel
theorem dX6_drop_86 : decode cX6_drop 86 = .ok (.putfield 22, 3) := by decide +kernel
theorem dX6_drop_89 : decode cX6_drop 89 = .ok (.aload_n 0, 1) := by decide +kernel
theorem dX6_drop_90 : decode cX6_drop 90 = .ok (.invokevirtual 42, 3) := by decide +kernel
theorem dX6_drop_93 : decode cX6_drop 93 = .ok (.return_, 1) := by decide +kernel
theorem dX6_sortByRank_0 : decode cX6_sortByRank 0 = .ok (.iconst 0, 1) := by decide +kernel
theorem dX6_sortByRank_1 : decode cX6_sortByRank 1 = .ok (.istore_n 1, 1) := by decide +kernel
theorem dX6_sortByRank_2 : decode cX6_sortByRank 2 = .ok (.iload_n 1, 1) := by decide +kernel
theorem dX6_sortByRank_3 : decode cX6_sortByRank 3 = .ok (.aload_n 0, 1) := by decide +kernel
theorem dX6_sortByRank_4 : decode cX6_sortByRank 4 = .ok (.getfield 22, 3) := by decide +kernel
theorem dX6_sortByRank_7 : decode cX6_sortByRank 7 = .ok (.if_icmp .ge 71, 3) := by decide +kernel
theorem dX6_sortByRank_10 : decode cX6_sortByRank 10 = .ok (.iload_n 1, 1) := by decide +kernel
theorem dX6_sortByRank_11 : decode cX6_sortByRank 11 = .ok (.aload_n 0, 1) := by decide +kernel
theorem dX6_sortByRank_12 : decode cX6_sortByRank 12 = .ok (.getfield 17, 3) := by decide +kernel
theorem dX6_sortByRank_15 : decode cX6_sortByRank 15 = .ok (.arraylength, 1) := by decide +kernel
theorem dX6_sortByRank_16 : decode cX6_sortByRank 16 = .ok (.if_icmp .ge 62, 3) := by decide +kernel
theorem dX6_sortByRank_19 : decode cX6_sortByRank 19 = .ok (.iload_n 1, 1) := by decide +kernel
theorem dX6_sortByRank_20 : decode cX6_sortByRank 20 = .ok (.istore_n 2, 1) := by decide +kernel
theorem dX6_sortByRank_21 : decode cX6_sortByRank 21 = .ok (.iload_n 2, 1) := by decide +kernel
theorem dX6_sortByRank_22 : decode cX6_sortByRank 22 = .ok (.ifCond .le 43, 3) := by decide +kernel
theorem dX6_sortByRank_25 : decode cX6_sortByRank 25 = .ok (.aload_n 0, 1) := by decide +kernel
theorem dX6_sortByRank_26 : decode cX6_sortByRank 26 = .ok (.aload_n 0, 1) := by decide +kernel
theorem dX6_sortByRank_27 : decode cX6_sortByRank 27 = .ok (.getfield 17, 3) := by decide +kernel
theorem dX6_sortByRank_30 : decode cX6_sortByRank 30 = .ok (.iload_n 2, 1) := by decide +kernel
theorem dX6_sortByRank_31 : decode cX6_sortByRank 31 = .ok (.iconst 1, 1) := by decide +kernel
theorem dX6_sortByRank_32 : decode cX6_sortByRank 32 = .ok (.isub, 1) := by decide +kernel
theorem dX6_sortByRank_33 : decode cX6_sortByRank 33 = .ok (.iaload, 1) := by decide +kernel
theorem dX6_sortByRank_34 : decode cX6_sortByRank 34 = .ok (.invokevirtual 45, 3) := by decide +kernel
theorem dX6_sortByRank_37 : decode cX6_sortByRank 37 = .ok (.aload_n 0, 1) := by decide +kernel
theorem dX6_sortByRank_38 : decode cX6_sortByRank 38 = .ok (.iload_n 1, 1) := by decide +kernel
theorem dX6_sortByRank_39 : decode cX6_sortByRank 39 = .ok (.invokevirtual 45, 3) := by decide +kernel
theorem dX6_sortByRank_42 : decode cX6_sortByRank 42 = .ok (.if_icmp .le 23, 3) := by decide +kernel
theorem dX6_sortByRank_45 : decode cX6_sortByRank 45 = .ok (.aload_n 0, 1) := by decide +kernel
theorem dX6_sortByRank_46 : decode cX6_sortByRank 46 = .ok (.getfield 17, 3) := by decide +kernel
theorem dX6_sortByRank_49 : decode cX6_sortByRank 49 = .ok (.iload_n 2, 1) := by decide +kernel
theorem dX6_sortByRank_50 : decode cX6_sortByRank 50 = .ok (.aload_n 0, 1) := by decide +kernel
theorem dX6_sortByRank_51 : decode cX6_sortByRank 51 = .ok (.getfield 17, 3) := by decide +kernel
theorem dX6_sortByRank_54 : decode cX6_sortByRank 54 = .ok (.iload_n 2, 1) := by decide +kernel
theorem dX6_sortByRank_55 : decode cX6_sortByRank 55 = .ok (.iconst 1, 1) := by decide +kernel
theorem dX6_sortByRank_56 : decode cX6_sortByRank 56 = .ok (.isub, 1) := by decide +kernel
theorem dX6_sortByRank_57 : decode cX6_sortByRank 57 = .ok (.iaload, 1) := by decide +kernel
theorem dX6_sortByRank_58 : decode cX6_sortByRank 58 = .ok (.iastore, 1) := by decide +kernel
theorem dX6_sortByRank_59 : decode cX6_sortByRank 59 = .ok (.iinc 2 (-1), 3) := by decide +kernel
theorem dX6_sortByRank_62 : decode cX6_sortByRank 62 = .ok (.goto (-41), 3) := by decide +kernel
theorem dX6_sortByRank_65 : decode cX6_sortByRank 65 = .ok (.aload_n 0, 1) := by decide +kernel
theorem dX6_sortByRank_66 : decode cX6_sortByRank 66 = .ok (.getfield 17, 3) := by decide +kernel
theorem dX6_sortByRank_69 : decode cX6_sortByRank 69 = .ok (.iload_n 2, 1) := by decide +kernel
theorem dX6_sortByRank_70 : decode cX6_sortByRank 70 = .ok (.iload_n 1, 1) := by decide +kernel
theorem dX6_sortByRank_71 : decode cX6_sortByRank 71 = .ok (.iastore, 1) := by decide +kernel
theorem dX6_sortByRank_72 : decode cX6_sortByRank 72 = .ok (.iinc 1 1, 3) := by decide +kernel
theorem dX6_sortByRank_75 : decode cX6_sortByRank 75 = .ok (.goto (-73), 3) := by decide +kernel
theorem dX6_sortByRank_78 : decode cX6_sortByRank 78 = .ok (.return_, 1) := by decide +kernel
theorem dX6_rankOf_0 : decode cX6_rankOf 0 = .ok (.aload_n 0, 1) := by decide +kernel
theorem dX6_rankOf_1 : decode cX6_rankOf 1 = .ok (.iload_n 1, 1) := by decide +kernel
theorem dX6_rankOf_2 : decode cX6_rankOf 2 = .ok (.invokevirtual 30, 3) := by decide +kernel
theorem dX6_rankOf_5 : decode cX6_rankOf 5 = .ok (.astore_n 2, 1) := by decide +kernel
theorem dX6_rankOf_6 : decode cX6_rankOf 6 = .ok (.aload_n 2, 1) := by decide +kernel
theorem dX6_rankOf_7 : decode cX6_rankOf 7 = .ok (.ifnonnull 9, 3) := by decide +kernel
theorem dX6_rankOf_10 : decode cX6_rankOf 10 = .ok (.sipush (-1006), 3) := by decide +kernel
theorem dX6_rankOf_13 : decode cX6_rankOf 13 = .ok (.goto 7, 3) := by decide +kernel
theorem dX6_rankOf_16 : decode cX6_rankOf 16 = .ok (.aload_n 2, 1) := by decide +kernel
theorem dX6_rankOf_17 : decode cX6_rankOf 17 = .ok (.getfield 48, 3) := by decide +kernel
theorem dX6_rankOf_20 : decode cX6_rankOf 20 = .ok (.ireturn, 1) := by decide +kernel
theorem dX6_copyFrom_0 : decode cX6_copyFrom 0 = .ok (.aload_n 0, 1) := by decide +kernel
theorem dX6_copyFrom_1 : decode cX6_copyFrom 1 = .ok (.aload_n 1, 1) := by decide +kernel
theorem dX6_copyFrom_2 : decode cX6_copyFrom 2 = .ok (.getfield 22, 3) := by decide +kernel
theorem dX6_copyFrom_5 : decode cX6_copyFrom 5 = .ok (.putfield 22, 3) := by decide +kernel
theorem dX6_copyFrom_8 : decode cX6_copyFrom 8 = .ok (.iconst 0, 1) := by decide +kernel
theorem dX6_copyFrom_9 : decode cX6_copyFrom 9 = .ok (.istore_n 2, 1) := by decide +kernel
theorem dX6_copyFrom_10 : decode cX6_copyFrom 10 = .ok (.iload_n 2, 1) := by decide +kernel
theorem dX6_copyFrom_11 : decode cX6_copyFrom 11 = .ok (.aload_n 0, 1) := by decide +kernel
theorem dX6_copyFrom_12 : decode cX6_copyFrom 12 = .ok (.getfield 22, 3) := by decide +kernel
theorem dX6_copyFrom_15 : decode cX6_copyFrom 15 = .ok (.if_icmp .ge 47, 3) := by decide +kernel
theorem dX6_copyFrom_18 : decode cX6_copyFrom 18 = .ok (.iload_n 2, 1) := by decide +kernel
theorem dX6_copyFrom_19 : decode cX6_copyFrom 19 = .ok (.aload_n 0, 1) := by decide +kernel
theorem dX6_copyFrom_20 : decode cX6_copyFrom 20 = .ok (.getfield 11, 3) := by decide +kernel
theorem dX6_copyFrom_23 : decode cX6_copyFrom 23 = .ok (.arraylength, 1) := by decide +kernel
theorem dX6_copyFrom_24 : decode cX6_copyFrom 24 = .ok (.if_icmp .ge 38, 3) := by decide +kernel
theorem dX6_copyFrom_27 : decode cX6_copyFrom 27 = .ok (.aload_n 0, 1) := by decide +kernel
theorem dX6_copyFrom_28 : decode cX6_copyFrom 28 = .ok (.getfield 11, 3) := by decide +kernel
theorem dX6_copyFrom_31 : decode cX6_copyFrom 31 = .ok (.iload_n 2, 1) := by decide +kernel
theorem dX6_copyFrom_32 : decode cX6_copyFrom 32 = .ok (.aaload, 1) := by decide +kernel
theorem dX6_copyFrom_33 : decode cX6_copyFrom 33 = .ok (.astore_n 3, 1) := by decide +kernel
theorem dX6_copyFrom_34 : decode cX6_copyFrom 34 = .ok (.aload_n 1, 1) := by decide +kernel
theorem dX6_copyFrom_35 : decode cX6_copyFrom 35 = .ok (.iload_n 2, 1) := by decide +kernel
theorem dX6_copyFrom_36 : decode cX6_copyFrom 36 = .ok (.invokevirtual 30, 3) := by decide +kernel
theorem dX6_copyFrom_39 : decode cX6_copyFrom 39 = .ok (.astore 4, 2) := by decide +kernel
theorem dX6_copyFrom_41 : decode cX6_copyFrom 41 = .ok (.aload_n 3, 1) := by decide +kernel
theorem dX6_copyFrom_42 : decode cX6_copyFrom 42 = .ok (.ifnull 14, 3) := by decide +kernel
theorem dX6_copyFrom_45 : decode cX6_copyFrom 45 = .ok (.aload 4, 2) := by decide +kernel
theorem dX6_copyFrom_47 : decode cX6_copyFrom 47 = .ok (.ifnull 9, 3) := by decide +kernel
theorem dX6_copyFrom_50 : decode cX6_copyFrom 50 = .ok (.aload_n 3, 1) := by decide +kernel
theorem dX6_copyFrom_51 : decode cX6_copyFrom 51 = .ok (.aload 4, 2) := by decide +kernel
theorem dX6_copyFrom_53 : decode cX6_copyFrom 53 = .ok (.invokevirtual 51, 3) := by decide +kernel
theorem dX6_copyFrom_56 : decode cX6_copyFrom 56 = .ok (.iinc 2 1, 3) := by decide +kernel
theorem dX6_copyFrom_59 : decode cX6_copyFrom 59 = .ok (.goto (-49), 3) := by decide +kernel
theorem dX6_copyFrom_62 : decode cX6_copyFrom 62 = .ok (.aload_n 1, 1) := by decide +kernel
theorem dX6_copyFrom_63 : decode cX6_copyFrom 63 = .ok (.getfield 17, 3) := by decide +kernel
theorem dX6_copyFrom_66 : decode cX6_copyFrom 66 = .ok (.iconst 0, 1) := by decide +kernel
theorem dX6_copyFrom_67 : decode cX6_copyFrom 67 = .ok (.aload_n 0, 1) := by decide +kernel
theorem dX6_copyFrom_68 : decode cX6_copyFrom 68 = .ok (.getfield 17, 3) := by decide +kernel
theorem dX6_copyFrom_71 : decode cX6_copyFrom 71 = .ok (.iconst 0, 1) := by decide +kernel
theorem dX6_copyFrom_72 : decode cX6_copyFrom 72 = .ok (.bipush 12, 2) := by decide +kernel
theorem dX6_copyFrom_74 : decode cX6_copyFrom 74 = .ok (.invokestatic 55, 3) := by decide +kernel
theorem dX6_copyFrom_77 : decode cX6_copyFrom 77 = .ok (.return_, 1) := by decide +kernel
theorem dX7_init_0 : decode cX7_init 0 = .ok (.aload_n 0, 1) := by decide +kernel
theorem dX7_init_1 : decode cX7_init 1 = .ok (.invokespecial 3, 3) := by decide +kernel
theorem dX7_init_4 : decode cX7_init 4 = .ok (.aload_n 0, 1) := by decide +kernel
theorem dX7_init_5 : decode cX7_init 5 = .ok (.new 9, 3) := by decide +kernel
theorem dX7_init_8 : decode cX7_init 8 = .ok (.dup, 1) := by decide +kernel
theorem dX7_init_9 : decode cX7_init 9 = .ok (.invokespecial 11, 3) := by decide +kernel
theorem dX7_init_12 : decode cX7_init 12 = .ok (.putfield 12, 3) := by decide +kernel
theorem dX7_init_15 : decode cX7_init 15 = .ok (.aload_n 0, 1) := by decide +kernel
theorem dX7_init_16 : decode cX7_init 16 = .ok (.new 18, 3) := by decide +kernel
theorem dX7_init_19 : decode cX7_init 19 = .ok (.dup, 1) := by decide +kernel
theorem dX7_init_20 : decode cX7_init 20 = .ok (.invokespecial 20, 3) := by decide +kernel
theorem dX7_init_23 : decode cX7_init 23 = .ok (.putfield 21, 3) := by decide +kernel
theorem dX7_init_26 : decode cX7_init 26 = .ok (.aload_n 0, 1) := by decide +kernel
theorem dX7_init_27 : decode cX7_init 27 = .ok (.new 25, 3) := by decide +kernel
theorem dX7_init_30 : decode cX7_init 30 = .ok (.dup, 1) := by decide +kernel
theorem dX7_init_31 : decode cX7_init 31 = .ok (.invokespecial 27, 3) := by decide +kernel
theorem dX7_init_34 : decode cX7_init 34 = .ok (.putfield 28, 3) := by decide +kernel
theorem dX7_init_37 : decode cX7_init 37 = .ok (.aload_n 0, 1) := by decide +kernel
theorem dX7_init_38 : decode cX7_init 38 = .ok (.iconst 4, 1) := by decide +kernel
theorem dX7_init_39 : decode cX7_init 39 = .ok (.putfield 32, 3) := by decide +kernel
theorem dX7_init_42 : decode cX7_init 42 = .ok (.return_, 1) := by decide +kernel
theorem dX7_copyFrom_0 : decode cX7_copyFrom 0 = .ok (.aload_n 0, 1) := by decide +kernel
theorem dX7_copyFrom_1 : decode cX7_copyFrom 1 = .ok (.getfield 12, 3) := by decide +kernel
theorem dX7_copyFrom_4 : decode cX7_copyFrom 4 = .ok (.aload_n 1, 1) := by decide +kernel
theorem dX7_copyFrom_5 : decode cX7_copyFrom 5 = .ok (.getfield 12, 3) := by decide +kernel
theorem dX7_copyFrom_8 : decode cX7_copyFrom 8 = .ok (.invokevirtual 36, 3) := by decide +kernel
theorem dX7_copyFrom_11 : decode cX7_copyFrom 11 = .ok (.aload_n 0, 1) := by decide +kernel
theorem dX7_copyFrom_12 : decode cX7_copyFrom 12 = .ok (.getfield 21, 3) := by decide +kernel
theorem dX7_copyFrom_15 : decode cX7_copyFrom 15 = .ok (.aload_n 1, 1) := by decide +kernel
theorem dX7_copyFrom_16 : decode cX7_copyFrom 16 = .ok (.getfield 21, 3) := by decide +kernel
theorem dX7_copyFrom_19 : decode cX7_copyFrom 19 = .ok (.invokevirtual 40, 3) := by decide +kernel
theorem dX7_copyFrom_22 : decode cX7_copyFrom 22 = .ok (.aload_n 0, 1) := by decide +kernel
theorem dX7_copyFrom_23 : decode cX7_copyFrom 23 = .ok (.getfield 28, 3) := by decide +kernel
theorem dX7_copyFrom_26 : decode cX7_copyFrom 26 = .ok (.aload_n 1, 1) := by decide +kernel
theorem dX7_copyFrom_27 : decode cX7_copyFrom 27 = .ok (.getfield 28, 3) := by decide +kernel
theorem dX7_copyFrom_30 : decode cX7_copyFrom 30 = .ok (.invokevirtual 43, 3) := by decide +kernel
theorem dX7_copyFrom_33 : decode cX7_copyFrom 33 = .ok (.aload_n 0, 1) := by decide +kernel
theorem dX7_copyFrom_34 : decode cX7_copyFrom 34 = .ok (.aload_n 1, 1) := by decide +kernel
theorem dX7_copyFrom_35 : decode cX7_copyFrom 35 = .ok (.getfield 32, 3) := by decide +kernel
theorem dX7_copyFrom_38 : decode cX7_copyFrom 38 = .ok (.putfield 32, 3) := by decide +kernel
theorem dX7_copyFrom_41 : decode cX7_copyFrom 41 = .ok (.aload_n 0, 1) := by decide +kernel
theorem dX7_copyFrom_42 : decode cX7_copyFrom 42 = .ok (.aload_n 1, 1) := by decide +kernel
theorem dX7_copyFrom_43 : decode cX7_copyFrom 43 = .ok (.getfield 46, 3) := by decide +kernel
theorem dX7_copyFrom_46 : decode cX7_copyFrom 46 = .ok (.putfield 46, 3) := by decide +kernel
theorem dX7_copyFrom_49 : decode cX7_copyFrom 49 = .ok (.aload_n 0, 1) := by decide +kernel
theorem dX7_copyFrom_50 : decode cX7_copyFrom 50 = .ok (.aload_n 1, 1) := by decide +kernel
theorem dX7_copyFrom_51 : decode cX7_copyFrom 51 = .ok (.getfield 49, 3) := by decide +kernel
theorem dX7_copyFrom_54 : decode cX7_copyFrom 54 = .ok (.putfield 49, 3) := by decide +kernel
theorem dX7_copyFrom_57 : decode cX7_copyFrom 57 = .ok (.aload_n 0, 1) := by decide +kernel
theorem dX7_copyFrom_58 : decode cX7_copyFrom 58 = .ok (.aload_n 1, 1) := by decide +kernel
theorem dX7_copyFrom_59 : decode cX7_copyFrom 59 = .ok (.getfield 52, 3) := by decide +kernel
theorem dX7_copyFrom_62 : decode cX7_copyFrom 62 = .ok (.putfield 52, 3) := by decide +kernel
theorem dX7_copyFrom_65 : decode cX7_copyFrom 65 = .ok (.aload_n 0, 1) := by decide +kernel
theorem dX7_copyFrom_66 : decode cX7_copyFrom 66 = .ok (.aload_n 1, 1) := by decide +kernel
theorem dX7_copyFrom_67 : decode cX7_copyFrom 67 = .ok (.getfield 55, 3) := by decide +kernel
theorem dX7_copyFrom_70 : decode cX7_copyFrom 70 = .ok (.putfield 55, 3) := by decide +kernel
theorem dX7_copyFrom_73 : decode cX7_copyFrom 73 = .ok (.aload_n 0, 1) := by decide +kernel
theorem dX7_copyFrom_74 : decode cX7_copyFrom 74 = .ok (.aload_n 1, 1) := by decide +kernel
theorem dX7_copyFrom_75 : decode cX7_copyFrom 75 = .ok (.getfield 58, 3) := by decide +kernel
theorem dX7_copyFrom_78 : decode cX7_copyFrom 78 = .ok (.putfield 58, 3) := by decide +kernel
theorem dX7_copyFrom_81 : decode cX7_copyFrom 81 = .ok (.return_, 1) := by decide +kernel
theorem dX7_tell_0 : decode cX7_tell 0 = .ok (.iload_n 1, 1) := by decide +kernel
theorem dX7_tell_1 : decode cX7_tell 1 = .ok (.tableswitch 117 0 9 #[55, 63, 71, 79, 84, 89, 94, 99, 104, 109], 55) := by decide +kernel
theorem dX7_tell_56 : decode cX7_tell 56 = .ok (.aload_n 0, 1) := by decide +kernel
theorem dX7_tell_57 : decode cX7_tell 57 = .ok (.getfield 12, 3) := by decide +kernel
theorem dX7_tell_60 : decode cX7_tell 60 = .ok (.getfield 61, 3) := by decide +kernel
theorem dX7_tell_63 : decode cX7_tell 63 = .ok (.ireturn, 1) := by decide +kernel
theorem dX7_tell_64 : decode cX7_tell 64 = .ok (.aload_n 0, 1) := by decide +kernel
theorem dX7_tell_65 : decode cX7_tell 65 = .ok (.getfield 21, 3) := by decide +kernel
theorem dX7_tell_68 : decode cX7_tell 68 = .ok (.getfield 64, 3) := by decide +kernel
theorem dX7_tell_71 : decode cX7_tell 71 = .ok (.ireturn, 1) := by decide +kernel
theorem dX7_tell_72 : decode cX7_tell 72 = .ok (.aload_n 0, 1) := by decide +kernel
theorem dX7_tell_73 : decode cX7_tell 73 = .ok (.getfield 21, 3) := by decide +kernel
theorem dX7_tell_76 : decode cX7_tell 76 = .ok (.invokevirtual 65, 3) := by decide +kernel
theorem dX7_tell_79 : decode cX7_tell 79 = .ok (.ireturn, 1) := by decide +kernel
theorem dX7_tell_80 : decode cX7_tell 80 = .ok (.aload_n 0, 1) := by decide +kernel
theorem dX7_tell_81 : decode cX7_tell 81 = .ok (.getfield 32, 3) := by decide +kernel
theorem dX7_tell_84 : decode cX7_tell 84 = .ok (.ireturn, 1) := by decide +kernel
theorem dX7_tell_85 : decode cX7_tell 85 = .ok (.aload_n 0, 1) := by decide +kernel
theorem dX7_tell_86 : decode cX7_tell 86 = .ok (.getfield 46, 3) := by decide +kernel
theorem dX7_tell_89 : decode cX7_tell 89 = .ok (.ireturn, 1) := by decide +kernel
theorem dX7_tell_90 : decode cX7_tell 90 = .ok (.aload_n 0, 1) := by decide +kernel
theorem dX7_tell_91 : decode cX7_tell 91 = .ok (.getfield 49, 3) := by decide +kernel
theorem dX7_tell_94 : decode cX7_tell 94 = .ok (.ireturn, 1) := by decide +kernel
theorem dX7_tell_95 : decode cX7_tell 95 = .ok (.aload_n 0, 1) := by decide +kernel
theorem dX7_tell_96 : decode cX7_tell 96 = .ok (.getfield 52, 3) := by decide +kernel
theorem dX7_tell_99 : decode cX7_tell 99 = .ok (.ireturn, 1) := by decide +kernel
theorem dX7_tell_100 : decode cX7_tell 100 = .ok (.aload_n 0, 1) := by decide +kernel
theorem dX7_tell_101 : decode cX7_tell 101 = .ok (.getfield 55, 3) := by decide +kernel
theorem dX7_tell_104 : decode cX7_tell 104 = .ok (.ireturn, 1) := by decide +kernel
theorem dX7_tell_105 : decode cX7_tell 105 = .ok (.aload_n 0, 1) := by decide +kernel
theorem dX7_tell_106 : decode cX7_tell 106 = .ok (.getfield 58, 3) := by decide +kernel
theorem dX7_tell_109 : decode cX7_tell 109 = .ok (.ireturn, 1) := by decide +kernel
theorem dX7_tell_110 : decode cX7_tell 110 = .ok (.aload_n 0, 1) := by decide +kernel
theorem dX7_tell_111 : decode cX7_tell 111 = .ok (.getfield 28, 3) := by decide +kernel
theorem dX7_tell_114 : decode cX7_tell 114 = .ok (.getfield 69, 3) := by decide +kernel
theorem dX7_tell_117 : decode cX7_tell 117 = .ok (.ireturn, 1) := by decide +kernel
theorem dX7_tell_118 : decode cX7_tell 118 = .ok (.sipush (-1002), 3) := by decide +kernel
theorem dX7_tell_121 : decode cX7_tell 121 = .ok (.ireturn, 1) := by decide +kernel
theorem dX8_init_0 : decode cX8_init 0 = .ok (.aload_n 0, 1) := by decide +kernel
theorem dX8_init_1 : decode cX8_init 1 = .ok (.invokespecial 3, 3) := by decide +kernel
theorem dX8_init_4 : decode cX8_init 4 = .ok (.aload_n 0, 1) := by decide +kernel
theorem dX8_init_5 : decode cX8_init 5 = .ok (.bipush 20, 2) := by decide +kernel
theorem dX8_init_7 : decode cX8_init 7 = .ok (.anewarray 9, 3) := by decide +kernel
theorem dX8_init_10 : decode cX8_init 10 = .ok (.putfield 11, 3) := by decide +kernel
theorem dX8_init_13 : decode cX8_init 13 = .ok (.iconst 0, 1) := by decide +kernel
theorem dX8_init_14 : decode cX8_init 14 = .ok (.istore_n 1, 1) := by decide +kernel
theorem dX8_init_15 : decode cX8_init 15 = .ok (.iload_n 1, 1) := by decide +kernel
theorem dX8_init_16 : decode cX8_init 16 = .ok (.aload_n 0, 1) := by decide +kernel
theorem dX8_init_17 : decode cX8_init 17 = .ok (.getfield 11, 3) := by decide +kernel
theorem dX8_init_20 : decode cX8_init 20 = .ok (.arraylength, 1) := by decide +kernel
theorem dX8_init_21 : decode cX8_init 21 = .ok (.if_icmp .ge 22, 3) := by decide +kernel
theorem dX8_init_24 : decode cX8_init 24 = .ok (.aload_n 0, 1) := by decide +kernel
theorem dX8_init_25 : decode cX8_init 25 = .ok (.getfield 11, 3) := by decide +kernel
theorem dX8_init_28 : decode cX8_init 28 = .ok (.iload_n 1, 1) := by decide +kernel
theorem dX8_init_29 : decode cX8_init 29 = .ok (.new 9, 3) := by decide +kernel
theorem dX8_init_32 : decode cX8_init 32 = .ok (.dup, 1) := by decide +kernel
theorem dX8_init_33 : decode cX8_init 33 = .ok (.invokespecial 17, 3) := by decide +kernel
theorem dX8_init_36 : decode cX8_init 36 = .ok (.aastore, 1) := by decide +kernel
theorem dX8_init_37 : decode cX8_init 37 = .ok (.iinc 1 1, 3) := by decide +kernel
theorem dX8_init_40 : decode cX8_init 40 = .ok (.goto (-25), 3) := by decide +kernel
theorem dX8_init_43 : decode cX8_init 43 = .ok (.return_, 1) := by decide +kernel
theorem dX8_isFull_0 : decode cX8_isFull 0 = .ok (.aload_n 0, 1) := by decide +kernel
theorem dX8_isFull_1 : decode cX8_isFull 1 = .ok (.getfield 18, 3) := by decide +kernel
theorem dX8_isFull_4 : decode cX8_isFull 4 = .ok (.aload_n 0, 1) := by decide +kernel
theorem dX8_isFull_5 : decode cX8_isFull 5 = .ok (.getfield 11, 3) := by decide +kernel
theorem dX8_isFull_8 : decode cX8_isFull 8 = .ok (.arraylength, 1) := by decide +kernel
theorem dX8_isFull_9 : decode cX8_isFull 9 = .ok (.if_icmp .lt 7, 3) := by decide +kernel
theorem dX8_isFull_12 : decode cX8_isFull 12 = .ok (.iconst 1, 1) := by decide +kernel
theorem dX8_isFull_13 : decode cX8_isFull 13 = .ok (.goto 4, 3) := by decide +kernel
theorem dX8_isFull_16 : decode cX8_isFull 16 = .ok (.iconst 0, 1) := by decide +kernel
theorem dX8_isFull_17 : decode cX8_isFull 17 = .ok (.ireturn, 1) := by decide +kernel
theorem dX8_rowAt_0 : decode cX8_rowAt 0 = .ok (.iload_n 1, 1) := by decide +kernel
theorem dX8_rowAt_1 : decode cX8_rowAt 1 = .ok (.ifCond .lt 29, 3) := by decide +kernel
theorem dX8_rowAt_4 : decode cX8_rowAt 4 = .ok (.iload_n 1, 1) := by decide +kernel
theorem dX8_rowAt_5 : decode cX8_rowAt 5 = .ok (.aload_n 0, 1) := by decide +kernel
theorem dX8_rowAt_6 : decode cX8_rowAt 6 = .ok (.getfield 18, 3) := by decide +kernel
theorem dX8_rowAt_9 : decode cX8_rowAt 9 = .ok (.if_icmp .ge 21, 3) := by decide +kernel
theorem dX8_rowAt_12 : decode cX8_rowAt 12 = .ok (.iload_n 1, 1) := by decide +kernel
theorem dX8_rowAt_13 : decode cX8_rowAt 13 = .ok (.aload_n 0, 1) := by decide +kernel
theorem dX8_rowAt_14 : decode cX8_rowAt 14 = .ok (.getfield 11, 3) := by decide +kernel
theorem dX8_rowAt_17 : decode cX8_rowAt 17 = .ok (.arraylength, 1) := by decide +kernel
theorem dX8_rowAt_18 : decode cX8_rowAt 18 = .ok (.if_icmp .ge 12, 3) := by decide +kernel
theorem dX8_rowAt_21 : decode cX8_rowAt 21 = .ok (.aload_n 0, 1) := by decide +kernel
theorem dX8_rowAt_22 : decode cX8_rowAt 22 = .ok (.getfield 11, 3) := by decide +kernel
theorem dX8_rowAt_25 : decode cX8_rowAt 25 = .ok (.iload_n 1, 1) := by decide +kernel
theorem dX8_rowAt_26 : decode cX8_rowAt 26 = .ok (.aaload, 1) := by decide +kernel
theorem dX8_rowAt_27 : decode cX8_rowAt 27 = .ok (.goto 4, 3) := by decide +kernel
theorem dX8_rowAt_30 : decode cX8_rowAt 30 = .ok (.aconst_null, 1) := by decide +kernel
theorem dX8_rowAt_31 : decode cX8_rowAt 31 = .ok (.areturn, 1) := by decide +kernel
theorem dX8_rowOf_0 : decode cX8_rowOf 0 = .ok (.iconst 0, 1) := by decide +kernel
theorem dX8_rowOf_1 : decode cX8_rowOf 1 = .ok (.istore_n 2, 1) := by decide +kernel
theorem dX8_rowOf_2 : decode cX8_rowOf 2 = .ok (.iload_n 2, 1) := by decide +kernel
theorem dX8_rowOf_3 : decode cX8_rowOf 3 = .ok (.aload_n 0, 1) := by decide +kernel
theorem dX8_rowOf_4 : decode cX8_rowOf 4 = .ok (.getfield 18, 3) := by decide +kernel
theorem dX8_rowOf_7 : decode cX8_rowOf 7 = .ok (.if_icmp .ge 39, 3) := by decide +kernel
theorem dX8_rowOf_10 : decode cX8_rowOf 10 = .ok (.iload_n 2, 1) := by decide +kernel
theorem dX8_rowOf_11 : decode cX8_rowOf 11 = .ok (.aload_n 0, 1) := by decide +kernel
theorem dX8_rowOf_12 : decode cX8_rowOf 12 = .ok (.getfield 11, 3) := by decide +kernel
theorem dX8_rowOf_15 : decode cX8_rowOf 15 = .ok (.arraylength, 1) := by decide +kernel
theorem dX8_rowOf_16 : decode cX8_rowOf 16 = .ok (.if_icmp .ge 30, 3) := by decide +kernel
theorem dX8_rowOf_19 : decode cX8_rowOf 19 = .ok (.aload_n 0, 1) := by decide +kernel
theorem dX8_rowOf_20 : decode cX8_rowOf 20 = .ok (.getfield 11, 3) := by decide +kernel
theorem dX8_rowOf_23 : decode cX8_rowOf 23 = .ok (.iload_n 2, 1) := by decide +kernel
theorem dX8_rowOf_24 : decode cX8_rowOf 24 = .ok (.aaload, 1) := by decide +kernel
theorem dX8_rowOf_25 : decode cX8_rowOf 25 = .ok (.astore_n 3, 1) := by decide +kernel
theorem dX8_rowOf_26 : decode cX8_rowOf 26 = .ok (.aload_n 3, 1) := by decide +kernel
end
section
theorem dX8_rowOf_27 : decode cX8_rowOf 27 = .ok (.ifnull 13, 3) := by decide +kernel
theorem dX8_rowOf_30 : decode cX8_rowOf 30 = .ok (.aload_n 3, 1) := by decide +kernel
theorem dX8_rowOf_31 : decode cX8_rowOf 31 = .ok (.getfield 22, 3) := by decide +kernel
theorem dX8_rowOf_34 : decode cX8_rowOf 34 = .ok (.iload_n 1, 1) := by decide +kernel
theorem dX8_rowOf_35 : decode cX8_rowOf 35 = .ok (.if_icmp .ne 5, 3) := by decide +kernel
theorem dX8_rowOf_38 : decode cX8_rowOf 38 = .ok (.aload_n 3, 1) := by decide +kernel
theorem dX8_rowOf_39 : decode cX8_rowOf 39 = .ok (.areturn, 1) := by decide +kernel
theorem dX8_rowOf_40 : decode cX8_rowOf 40 = .ok (.iinc 2 1, 3) := by decide +kernel
theorem dX8_rowOf_43 : decode cX8_rowOf 43 = .ok (.goto (-41), 3) := by decide +kernel
theorem dX8_rowOf_46 : decode cX8_rowOf 46 = .ok (.aconst_null, 1) := by decide +kernel
theorem dX8_rowOf_47 : decode cX8_rowOf 47 = .ok (.areturn, 1) := by decide +kernel
theorem dX8_take_0 : decode cX8_take 0 = .ok (.aload_n 0, 1) := by decide +kernel
theorem dX8_take_1 : decode cX8_take 1 = .ok (.getfield 18, 3) := by decide +kernel
theorem dX8_take_4 : decode cX8_take 4 = .ok (.ifCond .lt 15, 3) := by decide +kernel
theorem dX8_take_7 : decode cX8_take 7 = .ok (.aload_n 0, 1) := by decide +kernel
theorem dX8_take_8 : decode cX8_take 8 = .ok (.getfield 18, 3) := by decide +kernel
theorem dX8_take_11 : decode cX8_take 11 = .ok (.aload_n 0, 1) := by decide +kernel
theorem dX8_take_12 : decode cX8_take 12 = .ok (.getfield 11, 3) := by decide +kernel
theorem dX8_take_15 : decode cX8_take 15 = .ok (.arraylength, 1) := by decide +kernel
theorem dX8_take_16 : decode cX8_take 16 = .ok (.if_icmp .lt 4, 3) := by decide +kernel
theorem dX8_take_19 : decode cX8_take 19 = .ok (.return_, 1) := by decide +kernel
theorem dX8_take_20 : decode cX8_take 20 = .ok (.aload_n 0, 1) := by decide +kernel
theorem dX8_take_21 : decode cX8_take 21 = .ok (.getfield 11, 3) := by decide +kernel
theorem dX8_take_24 : decode cX8_take 24 = .ok (.aload_n 0, 1) := by decide +kernel
theorem dX8_take_25 : decode cX8_take 25 = .ok (.getfield 18, 3) := by decide +kernel
theorem dX8_take_28 : decode cX8_take 28 = .ok (.aaload, 1) := by decide +kernel
theorem dX8_take_29 : decode cX8_take 29 = .ok (.astore_n 2, 1) := by decide +kernel
theorem dX8_take_30 : decode cX8_take 30 = .ok (.aload_n 2, 1) := by decide +kernel
theorem dX8_take_31 : decode cX8_take 31 = .ok (.ifnonnull 4, 3) := by decide +kernel
theorem dX8_take_34 : decode cX8_take 34 = .ok (.return_, 1) := by decide +kernel
theorem dX8_take_35 : decode cX8_take 35 = .ok (.aload_n 2, 1) := by decide +kernel
theorem dX8_take_36 : decode cX8_take 36 = .ok (.aload_n 1, 1) := by decide +kernel
theorem dX8_take_37 : decode cX8_take 37 = .ok (.invokevirtual 25, 3) := by decide +kernel
theorem dX8_take_40 : decode cX8_take 40 = .ok (.aload_n 0, 1) := by decide +kernel
theorem dX8_take_41 : decode cX8_take 41 = .ok (.getfield 18, 3) := by decide +kernel
theorem dX8_take_44 : decode cX8_take 44 = .ok (.istore_n 3, 1) := by decide +kernel
theorem dX8_take_45 : decode cX8_take 45 = .ok (.iload_n 3, 1) := by decide +kernel
theorem dX8_take_46 : decode cX8_take 46 = .ok (.ifCond .le 47, 3) := by decide +kernel
theorem dX8_take_49 : decode cX8_take 49 = .ok (.aload_n 0, 1) := by decide +kernel
theorem dX8_take_50 : decode cX8_take 50 = .ok (.getfield 11, 3) := by decide +kernel
theorem dX8_take_53 : decode cX8_take 53 = .ok (.iload_n 3, 1) := by decide +kernel
theorem dX8_take_54 : decode cX8_take 54 = .ok (.iconst 1, 1) := by decide +kernel
theorem dX8_take_55 : decode cX8_take 55 = .ok (.isub, 1) := by decide +kernel
theorem dX8_take_56 : decode cX8_take 56 = .ok (.aaload, 1) := by decide +kernel
theorem dX8_take_57 : decode cX8_take 57 = .ok (.astore 4, 2) := by decide +kernel
theorem dX8_take_59 : decode cX8_take 59 = .ok (.aload 4, 2) := by decide +kernel
theorem dX8_take_61 : decode cX8_take 61 = .ok (.ifnull 32, 3) := by decide +kernel
theorem dX8_take_64 : decode cX8_take 64 = .ok (.aload 4, 2) := by decide +kernel
theorem dX8_take_66 : decode cX8_take 66 = .ok (.getfield 22, 3) := by decide +kernel
theorem dX8_take_69 : decode cX8_take 69 = .ok (.aload_n 1, 1) := by decide +kernel
theorem dX8_take_70 : decode cX8_take 70 = .ok (.getfield 22, 3) := by decide +kernel
theorem dX8_take_73 : decode cX8_take 73 = .ok (.if_icmp .ge 6, 3) := by decide +kernel
theorem dX8_take_76 : decode cX8_take 76 = .ok (.goto 17, 3) := by decide +kernel
theorem dX8_take_79 : decode cX8_take 79 = .ok (.aload_n 0, 1) := by decide +kernel
theorem dX8_take_80 : decode cX8_take 80 = .ok (.getfield 11, 3) := by decide +kernel
theorem dX8_take_83 : decode cX8_take 83 = .ok (.iload_n 3, 1) := by decide +kernel
theorem dX8_take_84 : decode cX8_take 84 = .ok (.aload 4, 2) := by decide +kernel
theorem dX8_take_86 : decode cX8_take 86 = .ok (.aastore, 1) := by decide +kernel
theorem dX8_take_87 : decode cX8_take 87 = .ok (.iinc 3 (-1), 3) := by decide +kernel
theorem dX8_take_90 : decode cX8_take 90 = .ok (.goto (-45), 3) := by decide +kernel
theorem dX8_take_93 : decode cX8_take 93 = .ok (.aload_n 0, 1) := by decide +kernel
theorem dX8_take_94 : decode cX8_take 94 = .ok (.getfield 11, 3) := by decide +kernel
theorem dX8_take_97 : decode cX8_take 97 = .ok (.iload_n 3, 1) := by decide +kernel
theorem dX8_take_98 : decode cX8_take 98 = .ok (.aload_n 2, 1) := by decide +kernel
theorem dX8_take_99 : decode cX8_take 99 = .ok (.aastore, 1) := by decide +kernel
theorem dX8_take_100 : decode cX8_take 100 = .ok (.aload_n 0, 1) := by decide +kernel
theorem dX8_take_101 : decode cX8_take 101 = .ok (.dup, 1) := by decide +kernel
theorem dX8_take_102 : decode cX8_take 102 = .ok (.getfield 18, 3) := by decide +kernel
theorem dX8_take_105 : decode cX8_take 105 = .ok (.iconst 1, 1) := by decide +kernel
theorem dX8_take_106 : decode cX8_take 106 = .ok (.iadd, 1) := by decide +kernel
theorem dX8_take_107 : decode cX8_take 107 = .ok (.putfield 18, 3) := by decide +kernel
theorem dX8_take_110 : decode cX8_take 110 = .ok (.return_, 1) := by decide +kernel
theorem dX8_drop_0 : decode cX8_drop 0 = .ok (.aconst_null, 1) := by decide +kernel
theorem dX8_drop_1 : decode cX8_drop 1 = .ok (.astore_n 2, 1) := by decide +kernel
theorem dX8_drop_2 : decode cX8_drop 2 = .ok (.iconst 0, 1) := by decide +kernel
theorem dX8_drop_3 : decode cX8_drop 3 = .ok (.istore_n 3, 1) := by decide +kernel
theorem dX8_drop_4 : decode cX8_drop 4 = .ok (.iload_n 3, 1) := by decide +kernel
theorem dX8_drop_5 : decode cX8_drop 5 = .ok (.aload_n 0, 1) := by decide +kernel
theorem dX8_drop_6 : decode cX8_drop 6 = .ok (.getfield 18, 3) := by decide +kernel
theorem dX8_drop_9 : decode cX8_drop 9 = .ok (.if_icmp .ge 90, 3) := by decide +kernel
theorem dX8_drop_12 : decode cX8_drop 12 = .ok (.iload_n 3, 1) := by decide +kernel
theorem dX8_drop_13 : decode cX8_drop 13 = .ok (.aload_n 0, 1) := by decide +kernel
theorem dX8_drop_14 : decode cX8_drop 14 = .ok (.getfield 11, 3) := by decide +kernel
theorem dX8_drop_17 : decode cX8_drop 17 = .ok (.arraylength, 1) := by decide +kernel
theorem dX8_drop_18 : decode cX8_drop 18 = .ok (.if_icmp .ge 81, 3) := by decide +kernel
theorem dX8_drop_21 : decode cX8_drop 21 = .ok (.aload_n 0, 1) := by decide +kernel
theorem dX8_drop_22 : decode cX8_drop 22 = .ok (.getfield 11, 3) := by decide +kernel
theorem dX8_drop_25 : decode cX8_drop 25 = .ok (.iload_n 3, 1) := by decide +kernel
theorem dX8_drop_26 : decode cX8_drop 26 = .ok (.aaload, 1) := by decide +kernel
theorem dX8_drop_27 : decode cX8_drop 27 = .ok (.astore 4, 2) := by decide +kernel
theorem dX8_drop_29 : decode cX8_drop 29 = .ok (.aload_n 2, 1) := by decide +kernel
theorem dX8_drop_30 : decode cX8_drop 30 = .ok (.ifnonnull 20, 3) := by decide +kernel
theorem dX8_drop_33 : decode cX8_drop 33 = .ok (.aload 4, 2) := by decide +kernel
theorem dX8_drop_35 : decode cX8_drop 35 = .ok (.ifnull 15, 3) := by decide +kernel
theorem dX8_drop_38 : decode cX8_drop 38 = .ok (.aload 4, 2) := by decide +kernel
theorem dX8_drop_40 : decode cX8_drop 40 = .ok (.getfield 22, 3) := by decide +kernel
theorem dX8_drop_43 : decode cX8_drop 43 = .ok (.iload_n 1, 1) := by decide +kernel
theorem dX8_drop_44 : decode cX8_drop 44 = .ok (.if_icmp .ne 6, 3) := by decide +kernel
theorem dX8_drop_47 : decode cX8_drop 47 = .ok (.aload 4, 2) := by decide +kernel
theorem dX8_drop_49 : decode cX8_drop 49 = .ok (.astore_n 2, 1) := by decide +kernel
theorem dX8_drop_50 : decode cX8_drop 50 = .ok (.aload_n 2, 1) := by decide +kernel
theorem dX8_drop_51 : decode cX8_drop 51 = .ok (.ifnull 42, 3) := by decide +kernel
theorem dX8_drop_54 : decode cX8_drop 54 = .ok (.aload_n 0, 1) := by decide +kernel
theorem dX8_drop_55 : decode cX8_drop 55 = .ok (.getfield 11, 3) := by decide +kernel
theorem dX8_drop_58 : decode cX8_drop 58 = .ok (.iload_n 3, 1) := by decide +kernel
theorem dX8_drop_59 : decode cX8_drop 59 = .ok (.iload_n 3, 1) := by decide +kernel
theorem dX8_drop_60 : decode cX8_drop 60 = .ok (.iconst 1, 1) := by decide +kernel
theorem dX8_drop_61 : decode cX8_drop 61 = .ok (.iadd, 1) := by decide +kernel
theorem dX8_drop_62 : decode cX8_drop 62 = .ok (.aload_n 0, 1) := by decide +kernel
theorem dX8_drop_63 : decode cX8_drop 63 = .ok (.getfield 18, 3) := by decide +kernel
theorem dX8_drop_66 : decode cX8_drop 66 = .ok (.if_icmp .ge 25, 3) := by decide +kernel
theorem dX8_drop_69 : decode cX8_drop 69 = .ok (.iload_n 3, 1) := by decide +kernel
theorem dX8_drop_70 : decode cX8_drop 70 = .ok (.iconst 1, 1) := by decide +kernel
theorem dX8_drop_71 : decode cX8_drop 71 = .ok (.iadd, 1) := by decide +kernel
theorem dX8_drop_72 : decode cX8_drop 72 = .ok (.aload_n 0, 1) := by decide +kernel
theorem dX8_drop_73 : decode cX8_drop 73 = .ok (.getfield 11, 3) := by decide +kernel
theorem dX8_drop_76 : decode cX8_drop 76 = .ok (.arraylength, 1) := by decide +kernel
theorem dX8_drop_77 : decode cX8_drop 77 = .ok (.if_icmp .ge 14, 3) := by decide +kernel
theorem dX8_drop_80 : decode cX8_drop 80 = .ok (.aload_n 0, 1) := by decide +kernel
theorem dX8_drop_81 : decode cX8_drop 81 = .ok (.getfield 11, 3) := by decide +kernel
theorem dX8_drop_84 : decode cX8_drop 84 = .ok (.iload_n 3, 1) := by decide +kernel
theorem dX8_drop_85 : decode cX8_drop 85 = .ok (.iconst 1, 1) := by decide +kernel
theorem dX8_drop_86 : decode cX8_drop 86 = .ok (.iadd, 1) := by decide +kernel
theorem dX8_drop_87 : decode cX8_drop 87 = .ok (.aaload, 1) := by decide +kernel
theorem dX8_drop_88 : decode cX8_drop 88 = .ok (.goto 4, 3) := by decide +kernel
theorem dX8_drop_91 : decode cX8_drop 91 = .ok (.aload_n 2, 1) := by decide +kernel
theorem dX8_drop_92 : decode cX8_drop 92 = .ok (.aastore, 1) := by decide +kernel
theorem dX8_drop_93 : decode cX8_drop 93 = .ok (.iinc 3 1, 3) := by decide +kernel
theorem dX8_drop_96 : decode cX8_drop 96 = .ok (.goto (-92), 3) := by decide +kernel
theorem dX8_drop_99 : decode cX8_drop 99 = .ok (.aload_n 2, 1) := by decide +kernel
theorem dX8_drop_100 : decode cX8_drop 100 = .ok (.ifnull 13, 3) := by decide +kernel
theorem dX8_drop_103 : decode cX8_drop 103 = .ok (.aload_n 0, 1) := by decide +kernel
theorem dX8_drop_104 : decode cX8_drop 104 = .ok (.dup, 1) := by decide +kernel
theorem dX8_drop_105 : decode cX8_drop 105 = .ok (.getfield 18, 3) := by decide +kernel
theorem dX8_drop_108 : decode cX8_drop 108 = .ok (.iconst 1, 1) := by decide +kernel
theorem dX8_drop_109 : decode cX8_drop 109 = .ok (.isub, 1) := by decide +kernel
theorem dX8_drop_110 : decode cX8_drop 110 = .ok (.putfield 18, 3) := by decide +kernel
theorem dX8_drop_113 : decode cX8_drop 113 = .ok (.return_, 1) := by decide +kernel
theorem dX8_copyFrom_0 : decode cX8_copyFrom 0 = .ok (.aload_n 0, 1) := by decide +kernel
theorem dX8_copyFrom_1 : decode cX8_copyFrom 1 = .ok (.aload_n 1, 1) := by decide +kernel
theorem dX8_copyFrom_2 : decode cX8_copyFrom 2 = .ok (.getfield 18, 3) := by decide +kernel
theorem dX8_copyFrom_5 : decode cX8_copyFrom 5 = .ok (.putfield 18, 3) := by decide +kernel
theorem dX8_copyFrom_8 : decode cX8_copyFrom 8 = .ok (.iconst 0, 1) := by decide +kernel
theorem dX8_copyFrom_9 : decode cX8_copyFrom 9 = .ok (.istore_n 2, 1) := by decide +kernel
theorem dX8_copyFrom_10 : decode cX8_copyFrom 10 = .ok (.iload_n 2, 1) := by decide +kernel
theorem dX8_copyFrom_11 : decode cX8_copyFrom 11 = .ok (.aload_n 0, 1) := by decide +kernel
theorem dX8_copyFrom_12 : decode cX8_copyFrom 12 = .ok (.getfield 18, 3) := by decide +kernel
theorem dX8_copyFrom_15 : decode cX8_copyFrom 15 = .ok (.if_icmp .ge 47, 3) := by decide +kernel
theorem dX8_copyFrom_18 : decode cX8_copyFrom 18 = .ok (.iload_n 2, 1) := by decide +kernel
theorem dX8_copyFrom_19 : decode cX8_copyFrom 19 = .ok (.aload_n 0, 1) := by decide +kernel
theorem dX8_copyFrom_20 : decode cX8_copyFrom 20 = .ok (.getfield 11, 3) := by decide +kernel
theorem dX8_copyFrom_23 : decode cX8_copyFrom 23 = .ok (.arraylength, 1) := by decide +kernel
theorem dX8_copyFrom_24 : decode cX8_copyFrom 24 = .ok (.if_icmp .ge 38, 3) := by decide +kernel
theorem dX8_copyFrom_27 : decode cX8_copyFrom 27 = .ok (.aload_n 0, 1) := by decide +kernel
theorem dX8_copyFrom_28 : decode cX8_copyFrom 28 = .ok (.getfield 11, 3) := by decide +kernel
theorem dX8_copyFrom_31 : decode cX8_copyFrom 31 = .ok (.iload_n 2, 1) := by decide +kernel
theorem dX8_copyFrom_32 : decode cX8_copyFrom 32 = .ok (.aaload, 1) := by decide +kernel
theorem dX8_copyFrom_33 : decode cX8_copyFrom 33 = .ok (.astore_n 3, 1) := by decide +kernel
theorem dX8_copyFrom_34 : decode cX8_copyFrom 34 = .ok (.aload_n 1, 1) := by decide +kernel
theorem dX8_copyFrom_35 : decode cX8_copyFrom 35 = .ok (.iload_n 2, 1) := by decide +kernel
theorem dX8_copyFrom_36 : decode cX8_copyFrom 36 = .ok (.invokevirtual 29, 3) := by decide +kernel
theorem dX8_copyFrom_39 : decode cX8_copyFrom 39 = .ok (.astore 4, 2) := by decide +kernel
theorem dX8_copyFrom_41 : decode cX8_copyFrom 41 = .ok (.aload_n 3, 1) := by decide +kernel
theorem dX8_copyFrom_42 : decode cX8_copyFrom 42 = .ok (.ifnull 14, 3) := by decide +kernel
theorem dX8_copyFrom_45 : decode cX8_copyFrom 45 = .ok (.aload 4, 2) := by decide +kernel
theorem dX8_copyFrom_47 : decode cX8_copyFrom 47 = .ok (.ifnull 9, 3) := by decide +kernel
theorem dX8_copyFrom_50 : decode cX8_copyFrom 50 = .ok (.aload_n 3, 1) := by decide +kernel
theorem dX8_copyFrom_51 : decode cX8_copyFrom 51 = .ok (.aload 4, 2) := by decide +kernel
theorem dX8_copyFrom_53 : decode cX8_copyFrom 53 = .ok (.invokevirtual 25, 3) := by decide +kernel
theorem dX8_copyFrom_56 : decode cX8_copyFrom 56 = .ok (.iinc 2 1, 3) := by decide +kernel
theorem dX8_copyFrom_59 : decode cX8_copyFrom 59 = .ok (.goto (-49), 3) := by decide +kernel
theorem dX8_copyFrom_62 : decode cX8_copyFrom 62 = .ok (.return_, 1) := by decide +kernel
theorem dX9_init_0 : decode cX9_init 0 = .ok (.aload_n 0, 1) := by decide +kernel
theorem dX9_init_1 : decode cX9_init 1 = .ok (.invokespecial 3, 3) := by decide +kernel
theorem dX9_init_4 : decode cX9_init 4 = .ok (.aload_n 0, 1) := by decide +kernel
theorem dX9_init_5 : decode cX9_init 5 = .ok (.bipush 80, 2) := by decide +kernel
theorem dX9_init_7 : decode cX9_init 7 = .ok (.newarray .char, 2) := by decide +kernel
theorem dX9_init_9 : decode cX9_init 9 = .ok (.putfield 9, 3) := by decide +kernel
theorem dX9_init_12 : decode cX9_init 12 = .ok (.return_, 1) := by decide +kernel
theorem dX9_append_0 : decode cX9_append 0 = .ok (.aload_n 0, 1) := by decide +kernel
theorem dX9_append_1 : decode cX9_append 1 = .ok (.getfield 15, 3) := by decide +kernel
theorem dX9_append_4 : decode cX9_append 4 = .ok (.ifCond .lt 15, 3) := by decide +kernel
theorem dX9_append_7 : decode cX9_append 7 = .ok (.aload_n 0, 1) := by decide +kernel
theorem dX9_append_8 : decode cX9_append 8 = .ok (.getfield 15, 3) := by decide +kernel
theorem dX9_append_11 : decode cX9_append 11 = .ok (.aload_n 0, 1) := by decide +kernel
theorem dX9_append_12 : decode cX9_append 12 = .ok (.getfield 9, 3) := by decide +kernel
theorem dX9_append_15 : decode cX9_append 15 = .ok (.arraylength, 1) := by decide +kernel
theorem dX9_append_16 : decode cX9_append 16 = .ok (.if_icmp .lt 5, 3) := by decide +kernel
theorem dX9_append_19 : decode cX9_append 19 = .ok (.iconst 0, 1) := by decide +kernel
theorem dX9_append_20 : decode cX9_append 20 = .ok (.ireturn, 1) := by decide +kernel
theorem dX9_append_21 : decode cX9_append 21 = .ok (.aload_n 0, 1) := by decide +kernel
theorem dX9_append_22 : decode cX9_append 22 = .ok (.getfield 9, 3) := by decide +kernel
theorem dX9_append_25 : decode cX9_append 25 = .ok (.aload_n 0, 1) := by decide +kernel
theorem dX9_append_26 : decode cX9_append 26 = .ok (.getfield 15, 3) := by decide +kernel
theorem dX9_append_29 : decode cX9_append 29 = .ok (.iload_n 1, 1) := by decide +kernel
theorem dX9_append_30 : decode cX9_append 30 = .ok (.castore, 1) := by decide +kernel
theorem dX9_append_31 : decode cX9_append 31 = .ok (.aload_n 0, 1) := by decide +kernel
theorem dX9_append_32 : decode cX9_append 32 = .ok (.dup, 1) := by decide +kernel
theorem dX9_append_33 : decode cX9_append 33 = .ok (.getfield 15, 3) := by decide +kernel
theorem dX9_append_36 : decode cX9_append 36 = .ok (.iconst 1, 1) := by decide +kernel
theorem dX9_append_37 : decode cX9_append 37 = .ok (.iadd, 1) := by decide +kernel
theorem dX9_append_38 : decode cX9_append 38 = .ok (.putfield 15, 3) := by decide +kernel
theorem dX9_append_41 : decode cX9_append 41 = .ok (.iconst 1, 1) := by decide +kernel
theorem dX9_append_42 : decode cX9_append 42 = .ok (.ireturn, 1) := by decide +kernel
theorem dX9_rewind_0 : decode cX9_rewind 0 = .ok (.aload_n 0, 1) := by decide +kernel
theorem dX9_rewind_1 : decode cX9_rewind 1 = .ok (.iconst 0, 1) := by decide +kernel
theorem dX9_rewind_2 : decode cX9_rewind 2 = .ok (.putfield 19, 3) := by decide +kernel
theorem dX9_rewind_5 : decode cX9_rewind 5 = .ok (.aload_n 0, 1) := by decide +kernel
theorem dX9_rewind_6 : decode cX9_rewind 6 = .ok (.iconst 0, 1) := by decide +kernel
theorem dX9_rewind_7 : decode cX9_rewind 7 = .ok (.putfield 22, 3) := by decide +kernel
theorem dX9_rewind_10 : decode cX9_rewind 10 = .ok (.return_, 1) := by decide +kernel
theorem dX9_countStatements_0 : decode cX9_countStatements 0 = .ok (.aload_n 0, 1) := by decide +kernel
theorem dX9_countStatements_1 : decode cX9_countStatements 1 = .ok (.invokevirtual 26, 3) := by decide +kernel
theorem dX9_countStatements_4 : decode cX9_countStatements 4 = .ok (.iconst 0, 1) := by decide +kernel
theorem dX9_countStatements_5 : decode cX9_countStatements 5 = .ok (.istore_n 1, 1) := by decide +kernel
theorem dX9_countStatements_6 : decode cX9_countStatements 6 = .ok (.aload_n 0, 1) := by decide +kernel
theorem dX9_countStatements_7 : decode cX9_countStatements 7 = .ok (.invokevirtual 29, 3) := by decide +kernel
theorem dX9_countStatements_10 : decode cX9_countStatements 10 = .ok (.iinc 1 1, 3) := by decide +kernel
theorem dX9_countStatements_13 : decode cX9_countStatements 13 = .ok (.aload_n 0, 1) := by decide +kernel
theorem dX9_countStatements_14 : decode cX9_countStatements 14 = .ok (.getfield 22, 3) := by decide +kernel
theorem dX9_countStatements_17 : decode cX9_countStatements 17 = .ok (.ifCond .ne 20, 3) := by decide +kernel
theorem dX9_countStatements_20 : decode cX9_countStatements 20 = .ok (.aload_n 0, 1) := by decide +kernel
theorem dX9_countStatements_21 : decode cX9_countStatements 21 = .ok (.getfield 19, 3) := by decide +kernel
theorem dX9_countStatements_24 : decode cX9_countStatements 24 = .ok (.aload_n 0, 1) := by decide +kernel
theorem dX9_countStatements_25 : decode cX9_countStatements 25 = .ok (.getfield 15, 3) := by decide +kernel
theorem dX9_countStatements_28 : decode cX9_countStatements 28 = .ok (.if_icmp .ge 9, 3) := by decide +kernel
theorem dX9_countStatements_31 : decode cX9_countStatements 31 = .ok (.iload_n 1, 1) := by decide +kernel
theorem dX9_countStatements_32 : decode cX9_countStatements 32 = .ok (.bipush 80, 2) := by decide +kernel
theorem dX9_countStatements_34 : decode cX9_countStatements 34 = .ok (.if_icmp .lt (-28), 3) := by decide +kernel
theorem dX9_countStatements_37 : decode cX9_countStatements 37 = .ok (.aload_n 0, 1) := by decide +kernel
theorem dX9_countStatements_38 : decode cX9_countStatements 38 = .ok (.getfield 22, 3) := by decide +kernel
theorem dX9_countStatements_41 : decode cX9_countStatements 41 = .ok (.ifCond .eq 14, 3) := by decide +kernel
theorem dX9_countStatements_44 : decode cX9_countStatements 44 = .ok (.sipush (-2000), 3) := by decide +kernel
theorem dX9_countStatements_47 : decode cX9_countStatements 47 = .ok (.aload_n 0, 1) := by decide +kernel
theorem dX9_countStatements_48 : decode cX9_countStatements 48 = .ok (.getfield 19, 3) := by decide +kernel
theorem dX9_countStatements_51 : decode cX9_countStatements 51 = .ok (.isub, 1) := by decide +kernel
theorem dX9_countStatements_52 : decode cX9_countStatements 52 = .ok (.goto 4, 3) := by decide +kernel
theorem dX9_countStatements_55 : decode cX9_countStatements 55 = .ok (.iload_n 1, 1) := by decide +kernel
theorem dX9_countStatements_56 : decode cX9_countStatements 56 = .ok (.ireturn, 1) := by decide +kernel
theorem dX9_readStatement_0 : decode cX9_readStatement 0 = .ok (.aload_n 0, 1) := by decide +kernel
theorem dX9_readStatement_1 : decode cX9_readStatement 1 = .ok (.getfield 19, 3) := by decide +kernel
theorem dX9_readStatement_4 : decode cX9_readStatement 4 = .ok (.ifCond .le 9, 3) := by decide +kernel
theorem dX9_readStatement_7 : decode cX9_readStatement 7 = .ok (.aload_n 0, 1) := by decide +kernel
theorem dX9_readStatement_8 : decode cX9_readStatement 8 = .ok (.bipush 59, 2) := by decide +kernel
theorem dX9_readStatement_10 : decode cX9_readStatement 10 = .ok (.invokevirtual 32, 3) := by decide +kernel
theorem dX9_readStatement_13 : decode cX9_readStatement 13 = .ok (.aload_n 0, 1) := by decide +kernel
theorem dX9_readStatement_14 : decode cX9_readStatement 14 = .ok (.invokevirtual 36, 3) := by decide +kernel
theorem dX9_readStatement_17 : decode cX9_readStatement 17 = .ok (.lookupswitch 72 #[(100, 49), (105, 35), (117, 42)], 35) := by decide +kernel
theorem dX9_readStatement_52 : decode cX9_readStatement 52 = .ok (.aload_n 0, 1) := by decide +kernel
theorem dX9_readStatement_53 : decode cX9_readStatement 53 = .ok (.invokevirtual 40, 3) := by decide +kernel
theorem dX9_readStatement_56 : decode cX9_readStatement 56 = .ok (.goto 38, 3) := by decide +kernel
theorem dX9_readStatement_59 : decode cX9_readStatement 59 = .ok (.aload_n 0, 1) := by decide +kernel
theorem dX9_readStatement_60 : decode cX9_readStatement 60 = .ok (.invokevirtual 43, 3) := by decide +kernel
theorem dX9_readStatement_63 : decode cX9_readStatement 63 = .ok (.goto 31, 3) := by decide +kernel
theorem dX9_readStatement_66 : decode cX9_readStatement 66 = .ok (.aload_n 0, 1) := by decide +kernel
theorem dX9_readStatement_67 : decode cX9_readStatement 67 = .ok (.iconst 2, 1) := by decide +kernel
theorem dX9_readStatement_68 : decode cX9_readStatement 68 = .ok (.putfield 46, 3) := by decide +kernel
theorem dX9_readStatement_71 : decode cX9_readStatement 71 = .ok (.aload_n 0, 1) := by decide +kernel
theorem dX9_readStatement_72 : decode cX9_readStatement 72 = .ok (.bipush 100, 2) := by decide +kernel
theorem dX9_readStatement_74 : decode cX9_readStatement 74 = .ok (.invokevirtual 32, 3) := by decide +kernel
theorem dX9_readStatement_77 : decode cX9_readStatement 77 = .ok (.aload_n 0, 1) := by decide +kernel
theorem dX9_readStatement_78 : decode cX9_readStatement 78 = .ok (.aload_n 0, 1) := by decide +kernel
theorem dX9_readStatement_79 : decode cX9_readStatement 79 = .ok (.iconst 2, 1) := by decide +kernel
theorem dX9_readStatement_80 : decode cX9_readStatement 80 = .ok (.invokevirtual 49, 3) := by decide +kernel
theorem dX9_readStatement_83 : decode cX9_readStatement 83 = .ok (.putfield 53, 3) := by decide +kernel
theorem dX9_readStatement_86 : decode cX9_readStatement 86 = .ok (.goto 8, 3) := by decide +kernel
theorem dX9_readStatement_89 : decode cX9_readStatement 89 = .ok (.aload_n 0, 1) := by decide +kernel
theorem dX9_readStatement_90 : decode cX9_readStatement 90 = .ok (.iconst 1, 1) := by decide +kernel
theorem dX9_readStatement_91 : decode cX9_readStatement 91 = .ok (.putfield 22, 3) := by decide +kernel
theorem dX9_readStatement_94 : decode cX9_readStatement 94 = .ok (.return_, 1) := by decide +kernel
theorem dX9_readInsert_0 : decode cX9_readInsert 0 = .ok (.aload_n 0, 1) := by decide +kernel
theorem dX9_readInsert_1 : decode cX9_readInsert 1 = .ok (.iconst 0, 1) := by decide +kernel
theorem dX9_readInsert_2 : decode cX9_readInsert 2 = .ok (.putfield 46, 3) := by decide +kernel
theorem dX9_readInsert_5 : decode cX9_readInsert 5 = .ok (.aload_n 0, 1) := by decide +kernel
theorem dX9_readInsert_6 : decode cX9_readInsert 6 = .ok (.bipush 105, 2) := by decide +kernel
theorem dX9_readInsert_8 : decode cX9_readInsert 8 = .ok (.invokevirtual 32, 3) := by decide +kernel
theorem dX9_readInsert_11 : decode cX9_readInsert 11 = .ok (.aload_n 0, 1) := by decide +kernel
theorem dX9_readInsert_12 : decode cX9_readInsert 12 = .ok (.aload_n 0, 1) := by decide +kernel
theorem dX9_readInsert_13 : decode cX9_readInsert 13 = .ok (.iconst 2, 1) := by decide +kernel
theorem dX9_readInsert_14 : decode cX9_readInsert 14 = .ok (.invokevirtual 49, 3) := by decide +kernel
theorem dX9_readInsert_17 : decode cX9_readInsert 17 = .ok (.putfield 53, 3) := by decide +kernel
theorem dX9_readInsert_20 : decode cX9_readInsert 20 = .ok (.aload_n 0, 1) := by decide +kernel
theorem dX9_readInsert_21 : decode cX9_readInsert 21 = .ok (.bipush 61, 2) := by decide +kernel
theorem dX9_readInsert_23 : decode cX9_readInsert 23 = .ok (.invokevirtual 32, 3) := by decide +kernel
theorem dX9_readInsert_26 : decode cX9_readInsert 26 = .ok (.aload_n 0, 1) := by decide +kernel
theorem dX9_readInsert_27 : decode cX9_readInsert 27 = .ok (.aload_n 0, 1) := by decide +kernel
theorem dX9_readInsert_28 : decode cX9_readInsert 28 = .ok (.invokevirtual 56, 3) := by decide +kernel
theorem dX9_readInsert_31 : decode cX9_readInsert 31 = .ok (.putfield 59, 3) := by decide +kernel
theorem dX9_readInsert_34 : decode cX9_readInsert 34 = .ok (.aload_n 0, 1) := by decide +kernel
theorem dX9_readInsert_35 : decode cX9_readInsert 35 = .ok (.bipush 44, 2) := by decide +kernel
theorem dX9_readInsert_37 : decode cX9_readInsert 37 = .ok (.invokevirtual 32, 3) := by decide +kernel
theorem dX9_readInsert_40 : decode cX9_readInsert 40 = .ok (.aload_n 0, 1) := by decide +kernel
theorem dX9_readInsert_41 : decode cX9_readInsert 41 = .ok (.aload_n 0, 1) := by decide +kernel
theorem dX9_readInsert_42 : decode cX9_readInsert 42 = .ok (.invokevirtual 56, 3) := by decide +kernel
theorem dX9_readInsert_45 : decode cX9_readInsert 45 = .ok (.putfield 62, 3) := by decide +kernel
theorem dX9_readInsert_48 : decode cX9_readInsert 48 = .ok (.aload_n 0, 1) := by decide +kernel
theorem dX9_readInsert_49 : decode cX9_readInsert 49 = .ok (.bipush 44, 2) := by decide +kernel
theorem dX9_readInsert_51 : decode cX9_readInsert 51 = .ok (.invokevirtual 32, 3) := by decide +kernel
theorem dX9_readInsert_54 : decode cX9_readInsert 54 = .ok (.aload_n 0, 1) := by decide +kernel
theorem dX9_readInsert_55 : decode cX9_readInsert 55 = .ok (.aload_n 0, 1) := by decide +kernel
theorem dX9_readInsert_56 : decode cX9_readInsert 56 = .ok (.invokevirtual 56, 3) := by decide +kernel
theorem dX9_readInsert_59 : decode cX9_readInsert 59 = .ok (.putfield 65, 3) := by decide +kernel
theorem dX9_readInsert_62 : decode cX9_readInsert 62 = .ok (.return_, 1) := by decide +kernel
theorem dX9_readUpdate_0 : decode cX9_readUpdate 0 = .ok (.aload_n 0, 1) := by decide +kernel
theorem dX9_readUpdate_1 : decode cX9_readUpdate 1 = .ok (.iconst 1, 1) := by decide +kernel
theorem dX9_readUpdate_2 : decode cX9_readUpdate 2 = .ok (.putfield 46, 3) := by decide +kernel
theorem dX9_readUpdate_5 : decode cX9_readUpdate 5 = .ok (.aload_n 0, 1) := by decide +kernel
theorem dX9_readUpdate_6 : decode cX9_readUpdate 6 = .ok (.bipush 117, 2) := by decide +kernel
theorem dX9_readUpdate_8 : decode cX9_readUpdate 8 = .ok (.invokevirtual 32, 3) := by decide +kernel
theorem dX9_readUpdate_11 : decode cX9_readUpdate 11 = .ok (.aload_n 0, 1) := by decide +kernel
theorem dX9_readUpdate_12 : decode cX9_readUpdate 12 = .ok (.aload_n 0, 1) := by decide +kernel
theorem dX9_readUpdate_13 : decode cX9_readUpdate 13 = .ok (.iconst 2, 1) := by decide +kernel
theorem dX9_readUpdate_14 : decode cX9_readUpdate 14 = .ok (.invokevirtual 49, 3) := by decide +kernel
theorem dX9_readUpdate_17 : decode cX9_readUpdate 17 = .ok (.putfield 53, 3) := by decide +kernel
theorem dX9_readUpdate_20 : decode cX9_readUpdate 20 = .ok (.aload_n 0, 1) := by decide +kernel
theorem dX9_readUpdate_21 : decode cX9_readUpdate 21 = .ok (.bipush 46, 2) := by decide +kernel
theorem dX9_readUpdate_23 : decode cX9_readUpdate 23 = .ok (.invokevirtual 32, 3) := by decide +kernel
theorem dX9_readUpdate_26 : decode cX9_readUpdate 26 = .ok (.aload_n 0, 1) := by decide +kernel
theorem dX9_readUpdate_27 : decode cX9_readUpdate 27 = .ok (.aload_n 0, 1) := by decide +kernel
theorem dX9_readUpdate_28 : decode cX9_readUpdate 28 = .ok (.iconst 2, 1) := by decide +kernel
theorem dX9_readUpdate_29 : decode cX9_readUpdate 29 = .ok (.invokevirtual 68, 3) := by decide +kernel
theorem dX9_readUpdate_32 : decode cX9_readUpdate 32 = .ok (.putfield 71, 3) := by decide +kernel
theorem dX9_readUpdate_35 : decode cX9_readUpdate 35 = .ok (.aload_n 0, 1) := by decide +kernel
theorem dX9_readUpdate_36 : decode cX9_readUpdate 36 = .ok (.bipush 61, 2) := by decide +kernel
theorem dX9_readUpdate_38 : decode cX9_readUpdate 38 = .ok (.invokevirtual 32, 3) := by decide +kernel
theorem dX9_readUpdate_41 : decode cX9_readUpdate 41 = .ok (.aload_n 0, 1) := by decide +kernel
theorem dX9_readUpdate_42 : decode cX9_readUpdate 42 = .ok (.aload_n 0, 1) := by decide +kernel
theorem dX9_readUpdate_43 : decode cX9_readUpdate 43 = .ok (.invokevirtual 56, 3) := by decide +kernel
theorem dX9_readUpdate_46 : decode cX9_readUpdate 46 = .ok (.putfield 59, 3) := by decide +kernel
theorem dX9_readUpdate_49 : decode cX9_readUpdate 49 = .ok (.return_, 1) := by decide +kernel
theorem dX9_readValue_0 : decode cX9_readValue 0 = .ok (.aload_n 0, 1) := by decide +kernel
theorem dX9_readValue_1 : decode cX9_readValue 1 = .ok (.invokevirtual 36, 3) := by decide +kernel
theorem dX9_readValue_4 : decode cX9_readValue 4 = .ok (.bipush 45, 2) := by decide +kernel
theorem dX9_readValue_6 : decode cX9_readValue 6 = .ok (.if_icmp .ne 20, 3) := by decide +kernel
theorem dX9_readValue_9 : decode cX9_readValue 9 = .ok (.aload_n 0, 1) := by decide +kernel
theorem dX9_readValue_10 : decode cX9_readValue 10 = .ok (.dup, 1) := by decide +kernel
theorem dX9_readValue_11 : decode cX9_readValue 11 = .ok (.getfield 19, 3) := by decide +kernel
theorem dX9_readValue_14 : decode cX9_readValue 14 = .ok (.iconst 1, 1) := by decide +kernel
theorem dX9_readValue_15 : decode cX9_readValue 15 = .ok (.iadd, 1) := by decide +kernel
theorem dX9_readValue_16 : decode cX9_readValue 16 = .ok (.putfield 19, 3) := by decide +kernel
theorem dX9_readValue_19 : decode cX9_readValue 19 = .ok (.aload_n 0, 1) := by decide +kernel
theorem dX9_readValue_20 : decode cX9_readValue 20 = .ok (.iconst 3, 1) := by decide +kernel
theorem dX9_readValue_21 : decode cX9_readValue 21 = .ok (.invokevirtual 49, 3) := by decide +kernel
theorem dX9_readValue_24 : decode cX9_readValue 24 = .ok (.ineg, 1) := by decide +kernel
theorem dX9_readValue_25 : decode cX9_readValue 25 = .ok (.ireturn, 1) := by decide +kernel
theorem dX9_readValue_26 : decode cX9_readValue 26 = .ok (.aload_n 0, 1) := by decide +kernel
theorem dX9_readValue_27 : decode cX9_readValue 27 = .ok (.iconst 3, 1) := by decide +kernel
theorem dX9_readValue_28 : decode cX9_readValue 28 = .ok (.invokevirtual 49, 3) := by decide +kernel
theorem dX9_readValue_31 : decode cX9_readValue 31 = .ok (.ireturn, 1) := by decide +kernel
theorem dX9_readNumber_0 : decode cX9_readNumber 0 = .ok (.aload_n 0, 1) := by decide +kernel
theorem dX9_readNumber_1 : decode cX9_readNumber 1 = .ok (.bipush 9, 2) := by decide +kernel
theorem dX9_readNumber_3 : decode cX9_readNumber 3 = .ok (.invokevirtual 68, 3) := by decide +kernel
theorem dX9_readNumber_6 : decode cX9_readNumber 6 = .ok (.istore_n 2, 1) := by decide +kernel
theorem dX9_readNumber_7 : decode cX9_readNumber 7 = .ok (.iconst 1, 1) := by decide +kernel
theorem dX9_readNumber_8 : decode cX9_readNumber 8 = .ok (.istore_n 3, 1) := by decide +kernel
theorem dX9_readNumber_9 : decode cX9_readNumber 9 = .ok (.iload_n 3, 1) := by decide +kernel
theorem dX9_readNumber_10 : decode cX9_readNumber 10 = .ok (.iload_n 1, 1) := by decide +kernel
theorem dX9_readNumber_11 : decode cX9_readNumber 11 = .ok (.if_icmp .ge 37, 3) := by decide +kernel
theorem dX9_readNumber_14 : decode cX9_readNumber 14 = .ok (.iload_n 2, 1) := by decide +kernel
theorem dX9_readNumber_15 : decode cX9_readNumber 15 = .ok (.ifCond .le 33, 3) := by decide +kernel
theorem dX9_readNumber_18 : decode cX9_readNumber 18 = .ok (.aload_n 0, 1) := by decide +kernel
theorem dX9_readNumber_19 : decode cX9_readNumber 19 = .ok (.invokevirtual 36, 3) := by decide +kernel
theorem dX9_readNumber_22 : decode cX9_readNumber 22 = .ok (.bipush 9, 2) := by decide +kernel
theorem dX9_readNumber_24 : decode cX9_readNumber 24 = .ok (.invokestatic 74, 3) := by decide +kernel
theorem dX9_readNumber_27 : decode cX9_readNumber 27 = .ok (.ifCond .eq 21, 3) := by decide +kernel
theorem dX9_readNumber_30 : decode cX9_readNumber 30 = .ok (.iload_n 2, 1) := by decide +kernel
theorem dX9_readNumber_31 : decode cX9_readNumber 31 = .ok (.bipush 10, 2) := by decide +kernel
theorem dX9_readNumber_33 : decode cX9_readNumber 33 = .ok (.imul, 1) := by decide +kernel
theorem dX9_readNumber_34 : decode cX9_readNumber 34 = .ok (.aload_n 0, 1) := by decide +kernel
theorem dX9_readNumber_35 : decode cX9_readNumber 35 = .ok (.bipush 9, 2) := by decide +kernel
theorem dX9_readNumber_37 : decode cX9_readNumber 37 = .ok (.invokevirtual 68, 3) := by decide +kernel
theorem dX9_readNumber_40 : decode cX9_readNumber 40 = .ok (.iadd, 1) := by decide +kernel
theorem dX9_readNumber_41 : decode cX9_readNumber 41 = .ok (.istore_n 2, 1) := by decide +kernel
theorem dX9_readNumber_42 : decode cX9_readNumber 42 = .ok (.iinc 3 1, 3) := by decide +kernel
theorem dX9_readNumber_45 : decode cX9_readNumber 45 = .ok (.goto (-36), 3) := by decide +kernel
theorem dX9_readNumber_48 : decode cX9_readNumber 48 = .ok (.iload_n 2, 1) := by decide +kernel
theorem dX9_readNumber_49 : decode cX9_readNumber 49 = .ok (.ireturn, 1) := by decide +kernel
theorem dX9_readDigit_0 : decode cX9_readDigit 0 = .ok (.aload_n 0, 1) := by decide +kernel
theorem dX9_readDigit_1 : decode cX9_readDigit 1 = .ok (.invokevirtual 36, 3) := by decide +kernel
theorem dX9_readDigit_4 : decode cX9_readDigit 4 = .ok (.istore_n 2, 1) := by decide +kernel
theorem dX9_readDigit_5 : decode cX9_readDigit 5 = .ok (.iload_n 2, 1) := by decide +kernel
theorem dX9_readDigit_6 : decode cX9_readDigit 6 = .ok (.iload_n 1, 1) := by decide +kernel
theorem dX9_readDigit_7 : decode cX9_readDigit 7 = .ok (.invokestatic 74, 3) := by decide +kernel
theorem dX9_readDigit_10 : decode cX9_readDigit 10 = .ok (.ifCond .ne 10, 3) := by decide +kernel
theorem dX9_readDigit_13 : decode cX9_readDigit 13 = .ok (.aload_n 0, 1) := by decide +kernel
theorem dX9_readDigit_14 : decode cX9_readDigit 14 = .ok (.iconst 1, 1) := by decide +kernel
theorem dX9_readDigit_15 : decode cX9_readDigit 15 = .ok (.putfield 22, 3) := by decide +kernel
theorem dX9_readDigit_18 : decode cX9_readDigit 18 = .ok (.iconst 0, 1) := by decide +kernel
theorem dX9_readDigit_19 : decode cX9_readDigit 19 = .ok (.ireturn, 1) := by decide +kernel
theorem dX9_readDigit_20 : decode cX9_readDigit 20 = .ok (.aload_n 0, 1) := by decide +kernel
theorem dX9_readDigit_21 : decode cX9_readDigit 21 = .ok (.dup, 1) := by decide +kernel
theorem dX9_readDigit_22 : decode cX9_readDigit 22 = .ok (.getfield 19, 3) := by decide +kernel
theorem dX9_readDigit_25 : decode cX9_readDigit 25 = .ok (.iconst 1, 1) := by decide +kernel
theorem dX9_readDigit_26 : decode cX9_readDigit 26 = .ok (.iadd, 1) := by decide +kernel
theorem dX9_readDigit_27 : decode cX9_readDigit 27 = .ok (.putfield 19, 3) := by decide +kernel
theorem dX9_readDigit_30 : decode cX9_readDigit 30 = .ok (.iload_n 2, 1) := by decide +kernel
theorem dX9_readDigit_31 : decode cX9_readDigit 31 = .ok (.bipush 48, 2) := by decide +kernel
theorem dX9_readDigit_33 : decode cX9_readDigit 33 = .ok (.isub, 1) := by decide +kernel
theorem dX9_readDigit_34 : decode cX9_readDigit 34 = .ok (.ireturn, 1) := by decide +kernel
theorem dX9_isDigit_0 : decode cX9_isDigit 0 = .ok (.iload_n 0, 1) := by decide +kernel
theorem dX9_isDigit_1 : decode cX9_isDigit 1 = .ok (.bipush 48, 2) := by decide +kernel
theorem dX9_isDigit_3 : decode cX9_isDigit 3 = .ok (.if_icmp .lt 15, 3) := by decide +kernel
theorem dX9_isDigit_6 : decode cX9_isDigit 6 = .ok (.iload_n 0, 1) := by decide +kernel
theorem dX9_isDigit_7 : decode cX9_isDigit 7 = .ok (.bipush 48, 2) := by decide +kernel
theorem dX9_isDigit_9 : decode cX9_isDigit 9 = .ok (.iload_n 1, 1) := by decide +kernel
theorem dX9_isDigit_10 : decode cX9_isDigit 10 = .ok (.iadd, 1) := by decide +kernel
theorem dX9_isDigit_11 : decode cX9_isDigit 11 = .ok (.if_icmp .gt 7, 3) := by decide +kernel
theorem dX9_isDigit_14 : decode cX9_isDigit 14 = .ok (.iconst 1, 1) := by decide +kernel
theorem dX9_isDigit_15 : decode cX9_isDigit 15 = .ok (.goto 4, 3) := by decide +kernel
theorem dX9_isDigit_18 : decode cX9_isDigit 18 = .ok (.iconst 0, 1) := by decide +kernel
theorem dX9_isDigit_19 : decode cX9_isDigit 19 = .ok (.ireturn, 1) := by decide +kernel
theorem dX9_pass_0 : decode cX9_pass 0 = .ok (.aload_n 0, 1) := by decide +kernel
theorem dX9_pass_1 : decode cX9_pass 1 = .ok (.invokevirtual 36, 3) := by decide +kernel
theorem dX9_pass_4 : decode cX9_pass 4 = .ok (.iload_n 1, 1) := by decide +kernel
theorem dX9_pass_5 : decode cX9_pass 5 = .ok (.if_icmp .ne 16, 3) := by decide +kernel
theorem dX9_pass_8 : decode cX9_pass 8 = .ok (.aload_n 0, 1) := by decide +kernel
theorem dX9_pass_9 : decode cX9_pass 9 = .ok (.dup, 1) := by decide +kernel
theorem dX9_pass_10 : decode cX9_pass 10 = .ok (.getfield 19, 3) := by decide +kernel
theorem dX9_pass_13 : decode cX9_pass 13 = .ok (.iconst 1, 1) := by decide +kernel
theorem dX9_pass_14 : decode cX9_pass 14 = .ok (.iadd, 1) := by decide +kernel
theorem dX9_pass_15 : decode cX9_pass 15 = .ok (.putfield 19, 3) := by decide +kernel
theorem dX9_pass_18 : decode cX9_pass 18 = .ok (.goto 8, 3) := by decide +kernel
theorem dX9_pass_21 : decode cX9_pass 21 = .ok (.aload_n 0, 1) := by decide +kernel
theorem dX9_pass_22 : decode cX9_pass 22 = .ok (.iconst 1, 1) := by decide +kernel
theorem dX9_pass_23 : decode cX9_pass 23 = .ok (.putfield 22, 3) := by decide +kernel
theorem dX9_pass_26 : decode cX9_pass 26 = .ok (.return_, 1) := by decide +kernel
theorem dX9_here_0 : decode cX9_here 0 = .ok (.aload_n 0, 1) := by decide +kernel
theorem dX9_here_1 : decode cX9_here 1 = .ok (.getfield 22, 3) := by decide +kernel
theorem dX9_here_4 : decode cX9_here 4 = .ok (.ifCond .ne 33, 3) := by decide +kernel
theorem dX9_here_7 : decode cX9_here 7 = .ok (.aload_n 0, 1) := by decide +kernel
theorem dX9_here_8 : decode cX9_here 8 = .ok (.getfield 19, 3) := by decide +kernel
theorem dX9_here_11 : decode cX9_here 11 = .ok (.ifCond .lt 26, 3) := by decide +kernel
theorem dX9_here_14 : decode cX9_here 14 = .ok (.aload_n 0, 1) := by decide +kernel
theorem dX9_here_15 : decode cX9_here 15 = .ok (.getfield 19, 3) := by decide +kernel
theorem dX9_here_18 : decode cX9_here 18 = .ok (.aload_n 0, 1) := by decide +kernel
theorem dX9_here_19 : decode cX9_here 19 = .ok (.getfield 15, 3) := by decide +kernel
theorem dX9_here_22 : decode cX9_here 22 = .ok (.if_icmp .ge 15, 3) := by decide +kernel
theorem dX9_here_25 : decode cX9_here 25 = .ok (.aload_n 0, 1) := by decide +kernel
theorem dX9_here_26 : decode cX9_here 26 = .ok (.getfield 19, 3) := by decide +kernel
theorem dX9_here_29 : decode cX9_here 29 = .ok (.aload_n 0, 1) := by decide +kernel
theorem dX9_here_30 : decode cX9_here 30 = .ok (.getfield 9, 3) := by decide +kernel
theorem dX9_here_33 : decode cX9_here 33 = .ok (.arraylength, 1) := by decide +kernel
theorem dX9_here_34 : decode cX9_here 34 = .ok (.if_icmp .lt 5, 3) := by decide +kernel
theorem dX9_here_37 : decode cX9_here 37 = .ok (.iconst (-1), 1) := by decide +kernel
theorem dX9_here_38 : decode cX9_here 38 = .ok (.ireturn, 1) := by decide +kernel
theorem dX9_here_39 : decode cX9_here 39 = .ok (.aload_n 0, 1) := by decide +kernel
theorem dX9_here_40 : decode cX9_here 40 = .ok (.getfield 9, 3) := by decide +kernel
theorem dX9_here_43 : decode cX9_here 43 = .ok (.aload_n 0, 1) := by decide +kernel
theorem dX9_here_44 : decode cX9_here 44 = .ok (.getfield 19, 3) := by decide +kernel
theorem dX9_here_47 : decode cX9_here 47 = .ok (.caload, 1) := by decide +kernel
theorem dX9_here_48 : decode cX9_here 48 = .ok (.ireturn, 1) := by decide +kernel
theorem dX10_init_0 : decode cX10_init 0 = .ok (.aload_n 0, 1) := by decide +kernel
theorem dX10_init_1 : decode cX10_init 1 = .ok (.invokespecial 1, 3) := by decide +kernel
theorem dX10_init_4 : decode cX10_init 4 = .ok (.aload_n 0, 1) := by decide +kernel
theorem dX10_init_5 : decode cX10_init 5 = .ok (.new 7, 3) := by decide +kernel
theorem dX10_init_8 : decode cX10_init 8 = .ok (.dup, 1) := by decide +kernel
theorem dX10_init_9 : decode cX10_init 9 = .ok (.invokespecial 9, 3) := by decide +kernel
theorem dX10_init_12 : decode cX10_init 12 = .ok (.putfield 10, 3) := by decide +kernel
theorem dX10_init_15 : decode cX10_init 15 = .ok (.aload_n 0, 1) := by decide +kernel
theorem dX10_init_16 : decode cX10_init 16 = .ok (.new 16, 3) := by decide +kernel
theorem dX10_init_19 : decode cX10_init 19 = .ok (.dup, 1) := by decide +kernel
theorem dX10_init_20 : decode cX10_init 20 = .ok (.invokespecial 18, 3) := by decide +kernel
theorem dX10_init_23 : decode cX10_init 23 = .ok (.putfield 19, 3) := by decide +kernel
theorem dX10_init_26 : decode cX10_init 26 = .ok (.aload_n 0, 1) := by decide +kernel
theorem dX10_init_27 : decode cX10_init 27 = .ok (.new 16, 3) := by decide +kernel
theorem dX10_init_30 : decode cX10_init 30 = .ok (.dup, 1) := by decide +kernel
theorem dX10_init_31 : decode cX10_init 31 = .ok (.invokespecial 18, 3) := by decide +kernel
theorem dX10_init_34 : decode cX10_init 34 = .ok (.putfield 23, 3) := by decide +kernel
theorem dX10_init_37 : decode cX10_init 37 = .ok (.aload_n 0, 1) := by decide +kernel
theorem dX10_init_38 : decode cX10_init 38 = .ok (.new 26, 3) := by decide +kernel
theorem dX10_init_41 : decode cX10_init 41 = .ok (.dup, 1) := by decide +kernel
theorem dX10_init_42 : decode cX10_init 42 = .ok (.invokespecial 28, 3) := by decide +kernel
theorem dX10_init_45 : decode cX10_init 45 = .ok (.putfield 29, 3) := by decide +kernel
theorem dX10_init_48 : decode cX10_init 48 = .ok (.aload_n 0, 1) := by decide +kernel
theorem dX10_init_49 : decode cX10_init 49 = .ok (.new 33, 3) := by decide +kernel
theorem dX10_init_52 : decode cX10_init 52 = .ok (.dup, 1) := by decide +kernel
theorem dX10_init_53 : decode cX10_init 53 = .ok (.invokespecial 35, 3) := by decide +kernel
theorem dX10_init_56 : decode cX10_init 56 = .ok (.putfield 36, 3) := by decide +kernel
theorem dX10_init_59 : decode cX10_init 59 = .ok (.return_, 1) := by decide +kernel
theorem dX10_addRule_0 : decode cX10_addRule 0 = .ok (.iload_n 1, 1) := by decide +kernel
theorem dX10_addRule_1 : decode cX10_addRule 1 = .ok (.invokestatic 40, 3) := by decide +kernel
theorem dX10_addRule_4 : decode cX10_addRule 4 = .ok (.ifCond .eq 57, 3) := by decide +kernel
theorem dX10_addRule_7 : decode cX10_addRule 7 = .ok (.iload_n 2, 1) := by decide +kernel
theorem dX10_addRule_8 : decode cX10_addRule 8 = .ok (.invokestatic 44, 3) := by decide +kernel
theorem dX10_addRule_11 : decode cX10_addRule 11 = .ok (.ifCond .eq 50, 3) := by decide +kernel
theorem dX10_addRule_14 : decode cX10_addRule 14 = .ok (.iload_n 3, 1) := by decide +kernel
theorem dX10_addRule_15 : decode cX10_addRule 15 = .ok (.iconst 0, 1) := by decide +kernel
theorem dX10_addRule_16 : decode cX10_addRule 16 = .ok (.bipush 99, 2) := by decide +kernel
theorem dX10_addRule_18 : decode cX10_addRule 18 = .ok (.invokestatic 47, 3) := by decide +kernel
theorem dX10_addRule_21 : decode cX10_addRule 21 = .ok (.ifCond .eq 40, 3) := by decide +kernel
theorem dX10_addRule_24 : decode cX10_addRule 24 = .ok (.iload_n 2, 1) := by decide +kernel
theorem dX10_addRule_25 : decode cX10_addRule 25 = .ok (.iload 4, 2) := by decide +kernel
theorem dX10_addRule_27 : decode cX10_addRule 27 = .ok (.invokestatic 51, 3) := by decide +kernel
theorem dX10_addRule_30 : decode cX10_addRule 30 = .ok (.ifCond .eq 31, 3) := by decide +kernel
theorem dX10_addRule_33 : decode cX10_addRule 33 = .ok (.iload 5, 2) := by decide +kernel
theorem dX10_addRule_35 : decode cX10_addRule 35 = .ok (.iconst 0, 1) := by decide +kernel
theorem dX10_addRule_36 : decode cX10_addRule 36 = .ok (.iconst 2, 1) := by decide +kernel
theorem dX10_addRule_37 : decode cX10_addRule 37 = .ok (.invokestatic 47, 3) := by decide +kernel
theorem dX10_addRule_40 : decode cX10_addRule 40 = .ok (.ifCond .eq 21, 3) := by decide +kernel
theorem dX10_addRule_43 : decode cX10_addRule 43 = .ok (.iload 6, 2) := by decide +kernel
theorem dX10_addRule_45 : decode cX10_addRule 45 = .ok (.iconst 0, 1) := by decide +kernel
theorem dX10_addRule_46 : decode cX10_addRule 46 = .ok (.iconst 3, 1) := by decide +kernel
theorem dX10_addRule_47 : decode cX10_addRule 47 = .ok (.invokestatic 47, 3) := by decide +kernel
theorem dX10_addRule_50 : decode cX10_addRule 50 = .ok (.ifCond .eq 11, 3) := by decide +kernel
theorem dX10_addRule_53 : decode cX10_addRule 53 = .ok (.iload 7, 2) := by decide +kernel
theorem dX10_addRule_55 : decode cX10_addRule 55 = .ok (.invokestatic 55, 3) := by decide +kernel
theorem dX10_addRule_58 : decode cX10_addRule 58 = .ok (.ifCond .ne 7, 3) := by decide +kernel
theorem dX10_addRule_61 : decode cX10_addRule 61 = .ok (.sipush (-1002), 3) := by decide +kernel
theorem dX10_addRule_64 : decode cX10_addRule 64 = .ok (.ireturn, 1) := by decide +kernel
theorem dX10_addRule_65 : decode cX10_addRule 65 = .ok (.aload_n 0, 1) := by decide +kernel
theorem dX10_addRule_66 : decode cX10_addRule 66 = .ok (.getfield 10, 3) := by decide +kernel
theorem dX10_addRule_69 : decode cX10_addRule 69 = .ok (.getfield 58, 3) := by decide +kernel
theorem dX10_addRule_72 : decode cX10_addRule 72 = .ok (.getfield 61, 3) := by decide +kernel
theorem dX10_addRule_75 : decode cX10_addRule 75 = .ok (.astore 8, 2) := by decide +kernel
theorem dX10_addRule_77 : decode cX10_addRule 77 = .ok (.aload 8, 2) := by decide +kernel
theorem dX10_addRule_79 : decode cX10_addRule 79 = .ok (.invokevirtual 65, 3) := by decide +kernel
theorem dX10_addRule_82 : decode cX10_addRule 82 = .ok (.astore 9, 2) := by decide +kernel
theorem dX10_addRule_84 : decode cX10_addRule 84 = .ok (.aload 9, 2) := by decide +kernel
theorem dX10_addRule_86 : decode cX10_addRule 86 = .ok (.ifnonnull 7, 3) := by decide +kernel
theorem dX10_addRule_89 : decode cX10_addRule 89 = .ok (.sipush (-1003), 3) := by decide +kernel
theorem dX10_addRule_92 : decode cX10_addRule 92 = .ok (.ireturn, 1) := by decide +kernel
theorem dX10_addRule_93 : decode cX10_addRule 93 = .ok (.aload_n 0, 1) := by decide +kernel
theorem dX10_addRule_94 : decode cX10_addRule 94 = .ok (.getfield 29, 3) := by decide +kernel
theorem dX10_addRule_97 : decode cX10_addRule 97 = .ok (.aload_n 0, 1) := by decide +kernel
theorem dX10_addRule_98 : decode cX10_addRule 98 = .ok (.getfield 10, 3) := by decide +kernel
theorem dX10_addRule_101 : decode cX10_addRule 101 = .ok (.getfield 58, 3) := by decide +kernel
theorem dX10_addRule_104 : decode cX10_addRule 104 = .ok (.invokevirtual 71, 3) := by decide +kernel
theorem dX10_addRule_107 : decode cX10_addRule 107 = .ok (.aload 9, 2) := by decide +kernel
theorem dX10_addRule_109 : decode cX10_addRule 109 = .ok (.iload_n 1, 1) := by decide +kernel
theorem dX10_addRule_110 : decode cX10_addRule 110 = .ok (.iload_n 2, 1) := by decide +kernel
theorem dX10_addRule_111 : decode cX10_addRule 111 = .ok (.iload_n 3, 1) := by decide +kernel
theorem dX10_addRule_112 : decode cX10_addRule 112 = .ok (.iload 4, 2) := by decide +kernel
theorem dX10_addRule_114 : decode cX10_addRule 114 = .ok (.iload 5, 2) := by decide +kernel
theorem dX10_addRule_116 : decode cX10_addRule 116 = .ok (.iload 6, 2) := by decide +kernel
theorem dX10_addRule_118 : decode cX10_addRule 118 = .ok (.iload 7, 2) := by decide +kernel
theorem dX10_addRule_120 : decode cX10_addRule 120 = .ok (.invokevirtual 75, 3) := by decide +kernel
theorem dX10_addRule_123 : decode cX10_addRule 123 = .ok (.aload 8, 2) := by decide +kernel
theorem dX10_addRule_125 : decode cX10_addRule 125 = .ok (.invokevirtual 81, 3) := by decide +kernel
theorem dX10_addRule_128 : decode cX10_addRule 128 = .ok (.ireturn, 1) := by decide +kernel
theorem dX10_setCondition_0 : decode cX10_setCondition 0 = .ok (.aload_n 0, 1) := by decide +kernel
theorem dX10_setCondition_1 : decode cX10_setCondition 1 = .ok (.getfield 10, 3) := by decide +kernel
theorem dX10_setCondition_4 : decode cX10_setCondition 4 = .ok (.getfield 58, 3) := by decide +kernel
theorem dX10_setCondition_7 : decode cX10_setCondition 7 = .ok (.getfield 61, 3) := by decide +kernel
theorem dX10_setCondition_10 : decode cX10_setCondition 10 = .ok (.iload_n 1, 1) := by decide +kernel
theorem dX10_setCondition_11 : decode cX10_setCondition 11 = .ok (.invokevirtual 85, 3) := by decide +kernel
theorem dX10_setCondition_14 : decode cX10_setCondition 14 = .ok (.astore 5, 2) := by decide +kernel
theorem dX10_setCondition_16 : decode cX10_setCondition 16 = .ok (.aload 5, 2) := by decide +kernel
theorem dX10_setCondition_18 : decode cX10_setCondition 18 = .ok (.ifnonnull 7, 3) := by decide +kernel
theorem dX10_setCondition_21 : decode cX10_setCondition 21 = .ok (.sipush (-1001), 3) := by decide +kernel
theorem dX10_setCondition_24 : decode cX10_setCondition 24 = .ok (.ireturn, 1) := by decide +kernel
theorem dX10_setCondition_25 : decode cX10_setCondition 25 = .ok (.iload_n 2, 1) := by decide +kernel
theorem dX10_setCondition_26 : decode cX10_setCondition 26 = .ok (.iconst 0, 1) := by decide +kernel
theorem dX10_setCondition_27 : decode cX10_setCondition 27 = .ok (.iconst 3, 1) := by decide +kernel
theorem dX10_setCondition_28 : decode cX10_setCondition 28 = .ok (.invokestatic 47, 3) := by decide +kernel
theorem dX10_setCondition_31 : decode cX10_setCondition 31 = .ok (.ifCond .eq 20, 3) := by decide +kernel
theorem dX10_setCondition_34 : decode cX10_setCondition 34 = .ok (.iload_n 3, 1) := by decide +kernel
theorem dX10_setCondition_35 : decode cX10_setCondition 35 = .ok (.iconst 0, 1) := by decide +kernel
theorem dX10_setCondition_36 : decode cX10_setCondition 36 = .ok (.iconst 5, 1) := by decide +kernel
theorem dX10_setCondition_37 : decode cX10_setCondition 37 = .ok (.invokestatic 47, 3) := by decide +kernel
theorem dX10_setCondition_40 : decode cX10_setCondition 40 = .ok (.ifCond .eq 11, 3) := by decide +kernel
theorem dX10_setCondition_43 : decode cX10_setCondition 43 = .ok (.iload 4, 2) := by decide +kernel
theorem dX10_setCondition_45 : decode cX10_setCondition 45 = .ok (.invokestatic 55, 3) := by decide +kernel
theorem dX10_setCondition_48 : decode cX10_setCondition 48 = .ok (.ifCond .ne 7, 3) := by decide +kernel
theorem dX10_setCondition_51 : decode cX10_setCondition 51 = .ok (.sipush (-1002), 3) := by decide +kernel
theorem dX10_setCondition_54 : decode cX10_setCondition 54 = .ok (.ireturn, 1) := by decide +kernel
theorem dX10_setCondition_55 : decode cX10_setCondition 55 = .ok (.aload_n 0, 1) := by decide +kernel
theorem dX10_setCondition_56 : decode cX10_setCondition 56 = .ok (.getfield 29, 3) := by decide +kernel
theorem dX10_setCondition_59 : decode cX10_setCondition 59 = .ok (.aload_n 0, 1) := by decide +kernel
theorem dX10_setCondition_60 : decode cX10_setCondition 60 = .ok (.getfield 10, 3) := by decide +kernel
theorem dX10_setCondition_63 : decode cX10_setCondition 63 = .ok (.getfield 58, 3) := by decide +kernel
theorem dX10_setCondition_66 : decode cX10_setCondition 66 = .ok (.invokevirtual 71, 3) := by decide +kernel
theorem dX10_setCondition_69 : decode cX10_setCondition 69 = .ok (.aload 5, 2) := by decide +kernel
theorem dX10_setCondition_71 : decode cX10_setCondition 71 = .ok (.iload_n 2, 1) := by decide +kernel
theorem dX10_setCondition_72 : decode cX10_setCondition 72 = .ok (.iload_n 3, 1) := by decide +kernel
theorem dX10_setCondition_73 : decode cX10_setCondition 73 = .ok (.iload 4, 2) := by decide +kernel
theorem dX10_setCondition_75 : decode cX10_setCondition 75 = .ok (.invokevirtual 89, 3) := by decide +kernel
theorem dX10_setCondition_78 : decode cX10_setCondition 78 = .ok (.iload_n 1, 1) := by decide +kernel
theorem dX10_setCondition_79 : decode cX10_setCondition 79 = .ok (.ireturn, 1) := by decide +kernel
theorem dX10_put_0 : decode cX10_put 0 = .ok (.aload_n 0, 1) := by decide +kernel
theorem dX10_put_1 : decode cX10_put 1 = .ok (.getfield 10, 3) := by decide +kernel
theorem dX10_put_4 : decode cX10_put 4 = .ok (.getfield 58, 3) := by decide +kernel
theorem dX10_put_7 : decode cX10_put 7 = .ok (.getfield 61, 3) := by decide +kernel
theorem dX10_put_10 : decode cX10_put 10 = .ok (.iload_n 1, 1) := by decide +kernel
theorem dX10_put_11 : decode cX10_put 11 = .ok (.invokevirtual 85, 3) := by decide +kernel
theorem dX10_put_14 : decode cX10_put 14 = .ok (.astore_n 3, 1) := by decide +kernel
theorem dX10_put_15 : decode cX10_put 15 = .ok (.aload_n 3, 1) := by decide +kernel
theorem dX10_put_16 : decode cX10_put 16 = .ok (.ifnonnull 7, 3) := by decide +kernel
theorem dX10_put_19 : decode cX10_put 19 = .ok (.sipush (-1001), 3) := by decide +kernel
theorem dX10_put_22 : decode cX10_put 22 = .ok (.ireturn, 1) := by decide +kernel
theorem dX10_put_23 : decode cX10_put 23 = .ok (.aload_n 3, 1) := by decide +kernel
theorem dX10_put_24 : decode cX10_put 24 = .ok (.getfield 93, 3) := by decide +kernel
theorem dX10_put_27 : decode cX10_put 27 = .ok (.iload_n 2, 1) := by decide +kernel
theorem dX10_put_28 : decode cX10_put 28 = .ok (.if_icmp .ne 7, 3) := by decide +kernel
theorem dX10_put_31 : decode cX10_put 31 = .ok (.sipush (-1006), 3) := by decide +kernel
theorem dX10_put_34 : decode cX10_put 34 = .ok (.ireturn, 1) := by decide +kernel
theorem dX10_put_35 : decode cX10_put 35 = .ok (.aload_n 0, 1) := by decide +kernel
theorem dX10_put_36 : decode cX10_put 36 = .ok (.getfield 29, 3) := by decide +kernel
theorem dX10_put_39 : decode cX10_put 39 = .ok (.aload_n 0, 1) := by decide +kernel
theorem dX10_put_40 : decode cX10_put 40 = .ok (.getfield 10, 3) := by decide +kernel
theorem dX10_put_43 : decode cX10_put 43 = .ok (.getfield 58, 3) := by decide +kernel
theorem dX10_put_46 : decode cX10_put 46 = .ok (.invokevirtual 71, 3) := by decide +kernel
theorem dX10_put_49 : decode cX10_put 49 = .ok (.aload_n 3, 1) := by decide +kernel
theorem dX10_put_50 : decode cX10_put 50 = .ok (.iload_n 2, 1) := by decide +kernel
theorem dX10_put_51 : decode cX10_put 51 = .ok (.putfield 93, 3) := by decide +kernel
theorem dX10_put_54 : decode cX10_put 54 = .ok (.aload_n 0, 1) := by decide +kernel
theorem dX10_put_55 : decode cX10_put 55 = .ok (.getfield 10, 3) := by decide +kernel
theorem dX10_put_58 : decode cX10_put 58 = .ok (.getfield 58, 3) := by decide +kernel
theorem dX10_put_61 : decode cX10_put 61 = .ok (.getfield 61, 3) := by decide +kernel
theorem dX10_put_64 : decode cX10_put 64 = .ok (.invokevirtual 97, 3) := by decide +kernel
theorem dX10_put_67 : decode cX10_put 67 = .ok (.ireturn, 1) := by decide +kernel
theorem dX10_removeRule_0 : decode cX10_removeRule 0 = .ok (.aload_n 0, 1) := by decide +kernel
theorem dX10_removeRule_1 : decode cX10_removeRule 1 = .ok (.getfield 10, 3) := by decide +kernel
theorem dX10_removeRule_4 : decode cX10_removeRule 4 = .ok (.getfield 58, 3) := by decide +kernel
theorem dX10_removeRule_7 : decode cX10_removeRule 7 = .ok (.getfield 61, 3) := by decide +kernel
theorem dX10_removeRule_10 : decode cX10_removeRule 10 = .ok (.astore_n 2, 1) := by decide +kernel
theorem dX10_removeRule_11 : decode cX10_removeRule 11 = .ok (.aload_n 2, 1) := by decide +kernel
theorem dX10_removeRule_12 : decode cX10_removeRule 12 = .ok (.iload_n 1, 1) := by decide +kernel
theorem dX10_removeRule_13 : decode cX10_removeRule 13 = .ok (.invokevirtual 85, 3) := by decide +kernel
theorem dX10_removeRule_16 : decode cX10_removeRule 16 = .ok (.ifnonnull 7, 3) := by decide +kernel
theorem dX10_removeRule_19 : decode cX10_removeRule 19 = .ok (.sipush (-1001), 3) := by decide +kernel
theorem dX10_removeRule_22 : decode cX10_removeRule 22 = .ok (.ireturn, 1) := by decide +kernel
theorem dX10_removeRule_23 : decode cX10_removeRule 23 = .ok (.aload_n 0, 1) := by decide +kernel
theorem dX10_removeRule_24 : decode cX10_removeRule 24 = .ok (.getfield 29, 3) := by decide +kernel
theorem dX10_removeRule_27 : decode cX10_removeRule 27 = .ok (.aload_n 0, 1) := by decide +kernel
theorem dX10_removeRule_28 : decode cX10_removeRule 28 = .ok (.getfield 10, 3) := by decide +kernel
theorem dX10_removeRule_31 : decode cX10_removeRule 31 = .ok (.getfield 58, 3) := by decide +kernel
theorem dX10_removeRule_34 : decode cX10_removeRule 34 = .ok (.invokevirtual 71, 3) := by decide +kernel
theorem dX10_removeRule_37 : decode cX10_removeRule 37 = .ok (.aload_n 2, 1) := by decide +kernel
theorem dX10_removeRule_38 : decode cX10_removeRule 38 = .ok (.iload_n 1, 1) := by decide +kernel
theorem dX10_removeRule_39 : decode cX10_removeRule 39 = .ok (.invokevirtual 100, 3) := by decide +kernel
theorem dX10_removeRule_42 : decode cX10_removeRule 42 = .ok (.aload_n 2, 1) := by decide +kernel
theorem dX10_removeRule_43 : decode cX10_removeRule 43 = .ok (.getfield 104, 3) := by decide +kernel
theorem dX10_removeRule_46 : decode cX10_removeRule 46 = .ok (.ireturn, 1) := by decide +kernel
theorem dX10_set_0 : decode cX10_set 0 = .ok (.iload_n 1, 1) := by decide +kernel
theorem dX10_set_1 : decode cX10_set 1 = .ok (.iconst 0, 1) := by decide +kernel
theorem dX10_set_2 : decode cX10_set 2 = .ok (.iconst 1, 1) := by decide +kernel
theorem dX10_set_3 : decode cX10_set 3 = .ok (.invokestatic 47, 3) := by decide +kernel
theorem dX10_set_6 : decode cX10_set 6 = .ok (.ifCond .ne 7, 3) := by decide +kernel
theorem dX10_set_9 : decode cX10_set 9 = .ok (.sipush (-1001), 3) := by decide +kernel
theorem dX10_set_12 : decode cX10_set 12 = .ok (.ireturn, 1) := by decide +kernel
theorem dX10_set_13 : decode cX10_set 13 = .ok (.iload_n 1, 1) := by decide +kernel
theorem dX10_set_14 : decode cX10_set 14 = .ok (.ifCond .ne 13, 3) := by decide +kernel
theorem dX10_set_17 : decode cX10_set 17 = .ok (.iload_n 2, 1) := by decide +kernel
theorem dX10_set_18 : decode cX10_set 18 = .ok (.iconst 1, 1) := by decide +kernel
theorem dX10_set_19 : decode cX10_set 19 = .ok (.bipush 8, 2) := by decide +kernel
theorem dX10_set_21 : decode cX10_set 21 = .ok (.invokestatic 47, 3) := by decide +kernel
theorem dX10_set_24 : decode cX10_set 24 = .ok (.goto 9, 3) := by decide +kernel
theorem dX10_set_27 : decode cX10_set 27 = .ok (.iload_n 2, 1) := by decide +kernel
theorem dX10_set_28 : decode cX10_set 28 = .ok (.iconst 0, 1) := by decide +kernel
theorem dX10_set_29 : decode cX10_set 29 = .ok (.iconst 1, 1) := by decide +kernel
theorem dX10_set_30 : decode cX10_set 30 = .ok (.invokestatic 47, 3) := by decide +kernel
theorem dX10_set_33 : decode cX10_set 33 = .ok (.istore_n 3, 1) := by decide +kernel
theorem dX10_set_34 : decode cX10_set 34 = .ok (.iload_n 3, 1) := by decide +kernel
theorem dX10_set_35 : decode cX10_set 35 = .ok (.ifCond .ne 7, 3) := by decide +kernel
theorem dX10_set_38 : decode cX10_set 38 = .ok (.sipush (-1002), 3) := by decide +kernel
theorem dX10_set_41 : decode cX10_set 41 = .ok (.ireturn, 1) := by decide +kernel
theorem dX10_set_42 : decode cX10_set 42 = .ok (.aload_n 0, 1) := by decide +kernel
theorem dX10_set_43 : decode cX10_set 43 = .ok (.getfield 10, 3) := by decide +kernel
theorem dX10_set_46 : decode cX10_set 46 = .ok (.getfield 58, 3) := by decide +kernel
theorem dX10_set_49 : decode cX10_set 49 = .ok (.astore 4, 2) := by decide +kernel
theorem dX10_set_51 : decode cX10_set 51 = .ok (.iload_n 1, 1) := by decide +kernel
theorem dX10_set_52 : decode cX10_set 52 = .ok (.ifCond .ne 11, 3) := by decide +kernel
theorem dX10_set_55 : decode cX10_set 55 = .ok (.aload 4, 2) := by decide +kernel
theorem dX10_set_57 : decode cX10_set 57 = .ok (.getfield 108, 3) := by decide +kernel
theorem dX10_set_60 : decode cX10_set 60 = .ok (.goto 8, 3) := by decide +kernel
theorem dX10_set_63 : decode cX10_set 63 = .ok (.aload 4, 2) := by decide +kernel
theorem dX10_set_65 : decode cX10_set 65 = .ok (.getfield 111, 3) := by decide +kernel
theorem dX10_set_68 : decode cX10_set 68 = .ok (.istore 5, 2) := by decide +kernel
theorem dX10_set_70 : decode cX10_set 70 = .ok (.iload 5, 2) := by decide +kernel
theorem dX10_set_72 : decode cX10_set 72 = .ok (.iload_n 2, 1) := by decide +kernel
theorem dX10_set_73 : decode cX10_set 73 = .ok (.if_icmp .ne 7, 3) := by decide +kernel
theorem dX10_set_76 : decode cX10_set 76 = .ok (.sipush (-1006), 3) := by decide +kernel
theorem dX10_set_79 : decode cX10_set 79 = .ok (.ireturn, 1) := by decide +kernel
theorem dX10_set_80 : decode cX10_set 80 = .ok (.aload_n 0, 1) := by decide +kernel
theorem dX10_set_81 : decode cX10_set 81 = .ok (.getfield 29, 3) := by decide +kernel
theorem dX10_set_84 : decode cX10_set 84 = .ok (.aload 4, 2) := by decide +kernel
theorem dX10_set_86 : decode cX10_set 86 = .ok (.invokevirtual 71, 3) := by decide +kernel
theorem dX10_set_89 : decode cX10_set 89 = .ok (.iload_n 1, 1) := by decide +kernel
theorem dX10_set_90 : decode cX10_set 90 = .ok (.ifCond .ne 12, 3) := by decide +kernel
theorem dX10_set_93 : decode cX10_set 93 = .ok (.aload 4, 2) := by decide +kernel
theorem dX10_set_95 : decode cX10_set 95 = .ok (.iload_n 2, 1) := by decide +kernel
theorem dX10_set_96 : decode cX10_set 96 = .ok (.putfield 108, 3) := by decide +kernel
theorem dX10_set_99 : decode cX10_set 99 = .ok (.goto 9, 3) := by decide +kernel
theorem dX10_set_102 : decode cX10_set 102 = .ok (.aload 4, 2) := by decide +kernel
theorem dX10_set_104 : decode cX10_set 104 = .ok (.iload_n 2, 1) := by decide +kernel
theorem dX10_set_105 : decode cX10_set 105 = .ok (.putfield 111, 3) := by decide +kernel
theorem dX10_set_108 : decode cX10_set 108 = .ok (.iload 5, 2) := by decide +kernel
theorem dX10_set_110 : decode cX10_set 110 = .ok (.ireturn, 1) := by decide +kernel
theorem dX10_insert_0 : decode cX10_insert 0 = .ok (.aload_n 0, 1) := by decide +kernel
theorem dX10_insert_1 : decode cX10_insert 1 = .ok (.getfield 19, 3) := by decide +kernel
theorem dX10_insert_4 : decode cX10_insert 4 = .ok (.aload_n 0, 1) := by decide +kernel
theorem dX10_insert_5 : decode cX10_insert 5 = .ok (.getfield 10, 3) := by decide +kernel
theorem dX10_insert_8 : decode cX10_insert 8 = .ok (.getfield 58, 3) := by decide +kernel
theorem dX10_insert_11 : decode cX10_insert 11 = .ok (.invokevirtual 114, 3) := by decide +kernel
theorem dX10_insert_14 : decode cX10_insert 14 = .ok (.aload_n 0, 1) := by decide +kernel
theorem dX10_insert_15 : decode cX10_insert 15 = .ok (.aload_n 0, 1) := by decide +kernel
theorem dX10_insert_16 : decode cX10_insert 16 = .ok (.getfield 10, 3) := by decide +kernel
theorem dX10_insert_19 : decode cX10_insert 19 = .ok (.iload_n 1, 1) := by decide +kernel
theorem dX10_insert_20 : decode cX10_insert 20 = .ok (.iload_n 2, 1) := by decide +kernel
theorem dX10_insert_21 : decode cX10_insert 21 = .ok (.iload_n 3, 1) := by decide +kernel
theorem dX10_insert_22 : decode cX10_insert 22 = .ok (.iload 4, 2) := by decide +kernel
theorem dX10_insert_24 : decode cX10_insert 24 = .ok (.invokevirtual 117, 3) := by decide +kernel
theorem dX10_insert_27 : decode cX10_insert 27 = .ok (.invokevirtual 121, 3) := by decide +kernel
theorem dX10_insert_30 : decode cX10_insert 30 = .ok (.ireturn, 1) := by decide +kernel
theorem dX10_update_0 : decode cX10_update 0 = .ok (.aload_n 0, 1) := by decide +kernel
theorem dX10_update_1 : decode cX10_update 1 = .ok (.getfield 19, 3) := by decide +kernel
theorem dX10_update_4 : decode cX10_update 4 = .ok (.aload_n 0, 1) := by decide +kernel
theorem dX10_update_5 : decode cX10_update 5 = .ok (.getfield 10, 3) := by decide +kernel
theorem dX10_update_8 : decode cX10_update 8 = .ok (.getfield 58, 3) := by decide +kernel
theorem dX10_update_11 : decode cX10_update 11 = .ok (.invokevirtual 114, 3) := by decide +kernel
theorem dX10_update_14 : decode cX10_update 14 = .ok (.aload_n 0, 1) := by decide +kernel
theorem dX10_update_15 : decode cX10_update 15 = .ok (.aload_n 0, 1) := by decide +kernel
theorem dX10_update_16 : decode cX10_update 16 = .ok (.getfield 10, 3) := by decide +kernel
theorem dX10_update_19 : decode cX10_update 19 = .ok (.iload_n 1, 1) := by decide +kernel
theorem dX10_update_20 : decode cX10_update 20 = .ok (.iload_n 2, 1) := by decide +kernel
theorem dX10_update_21 : decode cX10_update 21 = .ok (.iload_n 3, 1) := by decide +kernel
theorem dX10_update_22 : decode cX10_update 22 = .ok (.invokevirtual 125, 3) := by decide +kernel
theorem dX10_update_25 : decode cX10_update 25 = .ok (.invokevirtual 121, 3) := by decide +kernel
theorem dX10_update_28 : decode cX10_update 28 = .ok (.ireturn, 1) := by decide +kernel
theorem dX10_delete_0 : decode cX10_delete 0 = .ok (.aload_n 0, 1) := by decide +kernel
theorem dX10_delete_1 : decode cX10_delete 1 = .ok (.getfield 19, 3) := by decide +kernel
theorem dX10_delete_4 : decode cX10_delete 4 = .ok (.aload_n 0, 1) := by decide +kernel
theorem dX10_delete_5 : decode cX10_delete 5 = .ok (.getfield 10, 3) := by decide +kernel
theorem dX10_delete_8 : decode cX10_delete 8 = .ok (.getfield 58, 3) := by decide +kernel
theorem dX10_delete_11 : decode cX10_delete 11 = .ok (.invokevirtual 114, 3) := by decide +kernel
theorem dX10_delete_14 : decode cX10_delete 14 = .ok (.aload_n 0, 1) := by decide +kernel
theorem dX10_delete_15 : decode cX10_delete 15 = .ok (.aload_n 0, 1) := by decide +kernel
theorem dX10_delete_16 : decode cX10_delete 16 = .ok (.getfield 10, 3) := by decide +kernel
theorem dX10_delete_19 : decode cX10_delete 19 = .ok (.iload_n 1, 1) := by decide +kernel
theorem dX10_delete_20 : decode cX10_delete 20 = .ok (.invokevirtual 129, 3) := by decide +kernel
theorem dX10_delete_23 : decode cX10_delete 23 = .ok (.invokevirtual 121, 3) := by decide +kernel
theorem dX10_delete_26 : decode cX10_delete 26 = .ok (.ireturn, 1) := by decide +kernel
theorem dX10_type_0 : decode cX10_type 0 = .ok (.aload_n 0, 1) := by decide +kernel
theorem dX10_type_1 : decode cX10_type 1 = .ok (.getfield 36, 3) := by decide +kernel
theorem dX10_type_4 : decode cX10_type 4 = .ok (.iload_n 1, 1) := by decide +kernel
theorem dX10_type_5 : decode cX10_type 5 = .ok (.invokevirtual 132, 3) := by decide +kernel
theorem dX10_type_8 : decode cX10_type 8 = .ok (.ifCond .eq 13, 3) := by decide +kernel
theorem dX10_type_11 : decode cX10_type 11 = .ok (.aload_n 0, 1) := by decide +kernel
theorem dX10_type_12 : decode cX10_type 12 = .ok (.getfield 36, 3) := by decide +kernel
theorem dX10_type_15 : decode cX10_type 15 = .ok (.getfield 136, 3) := by decide +kernel
theorem dX10_type_18 : decode cX10_type 18 = .ok (.goto 6, 3) := by decide +kernel
theorem dX10_type_21 : decode cX10_type 21 = .ok (.sipush (-1003), 3) := by decide +kernel
theorem dX10_type_24 : decode cX10_type 24 = .ok (.ireturn, 1) := by decide +kernel
theorem dX10_clearText_0 : decode cX10_clearText 0 = .ok (.aload_n 0, 1) := by decide +kernel
theorem dX10_clearText_1 : decode cX10_clearText 1 = .ok (.getfield 36, 3) := by decide +kernel
theorem dX10_clearText_4 : decode cX10_clearText 4 = .ok (.getfield 136, 3) := by decide +kernel
theorem dX10_clearText_7 : decode cX10_clearText 7 = .ok (.istore_n 1, 1) := by decide +kernel
theorem dX10_clearText_8 : decode cX10_clearText 8 = .ok (.aload_n 0, 1) := by decide +kernel
theorem dX10_clearText_9 : decode cX10_clearText 9 = .ok (.getfield 36, 3) := by decide +kernel
theorem dX10_clearText_12 : decode cX10_clearText 12 = .ok (.iconst 0, 1) := by decide +kernel
theorem dX10_clearText_13 : decode cX10_clearText 13 = .ok (.putfield 136, 3) := by decide +kernel
theorem dX10_clearText_16 : decode cX10_clearText 16 = .ok (.iload_n 1, 1) := by decide +kernel
theorem dX10_clearText_17 : decode cX10_clearText 17 = .ok (.ireturn, 1) := by decide +kernel
theorem dX10_perform_0 : decode cX10_perform 0 = .ok (.aload_n 0, 1) := by decide +kernel
theorem dX10_perform_1 : decode cX10_perform 1 = .ok (.getfield 36, 3) := by decide +kernel
theorem dX10_perform_4 : decode cX10_perform 4 = .ok (.invokevirtual 139, 3) := by decide +kernel
theorem dX10_perform_7 : decode cX10_perform 7 = .ok (.istore_n 1, 1) := by decide +kernel
theorem dX10_perform_8 : decode cX10_perform 8 = .ok (.iload_n 1, 1) := by decide +kernel
theorem dX10_perform_9 : decode cX10_perform 9 = .ok (.ifCond .ge 5, 3) := by decide +kernel
theorem dX10_perform_12 : decode cX10_perform 12 = .ok (.iload_n 1, 1) := by decide +kernel
theorem dX10_perform_13 : decode cX10_perform 13 = .ok (.ireturn, 1) := by decide +kernel
theorem dX10_perform_14 : decode cX10_perform 14 = .ok (.aload_n 0, 1) := by decide +kernel
theorem dX10_perform_15 : decode cX10_perform 15 = .ok (.getfield 19, 3) := by decide +kernel
theorem dX10_perform_18 : decode cX10_perform 18 = .ok (.aload_n 0, 1) := by decide +kernel
theorem dX10_perform_19 : decode cX10_perform 19 = .ok (.getfield 10, 3) := by decide +kernel
theorem dX10_perform_22 : decode cX10_perform 22 = .ok (.getfield 58, 3) := by decide +kernel
theorem dX10_perform_25 : decode cX10_perform 25 = .ok (.invokevirtual 114, 3) := by decide +kernel
theorem dX10_perform_28 : decode cX10_perform 28 = .ok (.aload_n 0, 1) := by decide +kernel
theorem dX10_perform_29 : decode cX10_perform 29 = .ok (.getfield 36, 3) := by decide +kernel
theorem dX10_perform_32 : decode cX10_perform 32 = .ok (.invokevirtual 142, 3) := by decide +kernel
theorem dX10_perform_35 : decode cX10_perform 35 = .ok (.iconst 0, 1) := by decide +kernel
theorem dX10_perform_36 : decode cX10_perform 36 = .ok (.istore_n 2, 1) := by decide +kernel
theorem dX10_perform_37 : decode cX10_perform 37 = .ok (.iload_n 2, 1) := by decide +kernel
theorem dX10_perform_38 : decode cX10_perform 38 = .ok (.iload_n 1, 1) := by decide +kernel
theorem dX10_perform_39 : decode cX10_perform 39 = .ok (.if_icmp .ge 38, 3) := by decide +kernel
theorem dX10_perform_42 : decode cX10_perform 42 = .ok (.aload_n 0, 1) := by decide +kernel
theorem dX10_perform_43 : decode cX10_perform 43 = .ok (.getfield 36, 3) := by decide +kernel
theorem dX10_perform_46 : decode cX10_perform 46 = .ok (.invokevirtual 145, 3) := by decide +kernel
theorem dX10_perform_49 : decode cX10_perform 49 = .ok (.aload_n 0, 1) := by decide +kernel
theorem dX10_perform_50 : decode cX10_perform 50 = .ok (.invokevirtual 148, 3) := by decide +kernel
theorem dX10_perform_53 : decode cX10_perform 53 = .ok (.istore_n 3, 1) := by decide +kernel
theorem dX10_perform_54 : decode cX10_perform 54 = .ok (.iload_n 3, 1) := by decide +kernel
theorem dX10_perform_55 : decode cX10_perform 55 = .ok (.ifCond .ge 16, 3) := by decide +kernel
theorem dX10_perform_58 : decode cX10_perform 58 = .ok (.iload_n 3, 1) := by decide +kernel
theorem dX10_perform_59 : decode cX10_perform 59 = .ok (.sipush (-1006), 3) := by decide +kernel
theorem dX10_perform_62 : decode cX10_perform 62 = .ok (.if_icmp .eq 9, 3) := by decide +kernel
theorem dX10_perform_65 : decode cX10_perform 65 = .ok (.aload_n 0, 1) := by decide +kernel
theorem dX10_perform_66 : decode cX10_perform 66 = .ok (.iload_n 3, 1) := by decide +kernel
theorem dX10_perform_67 : decode cX10_perform 67 = .ok (.invokevirtual 121, 3) := by decide +kernel
theorem dX10_perform_70 : decode cX10_perform 70 = .ok (.ireturn, 1) := by decide +kernel
theorem dX10_perform_71 : decode cX10_perform 71 = .ok (.iinc 2 1, 3) := by decide +kernel
theorem dX10_perform_74 : decode cX10_perform 74 = .ok (.goto (-37), 3) := by decide +kernel
theorem dX10_perform_77 : decode cX10_perform 77 = .ok (.aload_n 0, 1) := by decide +kernel
theorem dX10_perform_78 : decode cX10_perform 78 = .ok (.iload_n 1, 1) := by decide +kernel
theorem dX10_perform_79 : decode cX10_perform 79 = .ok (.invokevirtual 121, 3) := by decide +kernel
theorem dX10_perform_82 : decode cX10_perform 82 = .ok (.ireturn, 1) := by decide +kernel
theorem dX10_undo_0 : decode cX10_undo 0 = .ok (.aload_n 0, 1) := by decide +kernel
theorem dX10_undo_1 : decode cX10_undo 1 = .ok (.getfield 29, 3) := by decide +kernel
theorem dX10_undo_4 : decode cX10_undo 4 = .ok (.aload_n 0, 1) := by decide +kernel
theorem dX10_undo_5 : decode cX10_undo 5 = .ok (.getfield 10, 3) := by decide +kernel
theorem dX10_undo_8 : decode cX10_undo 8 = .ok (.getfield 58, 3) := by decide +kernel
theorem dX10_undo_11 : decode cX10_undo 11 = .ok (.invokevirtual 151, 3) := by decide +kernel
theorem dX10_undo_14 : decode cX10_undo 14 = .ok (.ifCond .eq 13, 3) := by decide +kernel
theorem dX10_undo_17 : decode cX10_undo 17 = .ok (.aload_n 0, 1) := by decide +kernel
theorem dX10_undo_18 : decode cX10_undo 18 = .ok (.getfield 29, 3) := by decide +kernel
theorem dX10_undo_21 : decode cX10_undo 21 = .ok (.getfield 155, 3) := by decide +kernel
theorem dX10_undo_24 : decode cX10_undo 24 = .ok (.goto 6, 3) := by decide +kernel
theorem dX10_undo_27 : decode cX10_undo 27 = .ok (.sipush (-1006), 3) := by decide +kernel
theorem dX10_undo_30 : decode cX10_undo 30 = .ok (.ireturn, 1) := by decide +kernel
theorem dX10_keep_0 : decode cX10_keep 0 = .ok (.aload_n 0, 1) := by decide +kernel
theorem dX10_keep_1 : decode cX10_keep 1 = .ok (.getfield 23, 3) := by decide +kernel
theorem dX10_keep_4 : decode cX10_keep 4 = .ok (.aload_n 0, 1) := by decide +kernel
theorem dX10_keep_5 : decode cX10_keep 5 = .ok (.getfield 10, 3) := by decide +kernel
theorem dX10_keep_8 : decode cX10_keep 8 = .ok (.getfield 58, 3) := by decide +kernel
theorem dX10_keep_11 : decode cX10_keep 11 = .ok (.invokevirtual 114, 3) := by decide +kernel
theorem dX10_keep_14 : decode cX10_keep 14 = .ok (.aload_n 0, 1) := by decide +kernel
theorem dX10_keep_15 : decode cX10_keep 15 = .ok (.iconst 1, 1) := by decide +kernel
theorem dX10_keep_16 : decode cX10_keep 16 = .ok (.putfield 156, 3) := by decide +kernel
theorem dX10_keep_19 : decode cX10_keep 19 = .ok (.aload_n 0, 1) := by decide +kernel
theorem dX10_keep_20 : decode cX10_keep 20 = .ok (.getfield 23, 3) := by decide +kernel
theorem dX10_keep_23 : decode cX10_keep 23 = .ok (.getfield 159, 3) := by decide +kernel
theorem dX10_keep_26 : decode cX10_keep 26 = .ok (.getfield 163, 3) := by decide +kernel
theorem dX10_keep_29 : decode cX10_keep 29 = .ok (.ireturn, 1) := by decide +kernel
theorem dX10_restore_0 : decode cX10_restore 0 = .ok (.aload_n 0, 1) := by decide +kernel
theorem dX10_restore_1 : decode cX10_restore 1 = .ok (.getfield 156, 3) := by decide +kernel
theorem dX10_restore_4 : decode cX10_restore 4 = .ok (.ifCond .ne 7, 3) := by decide +kernel
theorem dX10_restore_7 : decode cX10_restore 7 = .ok (.sipush (-1006), 3) := by decide +kernel
theorem dX10_restore_10 : decode cX10_restore 10 = .ok (.ireturn, 1) := by decide +kernel
theorem dX10_restore_11 : decode cX10_restore 11 = .ok (.aload_n 0, 1) := by decide +kernel
theorem dX10_restore_12 : decode cX10_restore 12 = .ok (.getfield 29, 3) := by decide +kernel
theorem dX10_restore_15 : decode cX10_restore 15 = .ok (.aload_n 0, 1) := by decide +kernel
theorem dX10_restore_16 : decode cX10_restore 16 = .ok (.getfield 10, 3) := by decide +kernel
theorem dX10_restore_19 : decode cX10_restore 19 = .ok (.getfield 58, 3) := by decide +kernel
theorem dX10_restore_22 : decode cX10_restore 22 = .ok (.invokevirtual 71, 3) := by decide +kernel
theorem dX10_restore_25 : decode cX10_restore 25 = .ok (.aload_n 0, 1) := by decide +kernel
theorem dX10_restore_26 : decode cX10_restore 26 = .ok (.getfield 10, 3) := by decide +kernel
theorem dX10_restore_29 : decode cX10_restore 29 = .ok (.getfield 58, 3) := by decide +kernel
theorem dX10_restore_32 : decode cX10_restore 32 = .ok (.aload_n 0, 1) := by decide +kernel
theorem dX10_restore_33 : decode cX10_restore 33 = .ok (.getfield 23, 3) := by decide +kernel
theorem dX10_restore_36 : decode cX10_restore 36 = .ok (.invokevirtual 114, 3) := by decide +kernel
theorem dX10_restore_39 : decode cX10_restore 39 = .ok (.aload_n 0, 1) := by decide +kernel
theorem dX10_restore_40 : decode cX10_restore 40 = .ok (.getfield 23, 3) := by decide +kernel
theorem dX10_restore_43 : decode cX10_restore 43 = .ok (.getfield 159, 3) := by decide +kernel
theorem dX10_restore_46 : decode cX10_restore 46 = .ok (.getfield 163, 3) := by decide +kernel
theorem dX10_restore_49 : decode cX10_restore 49 = .ok (.ireturn, 1) := by decide +kernel
theorem dX10_field_0 : decode cX10_field 0 = .ok (.aload_n 0, 1) := by decide +kernel
theorem dX10_field_1 : decode cX10_field 1 = .ok (.getfield 10, 3) := by decide +kernel
theorem dX10_field_4 : decode cX10_field 4 = .ok (.getfield 58, 3) := by decide +kernel
theorem dX10_field_7 : decode cX10_field 7 = .ok (.getfield 159, 3) := by decide +kernel
theorem dX10_field_10 : decode cX10_field 10 = .ok (.iload_n 1, 1) := by decide +kernel
theorem dX10_field_11 : decode cX10_field 11 = .ok (.invokevirtual 166, 3) := by decide +kernel
theorem dX10_field_14 : decode cX10_field 14 = .ok (.astore_n 3, 1) := by decide +kernel
theorem dX10_field_15 : decode cX10_field 15 = .ok (.aload_n 3, 1) := by decide +kernel
theorem dX10_field_16 : decode cX10_field 16 = .ok (.ifnonnull 7, 3) := by decide +kernel
theorem dX10_field_19 : decode cX10_field 19 = .ok (.sipush (-1001), 3) := by decide +kernel
theorem dX10_field_22 : decode cX10_field 22 = .ok (.ireturn, 1) := by decide +kernel
theorem dX10_field_23 : decode cX10_field 23 = .ok (.iload_n 2, 1) := by decide +kernel
theorem dX10_field_24 : decode cX10_field 24 = .ok (.iconst 0, 1) := by decide +kernel
theorem dX10_field_25 : decode cX10_field 25 = .ok (.iconst 2, 1) := by decide +kernel
theorem dX10_field_26 : decode cX10_field 26 = .ok (.invokestatic 47, 3) := by decide +kernel
theorem dX10_field_29 : decode cX10_field 29 = .ok (.ifCond .eq 11, 3) := by decide +kernel
theorem dX10_field_32 : decode cX10_field 32 = .ok (.aload_n 3, 1) := by decide +kernel
theorem dX10_field_33 : decode cX10_field 33 = .ok (.iload_n 2, 1) := by decide +kernel
theorem dX10_field_34 : decode cX10_field 34 = .ok (.invokevirtual 170, 3) := by decide +kernel
theorem dX10_field_37 : decode cX10_field 37 = .ok (.goto 6, 3) := by decide +kernel
theorem dX10_field_40 : decode cX10_field 40 = .ok (.sipush (-1002), 3) := by decide +kernel
theorem dX10_field_43 : decode cX10_field 43 = .ok (.ireturn, 1) := by decide +kernel
theorem dX10_keyAt_0 : decode cX10_keyAt 0 = .ok (.iload_n 1, 1) := by decide +kernel
theorem dX10_keyAt_1 : decode cX10_keyAt 1 = .ok (.ifCond .ge 7, 3) := by decide +kernel
theorem dX10_keyAt_4 : decode cX10_keyAt 4 = .ok (.sipush (-1002), 3) := by decide +kernel
theorem dX10_keyAt_7 : decode cX10_keyAt 7 = .ok (.ireturn, 1) := by decide +kernel
theorem dX10_keyAt_8 : decode cX10_keyAt 8 = .ok (.aload_n 0, 1) := by decide +kernel
theorem dX10_keyAt_9 : decode cX10_keyAt 9 = .ok (.getfield 10, 3) := by decide +kernel
theorem dX10_keyAt_12 : decode cX10_keyAt 12 = .ok (.getfield 58, 3) := by decide +kernel
theorem dX10_keyAt_15 : decode cX10_keyAt 15 = .ok (.getfield 159, 3) := by decide +kernel
theorem dX10_keyAt_18 : decode cX10_keyAt 18 = .ok (.iload_n 1, 1) := by decide +kernel
theorem dX10_keyAt_19 : decode cX10_keyAt 19 = .ok (.invokevirtual 175, 3) := by decide +kernel
theorem dX10_keyAt_22 : decode cX10_keyAt 22 = .ok (.astore_n 2, 1) := by decide +kernel
theorem dX10_keyAt_23 : decode cX10_keyAt 23 = .ok (.aload_n 2, 1) := by decide +kernel
theorem dX10_keyAt_24 : decode cX10_keyAt 24 = .ok (.ifnonnull 9, 3) := by decide +kernel
theorem dX10_keyAt_27 : decode cX10_keyAt 27 = .ok (.sipush (-1006), 3) := by decide +kernel
theorem dX10_keyAt_30 : decode cX10_keyAt 30 = .ok (.goto 7, 3) := by decide +kernel
theorem dX10_keyAt_33 : decode cX10_keyAt 33 = .ok (.aload_n 2, 1) := by decide +kernel
theorem dX10_keyAt_34 : decode cX10_keyAt 34 = .ok (.getfield 178, 3) := by decide +kernel
theorem dX10_keyAt_37 : decode cX10_keyAt 37 = .ok (.ireturn, 1) := by decide +kernel
theorem dX10_rule_0 : decode cX10_rule 0 = .ok (.aload_n 0, 1) := by decide +kernel
theorem dX10_rule_1 : decode cX10_rule 1 = .ok (.getfield 10, 3) := by decide +kernel
theorem dX10_rule_4 : decode cX10_rule 4 = .ok (.getfield 58, 3) := by decide +kernel
theorem dX10_rule_7 : decode cX10_rule 7 = .ok (.getfield 61, 3) := by decide +kernel
theorem dX10_rule_10 : decode cX10_rule 10 = .ok (.iload_n 1, 1) := by decide +kernel
theorem dX10_rule_11 : decode cX10_rule 11 = .ok (.invokevirtual 85, 3) := by decide +kernel
theorem dX10_rule_14 : decode cX10_rule 14 = .ok (.astore_n 3, 1) := by decide +kernel
theorem dX10_rule_15 : decode cX10_rule 15 = .ok (.aload_n 3, 1) := by decide +kernel
theorem dX10_rule_16 : decode cX10_rule 16 = .ok (.ifnonnull 9, 3) := by decide +kernel
theorem dX10_rule_19 : decode cX10_rule 19 = .ok (.sipush (-1001), 3) := by decide +kernel
theorem dX10_rule_22 : decode cX10_rule 22 = .ok (.goto 8, 3) := by decide +kernel
theorem dX10_rule_25 : decode cX10_rule 25 = .ok (.aload_n 3, 1) := by decide +kernel
theorem dX10_rule_26 : decode cX10_rule 26 = .ok (.iload_n 2, 1) := by decide +kernel
theorem dX10_rule_27 : decode cX10_rule 27 = .ok (.invokevirtual 181, 3) := by decide +kernel
theorem dX10_rule_30 : decode cX10_rule 30 = .ok (.ireturn, 1) := by decide +kernel
theorem dX10_order_0 : decode cX10_order 0 = .ok (.iload_n 1, 1) := by decide +kernel
theorem dX10_order_1 : decode cX10_order 1 = .ok (.invokestatic 40, 3) := by decide +kernel
theorem dX10_order_4 : decode cX10_order 4 = .ok (.ifCond .eq 14, 3) := by decide +kernel
theorem dX10_order_7 : decode cX10_order 7 = .ok (.iload_n 2, 1) := by decide +kernel
theorem dX10_order_8 : decode cX10_order 8 = .ok (.invokestatic 44, 3) := by decide +kernel
theorem dX10_order_11 : decode cX10_order 11 = .ok (.ifCond .eq 7, 3) := by decide +kernel
theorem dX10_order_14 : decode cX10_order 14 = .ok (.iload_n 3, 1) := by decide +kernel
theorem dX10_order_15 : decode cX10_order 15 = .ok (.ifCond .ge 7, 3) := by decide +kernel
theorem dX10_order_18 : decode cX10_order 18 = .ok (.sipush (-1002), 3) := by decide +kernel
theorem dX10_order_21 : decode cX10_order 21 = .ok (.ireturn, 1) := by decide +kernel
theorem dX10_order_22 : decode cX10_order 22 = .ok (.aload_n 0, 1) := by decide +kernel
theorem dX10_order_23 : decode cX10_order 23 = .ok (.getfield 10, 3) := by decide +kernel
theorem dX10_order_26 : decode cX10_order 26 = .ok (.getfield 58, 3) := by decide +kernel
theorem dX10_order_29 : decode cX10_order 29 = .ok (.getfield 61, 3) := by decide +kernel
theorem dX10_order_32 : decode cX10_order 32 = .ok (.iload_n 1, 1) := by decide +kernel
theorem dX10_order_33 : decode cX10_order 33 = .ok (.iload_n 2, 1) := by decide +kernel
theorem dX10_order_34 : decode cX10_order 34 = .ok (.iload_n 3, 1) := by decide +kernel
theorem dX10_order_35 : decode cX10_order 35 = .ok (.invokevirtual 184, 3) := by decide +kernel
theorem dX10_order_38 : decode cX10_order 38 = .ok (.ireturn, 1) := by decide +kernel
theorem dX10_firing_0 : decode cX10_firing 0 = .ok (.iload_n 1, 1) := by decide +kernel
theorem dX10_firing_1 : decode cX10_firing 1 = .ok (.ifCond .lt 12, 3) := by decide +kernel
theorem dX10_firing_4 : decode cX10_firing 4 = .ok (.iload_n 2, 1) := by decide +kernel
theorem dX10_firing_5 : decode cX10_firing 5 = .ok (.iconst 0, 1) := by decide +kernel
theorem dX10_firing_6 : decode cX10_firing 6 = .ok (.iconst 2, 1) := by decide +kernel
theorem dX10_firing_7 : decode cX10_firing 7 = .ok (.invokestatic 47, 3) := by decide +kernel
theorem dX10_firing_10 : decode cX10_firing 10 = .ok (.ifCond .ne 7, 3) := by decide +kernel
theorem dX10_firing_13 : decode cX10_firing 13 = .ok (.sipush (-1002), 3) := by decide +kernel
theorem dX10_firing_16 : decode cX10_firing 16 = .ok (.ireturn, 1) := by decide +kernel
theorem dX10_firing_17 : decode cX10_firing 17 = .ok (.aload_n 0, 1) := by decide +kernel
theorem dX10_firing_18 : decode cX10_firing 18 = .ok (.getfield 10, 3) := by decide +kernel
theorem dX10_firing_21 : decode cX10_firing 21 = .ok (.getfield 58, 3) := by decide +kernel
theorem dX10_firing_24 : decode cX10_firing 24 = .ok (.getfield 187, 3) := by decide +kernel
theorem dX10_firing_27 : decode cX10_firing 27 = .ok (.iload_n 1, 1) := by decide +kernel
theorem dX10_firing_28 : decode cX10_firing 28 = .ok (.iload_n 2, 1) := by decide +kernel
theorem dX10_firing_29 : decode cX10_firing 29 = .ok (.invokevirtual 191, 3) := by decide +kernel
theorem dX10_firing_32 : decode cX10_firing 32 = .ok (.ireturn, 1) := by decide +kernel
theorem dX10_total_0 : decode cX10_total 0 = .ok (.iload_n 1, 1) := by decide +kernel
theorem dX10_total_1 : decode cX10_total 1 = .ok (.lookupswitch 43 #[(10, 27), (11, 35)], 27) := by decide +kernel
theorem dX10_total_28 : decode cX10_total 28 = .ok (.aload_n 0, 1) := by decide +kernel
theorem dX10_total_29 : decode cX10_total 29 = .ok (.getfield 29, 3) := by decide +kernel
theorem dX10_total_32 : decode cX10_total 32 = .ok (.getfield 155, 3) := by decide +kernel
theorem dX10_total_35 : decode cX10_total 35 = .ok (.ireturn, 1) := by decide +kernel
theorem dX10_total_36 : decode cX10_total 36 = .ok (.aload_n 0, 1) := by decide +kernel
theorem dX10_total_37 : decode cX10_total 37 = .ok (.getfield 36, 3) := by decide +kernel
theorem dX10_total_40 : decode cX10_total 40 = .ok (.getfield 136, 3) := by decide +kernel
theorem dX10_total_43 : decode cX10_total 43 = .ok (.ireturn, 1) := by decide +kernel
theorem dX10_total_44 : decode cX10_total 44 = .ok (.aload_n 0, 1) := by decide +kernel
theorem dX10_total_45 : decode cX10_total 45 = .ok (.getfield 10, 3) := by decide +kernel
theorem dX10_total_48 : decode cX10_total 48 = .ok (.getfield 58, 3) := by decide +kernel
theorem dX10_total_51 : decode cX10_total 51 = .ok (.iload_n 1, 1) := by decide +kernel
theorem dX10_total_52 : decode cX10_total 52 = .ok (.invokevirtual 196, 3) := by decide +kernel
theorem dX10_total_55 : decode cX10_total 55 = .ok (.ireturn, 1) := by decide +kernel
theorem dX10_ifInserted_0 : decode cX10_ifInserted 0 = .ok (.aload_n 0, 1) := by decide +kernel
theorem dX10_ifInserted_1 : decode cX10_ifInserted 1 = .ok (.getfield 10, 3) := by decide +kernel
theorem dX10_ifInserted_4 : decode cX10_ifInserted 4 = .ok (.iload_n 1, 1) := by decide +kernel
theorem dX10_ifInserted_5 : decode cX10_ifInserted 5 = .ok (.iload_n 2, 1) := by decide +kernel
theorem dX10_ifInserted_6 : decode cX10_ifInserted 6 = .ok (.iload_n 3, 1) := by decide +kernel
theorem dX10_ifInserted_7 : decode cX10_ifInserted 7 = .ok (.iload 4, 2) := by decide +kernel
theorem dX10_ifInserted_9 : decode cX10_ifInserted 9 = .ok (.invokevirtual 197, 3) := by decide +kernel
theorem dX10_ifInserted_12 : decode cX10_ifInserted 12 = .ok (.istore 6, 2) := by decide +kernel
theorem dX10_ifInserted_14 : decode cX10_ifInserted 14 = .ok (.iload 6, 2) := by decide +kernel
theorem dX10_ifInserted_16 : decode cX10_ifInserted 16 = .ok (.ifCond .eq 6, 3) := by decide +kernel
theorem dX10_ifInserted_19 : decode cX10_ifInserted 19 = .ok (.iload 6, 2) := by decide +kernel
theorem dX10_ifInserted_21 : decode cX10_ifInserted 21 = .ok (.ireturn, 1) := by decide +kernel
theorem dX10_ifInserted_22 : decode cX10_ifInserted 22 = .ok (.iload 5, 2) := by decide +kernel
theorem dX10_ifInserted_24 : decode cX10_ifInserted 24 = .ok (.invokestatic 200, 3) := by decide +kernel
theorem dX10_ifInserted_27 : decode cX10_ifInserted 27 = .ok (.ifCond .ne 7, 3) := by decide +kernel
theorem dX10_ifInserted_30 : decode cX10_ifInserted 30 = .ok (.sipush (-1002), 3) := by decide +kernel
theorem dX10_ifInserted_33 : decode cX10_ifInserted 33 = .ok (.ireturn, 1) := by decide +kernel
theorem dX10_ifInserted_34 : decode cX10_ifInserted 34 = .ok (.aload_n 0, 1) := by decide +kernel
theorem dX10_ifInserted_35 : decode cX10_ifInserted 35 = .ok (.getfield 19, 3) := by decide +kernel
theorem dX10_ifInserted_38 : decode cX10_ifInserted 38 = .ok (.aload_n 0, 1) := by decide +kernel
theorem dX10_ifInserted_39 : decode cX10_ifInserted 39 = .ok (.getfield 10, 3) := by decide +kernel
theorem dX10_ifInserted_42 : decode cX10_ifInserted 42 = .ok (.getfield 58, 3) := by decide +kernel
theorem dX10_ifInserted_45 : decode cX10_ifInserted 45 = .ok (.invokevirtual 114, 3) := by decide +kernel
theorem dX10_ifInserted_48 : decode cX10_ifInserted 48 = .ok (.aload_n 0, 1) := by decide +kernel
theorem dX10_ifInserted_49 : decode cX10_ifInserted 49 = .ok (.getfield 10, 3) := by decide +kernel
theorem dX10_ifInserted_52 : decode cX10_ifInserted 52 = .ok (.iload_n 1, 1) := by decide +kernel
theorem dX10_ifInserted_53 : decode cX10_ifInserted 53 = .ok (.iload_n 2, 1) := by decide +kernel
theorem dX10_ifInserted_54 : decode cX10_ifInserted 54 = .ok (.iload_n 3, 1) := by decide +kernel
theorem dX10_ifInserted_55 : decode cX10_ifInserted 55 = .ok (.iload 4, 2) := by decide +kernel
theorem dX10_ifInserted_57 : decode cX10_ifInserted 57 = .ok (.invokevirtual 117, 3) := by decide +kernel
theorem dX10_ifInserted_60 : decode cX10_ifInserted 60 = .ok (.pop, 1) := by decide +kernel
theorem dX10_ifInserted_61 : decode cX10_ifInserted 61 = .ok (.aload_n 0, 1) := by decide +kernel
theorem dX10_ifInserted_62 : decode cX10_ifInserted 62 = .ok (.getfield 10, 3) := by decide +kernel
theorem dX10_ifInserted_65 : decode cX10_ifInserted 65 = .ok (.getfield 58, 3) := by decide +kernel
theorem dX10_ifInserted_68 : decode cX10_ifInserted 68 = .ok (.aload_n 0, 1) := by decide +kernel
theorem dX10_ifInserted_69 : decode cX10_ifInserted 69 = .ok (.getfield 19, 3) := by decide +kernel
theorem dX10_ifInserted_72 : decode cX10_ifInserted 72 = .ok (.invokevirtual 114, 3) := by decide +kernel
theorem dX10_ifInserted_75 : decode cX10_ifInserted 75 = .ok (.aload_n 0, 1) := by decide +kernel
theorem dX10_ifInserted_76 : decode cX10_ifInserted 76 = .ok (.getfield 10, 3) := by decide +kernel
theorem dX10_ifInserted_79 : decode cX10_ifInserted 79 = .ok (.iload 5, 2) := by decide +kernel
theorem dX10_ifInserted_81 : decode cX10_ifInserted 81 = .ok (.invokevirtual 203, 3) := by decide +kernel
theorem dX10_ifInserted_84 : decode cX10_ifInserted 84 = .ok (.ireturn, 1) := by decide +kernel
theorem dX10_ifUpdated_0 : decode cX10_ifUpdated 0 = .ok (.aload_n 0, 1) := by decide +kernel
theorem dX10_ifUpdated_1 : decode cX10_ifUpdated 1 = .ok (.getfield 10, 3) := by decide +kernel
theorem dX10_ifUpdated_4 : decode cX10_ifUpdated 4 = .ok (.iload_n 1, 1) := by decide +kernel
theorem dX10_ifUpdated_5 : decode cX10_ifUpdated 5 = .ok (.iload_n 2, 1) := by decide +kernel
theorem dX10_ifUpdated_6 : decode cX10_ifUpdated 6 = .ok (.iload_n 3, 1) := by decide +kernel
theorem dX10_ifUpdated_7 : decode cX10_ifUpdated 7 = .ok (.invokevirtual 206, 3) := by decide +kernel
theorem dX10_ifUpdated_10 : decode cX10_ifUpdated 10 = .ok (.istore 5, 2) := by decide +kernel
theorem dX10_ifUpdated_12 : decode cX10_ifUpdated 12 = .ok (.iload 5, 2) := by decide +kernel
theorem dX10_ifUpdated_14 : decode cX10_ifUpdated 14 = .ok (.ifCond .eq 14, 3) := by decide +kernel
theorem dX10_ifUpdated_17 : decode cX10_ifUpdated 17 = .ok (.iload 5, 2) := by decide +kernel
theorem dX10_ifUpdated_19 : decode cX10_ifUpdated 19 = .ok (.sipush (-1006), 3) := by decide +kernel
theorem dX10_ifUpdated_22 : decode cX10_ifUpdated 22 = .ok (.if_icmp .eq 6, 3) := by decide +kernel
theorem dX10_ifUpdated_25 : decode cX10_ifUpdated 25 = .ok (.iload 5, 2) := by decide +kernel
theorem dX10_ifUpdated_27 : decode cX10_ifUpdated 27 = .ok (.ireturn, 1) := by decide +kernel
theorem dX10_ifUpdated_28 : decode cX10_ifUpdated 28 = .ok (.iload 4, 2) := by decide +kernel
theorem dX10_ifUpdated_30 : decode cX10_ifUpdated 30 = .ok (.invokestatic 200, 3) := by decide +kernel
theorem dX10_ifUpdated_33 : decode cX10_ifUpdated 33 = .ok (.ifCond .ne 7, 3) := by decide +kernel
theorem dX10_ifUpdated_36 : decode cX10_ifUpdated 36 = .ok (.sipush (-1002), 3) := by decide +kernel
theorem dX10_ifUpdated_39 : decode cX10_ifUpdated 39 = .ok (.ireturn, 1) := by decide +kernel
theorem dX10_ifUpdated_40 : decode cX10_ifUpdated 40 = .ok (.iload 5, 2) := by decide +kernel
theorem dX10_ifUpdated_42 : decode cX10_ifUpdated 42 = .ok (.sipush (-1006), 3) := by decide +kernel
theorem dX10_ifUpdated_45 : decode cX10_ifUpdated 45 = .ok (.if_icmp .ne 7, 3) := by decide +kernel
theorem dX10_ifUpdated_48 : decode cX10_ifUpdated 48 = .ok (.sipush (-1006), 3) := by decide +kernel
theorem dX10_ifUpdated_51 : decode cX10_ifUpdated 51 = .ok (.ireturn, 1) := by decide +kernel
theorem dX10_ifUpdated_52 : decode cX10_ifUpdated 52 = .ok (.aload_n 0, 1) := by decide +kernel
theorem dX10_ifUpdated_53 : decode cX10_ifUpdated 53 = .ok (.getfield 19, 3) := by decide +kernel
theorem dX10_ifUpdated_56 : decode cX10_ifUpdated 56 = .ok (.aload_n 0, 1) := by decide +kernel
theorem dX10_ifUpdated_57 : decode cX10_ifUpdated 57 = .ok (.getfield 10, 3) := by decide +kernel
theorem dX10_ifUpdated_60 : decode cX10_ifUpdated 60 = .ok (.getfield 58, 3) := by decide +kernel
theorem dX10_ifUpdated_63 : decode cX10_ifUpdated 63 = .ok (.invokevirtual 114, 3) := by decide +kernel
theorem dX10_ifUpdated_66 : decode cX10_ifUpdated 66 = .ok (.aload_n 0, 1) := by decide +kernel
theorem dX10_ifUpdated_67 : decode cX10_ifUpdated 67 = .ok (.getfield 10, 3) := by decide +kernel
theorem dX10_ifUpdated_70 : decode cX10_ifUpdated 70 = .ok (.iload_n 1, 1) := by decide +kernel
theorem dX10_ifUpdated_71 : decode cX10_ifUpdated 71 = .ok (.iload_n 2, 1) := by decide +kernel
theorem dX10_ifUpdated_72 : decode cX10_ifUpdated 72 = .ok (.iload_n 3, 1) := by decide +kernel
theorem dX10_ifUpdated_73 : decode cX10_ifUpdated 73 = .ok (.invokevirtual 125, 3) := by decide +kernel
theorem dX10_ifUpdated_76 : decode cX10_ifUpdated 76 = .ok (.pop, 1) := by decide +kernel
theorem dX10_ifUpdated_77 : decode cX10_ifUpdated 77 = .ok (.aload_n 0, 1) := by decide +kernel
theorem dX10_ifUpdated_78 : decode cX10_ifUpdated 78 = .ok (.getfield 10, 3) := by decide +kernel
theorem dX10_ifUpdated_81 : decode cX10_ifUpdated 81 = .ok (.getfield 58, 3) := by decide +kernel
theorem dX10_ifUpdated_84 : decode cX10_ifUpdated 84 = .ok (.aload_n 0, 1) := by decide +kernel
theorem dX10_ifUpdated_85 : decode cX10_ifUpdated 85 = .ok (.getfield 19, 3) := by decide +kernel
theorem dX10_ifUpdated_88 : decode cX10_ifUpdated 88 = .ok (.invokevirtual 114, 3) := by decide +kernel
theorem dX10_ifUpdated_91 : decode cX10_ifUpdated 91 = .ok (.aload_n 0, 1) := by decide +kernel
theorem dX10_ifUpdated_92 : decode cX10_ifUpdated 92 = .ok (.getfield 10, 3) := by decide +kernel
theorem dX10_ifUpdated_95 : decode cX10_ifUpdated 95 = .ok (.iload 4, 2) := by decide +kernel
theorem dX10_ifUpdated_97 : decode cX10_ifUpdated 97 = .ok (.invokevirtual 203, 3) := by decide +kernel
theorem dX10_ifUpdated_100 : decode cX10_ifUpdated 100 = .ok (.ireturn, 1) := by decide +kernel
theorem dX10_ifDeleted_0 : decode cX10_ifDeleted 0 = .ok (.aload_n 0, 1) := by decide +kernel
theorem dX10_ifDeleted_1 : decode cX10_ifDeleted 1 = .ok (.getfield 10, 3) := by decide +kernel
theorem dX10_ifDeleted_4 : decode cX10_ifDeleted 4 = .ok (.iload_n 1, 1) := by decide +kernel
theorem dX10_ifDeleted_5 : decode cX10_ifDeleted 5 = .ok (.invokevirtual 209, 3) := by decide +kernel
theorem dX10_ifDeleted_8 : decode cX10_ifDeleted 8 = .ok (.istore_n 3, 1) := by decide +kernel
theorem dX10_ifDeleted_9 : decode cX10_ifDeleted 9 = .ok (.iload_n 3, 1) := by decide +kernel
theorem dX10_ifDeleted_10 : decode cX10_ifDeleted 10 = .ok (.ifCond .eq 5, 3) := by decide +kernel
theorem dX10_ifDeleted_13 : decode cX10_ifDeleted 13 = .ok (.iload_n 3, 1) := by decide +kernel
theorem dX10_ifDeleted_14 : decode cX10_ifDeleted 14 = .ok (.ireturn, 1) := by decide +kernel
theorem dX10_ifDeleted_15 : decode cX10_ifDeleted 15 = .ok (.iload_n 2, 1) := by decide +kernel
theorem dX10_ifDeleted_16 : decode cX10_ifDeleted 16 = .ok (.invokestatic 200, 3) := by decide +kernel
theorem dX10_ifDeleted_19 : decode cX10_ifDeleted 19 = .ok (.ifCond .ne 7, 3) := by decide +kernel
theorem dX10_ifDeleted_22 : decode cX10_ifDeleted 22 = .ok (.sipush (-1002), 3) := by decide +kernel
theorem dX10_ifDeleted_25 : decode cX10_ifDeleted 25 = .ok (.ireturn, 1) := by decide +kernel
theorem dX10_ifDeleted_26 : decode cX10_ifDeleted 26 = .ok (.aload_n 0, 1) := by decide +kernel
theorem dX10_ifDeleted_27 : decode cX10_ifDeleted 27 = .ok (.getfield 19, 3) := by decide +kernel
theorem dX10_ifDeleted_30 : decode cX10_ifDeleted 30 = .ok (.aload_n 0, 1) := by decide +kernel
theorem dX10_ifDeleted_31 : decode cX10_ifDeleted 31 = .ok (.getfield 10, 3) := by decide +kernel
theorem dX10_ifDeleted_34 : decode cX10_ifDeleted 34 = .ok (.getfield 58, 3) := by decide +kernel
theorem dX10_ifDeleted_37 : decode cX10_ifDeleted 37 = .ok (.invokevirtual 114, 3) := by decide +kernel
theorem dX10_ifDeleted_40 : decode cX10_ifDeleted 40 = .ok (.aload_n 0, 1) := by decide +kernel
theorem dX10_ifDeleted_41 : decode cX10_ifDeleted 41 = .ok (.getfield 10, 3) := by decide +kernel
theorem dX10_ifDeleted_44 : decode cX10_ifDeleted 44 = .ok (.iload_n 1, 1) := by decide +kernel
theorem dX10_ifDeleted_45 : decode cX10_ifDeleted 45 = .ok (.invokevirtual 129, 3) := by decide +kernel
theorem dX10_ifDeleted_48 : decode cX10_ifDeleted 48 = .ok (.pop, 1) := by decide +kernel
theorem dX10_ifDeleted_49 : decode cX10_ifDeleted 49 = .ok (.aload_n 0, 1) := by decide +kernel
theorem dX10_ifDeleted_50 : decode cX10_ifDeleted 50 = .ok (.getfield 10, 3) := by decide +kernel
theorem dX10_ifDeleted_53 : decode cX10_ifDeleted 53 = .ok (.getfield 58, 3) := by decide +kernel
theorem dX10_ifDeleted_56 : decode cX10_ifDeleted 56 = .ok (.aload_n 0, 1) := by decide +kernel
theorem dX10_ifDeleted_57 : decode cX10_ifDeleted 57 = .ok (.getfield 19, 3) := by decide +kernel
theorem dX10_ifDeleted_60 : decode cX10_ifDeleted 60 = .ok (.invokevirtual 114, 3) := by decide +kernel
theorem dX10_ifDeleted_63 : decode cX10_ifDeleted 63 = .ok (.aload_n 0, 1) := by decide +kernel
theorem dX10_ifDeleted_64 : decode cX10_ifDeleted 64 = .ok (.getfield 10, 3) := by decide +kernel
theorem dX10_ifDeleted_67 : decode cX10_ifDeleted 67 = .ok (.iload_n 2, 1) := by decide +kernel
theorem dX10_ifDeleted_68 : decode cX10_ifDeleted 68 = .ok (.invokevirtual 203, 3) := by decide +kernel
theorem dX10_ifDeleted_71 : decode cX10_ifDeleted 71 = .ok (.ireturn, 1) := by decide +kernel
theorem dX10_depthFor_0 : decode cX10_depthFor 0 = .ok (.aload_n 0, 1) := by decide +kernel
theorem dX10_depthFor_1 : decode cX10_depthFor 1 = .ok (.getfield 10, 3) := by decide +kernel
theorem dX10_depthFor_4 : decode cX10_depthFor 4 = .ok (.iload_n 1, 1) := by decide +kernel
theorem dX10_depthFor_5 : decode cX10_depthFor 5 = .ok (.iload_n 2, 1) := by decide +kernel
theorem dX10_depthFor_6 : decode cX10_depthFor 6 = .ok (.iload_n 3, 1) := by decide +kernel
theorem dX10_depthFor_7 : decode cX10_depthFor 7 = .ok (.invokevirtual 206, 3) := by decide +kernel
theorem dX10_depthFor_10 : decode cX10_depthFor 10 = .ok (.istore 4, 2) := by decide +kernel
theorem dX10_depthFor_12 : decode cX10_depthFor 12 = .ok (.iload 4, 2) := by decide +kernel
theorem dX10_depthFor_14 : decode cX10_depthFor 14 = .ok (.ifCond .eq 6, 3) := by decide +kernel
theorem dX10_depthFor_17 : decode cX10_depthFor 17 = .ok (.iload 4, 2) := by decide +kernel
theorem dX10_depthFor_19 : decode cX10_depthFor 19 = .ok (.ireturn, 1) := by decide +kernel
theorem dX10_depthFor_20 : decode cX10_depthFor 20 = .ok (.aload_n 0, 1) := by decide +kernel
theorem dX10_depthFor_21 : decode cX10_depthFor 21 = .ok (.getfield 19, 3) := by decide +kernel
theorem dX10_depthFor_24 : decode cX10_depthFor 24 = .ok (.aload_n 0, 1) := by decide +kernel
theorem dX10_depthFor_25 : decode cX10_depthFor 25 = .ok (.getfield 10, 3) := by decide +kernel
theorem dX10_depthFor_28 : decode cX10_depthFor 28 = .ok (.getfield 58, 3) := by decide +kernel
theorem dX10_depthFor_31 : decode cX10_depthFor 31 = .ok (.invokevirtual 114, 3) := by decide +kernel
theorem dX10_depthFor_34 : decode cX10_depthFor 34 = .ok (.iconst 1, 1) := by decide +kernel
theorem dX10_depthFor_35 : decode cX10_depthFor 35 = .ok (.istore 5, 2) := by decide +kernel
theorem dX10_depthFor_37 : decode cX10_depthFor 37 = .ok (.iload 5, 2) := by decide +kernel
theorem dX10_depthFor_39 : decode cX10_depthFor 39 = .ok (.bipush 8, 2) := by decide +kernel
theorem dX10_depthFor_41 : decode cX10_depthFor 41 = .ok (.if_icmp .gt 58, 3) := by decide +kernel
theorem dX10_depthFor_44 : decode cX10_depthFor 44 = .ok (.aload_n 0, 1) := by decide +kernel
theorem dX10_depthFor_45 : decode cX10_depthFor 45 = .ok (.getfield 10, 3) := by decide +kernel
theorem dX10_depthFor_48 : decode cX10_depthFor 48 = .ok (.getfield 58, 3) := by decide +kernel
theorem dX10_depthFor_51 : decode cX10_depthFor 51 = .ok (.iload 5, 2) := by decide +kernel
theorem dX10_depthFor_53 : decode cX10_depthFor 53 = .ok (.putfield 108, 3) := by decide +kernel
theorem dX10_depthFor_56 : decode cX10_depthFor 56 = .ok (.aload_n 0, 1) := by decide +kernel
theorem dX10_depthFor_57 : decode cX10_depthFor 57 = .ok (.getfield 10, 3) := by decide +kernel
theorem dX10_depthFor_60 : decode cX10_depthFor 60 = .ok (.iload_n 1, 1) := by decide +kernel
theorem dX10_depthFor_61 : decode cX10_depthFor 61 = .ok (.iload_n 2, 1) := by decide +kernel
theorem dX10_depthFor_62 : decode cX10_depthFor 62 = .ok (.iload_n 3, 1) := by decide +kernel
theorem dX10_depthFor_63 : decode cX10_depthFor 63 = .ok (.invokevirtual 125, 3) := by decide +kernel
theorem dX10_depthFor_66 : decode cX10_depthFor 66 = .ok (.istore 6, 2) := by decide +kernel
theorem dX10_depthFor_68 : decode cX10_depthFor 68 = .ok (.aload_n 0, 1) := by decide +kernel
theorem dX10_depthFor_69 : decode cX10_depthFor 69 = .ok (.getfield 10, 3) := by decide +kernel
theorem dX10_depthFor_72 : decode cX10_depthFor 72 = .ok (.getfield 58, 3) := by decide +kernel
theorem dX10_depthFor_75 : decode cX10_depthFor 75 = .ok (.aload_n 0, 1) := by decide +kernel
theorem dX10_depthFor_76 : decode cX10_depthFor 76 = .ok (.getfield 19, 3) := by decide +kernel
theorem dX10_depthFor_79 : decode cX10_depthFor 79 = .ok (.invokevirtual 114, 3) := by decide +kernel
theorem dX10_depthFor_82 : decode cX10_depthFor 82 = .ok (.iload 6, 2) := by decide +kernel
theorem dX10_depthFor_84 : decode cX10_depthFor 84 = .ok (.sipush (-1005), 3) := by decide +kernel
theorem dX10_depthFor_87 : decode cX10_depthFor 87 = .ok (.if_icmp .eq 6, 3) := by decide +kernel
theorem dX10_depthFor_90 : decode cX10_depthFor 90 = .ok (.iload 5, 2) := by decide +kernel
theorem dX10_depthFor_92 : decode cX10_depthFor 92 = .ok (.ireturn, 1) := by decide +kernel
theorem dX10_depthFor_93 : decode cX10_depthFor 93 = .ok (.iinc 5 1, 3) := by decide +kernel
theorem dX10_depthFor_96 : decode cX10_depthFor 96 = .ok (.goto (-59), 3) := by decide +kernel
theorem dX10_depthFor_99 : decode cX10_depthFor 99 = .ok (.sipush (-1006), 3) := by decide +kernel
theorem dX10_depthFor_102 : decode cX10_depthFor 102 = .ok (.ireturn, 1) := by decide +kernel
theorem dX10_settle_0 : decode cX10_settle 0 = .ok (.iload_n 1, 1) := by decide +kernel
theorem dX10_settle_1 : decode cX10_settle 1 = .ok (.ifCond .ge 20, 3) := by decide +kernel
theorem dX10_settle_4 : decode cX10_settle 4 = .ok (.aload_n 0, 1) := by decide +kernel
theorem dX10_settle_5 : decode cX10_settle 5 = .ok (.getfield 10, 3) := by decide +kernel
theorem dX10_settle_8 : decode cX10_settle 8 = .ok (.getfield 58, 3) := by decide +kernel
theorem dX10_settle_11 : decode cX10_settle 11 = .ok (.aload_n 0, 1) := by decide +kernel
theorem dX10_settle_12 : decode cX10_settle 12 = .ok (.getfield 19, 3) := by decide +kernel
theorem dX10_settle_15 : decode cX10_settle 15 = .ok (.invokevirtual 114, 3) := by decide +kernel
theorem dX10_settle_18 : decode cX10_settle 18 = .ok (.goto 14, 3) := by decide +kernel
theorem dX10_settle_21 : decode cX10_settle 21 = .ok (.aload_n 0, 1) := by decide +kernel
theorem dX10_settle_22 : decode cX10_settle 22 = .ok (.getfield 29, 3) := by decide +kernel
theorem dX10_settle_25 : decode cX10_settle 25 = .ok (.aload_n 0, 1) := by decide +kernel
theorem dX10_settle_26 : decode cX10_settle 26 = .ok (.getfield 19, 3) := by decide +kernel
theorem dX10_settle_29 : decode cX10_settle 29 = .ok (.invokevirtual 71, 3) := by decide +kernel
theorem dX10_settle_32 : decode cX10_settle 32 = .ok (.iload_n 1, 1) := by decide +kernel
theorem dX10_settle_33 : decode cX10_settle 33 = .ok (.ireturn, 1) := by decide +kernel
theorem dX10_performStatement_0 : decode cX10_performStatement 0 = .ok (.aload_n 0, 1) := by decide +kernel
theorem dX10_performStatement_1 : decode cX10_performStatement 1 = .ok (.getfield 36, 3) := by decide +kernel
theorem dX10_performStatement_4 : decode cX10_performStatement 4 = .ok (.getfield 212, 3) := by decide +kernel
theorem dX10_performStatement_7 : decode cX10_performStatement 7 = .ok (.lookupswitch 90 #[(0, 25), (1, 61)], 25) := by decide +kernel
theorem dX10_performStatement_32 : decode cX10_performStatement 32 = .ok (.aload_n 0, 1) := by decide +kernel
theorem dX10_performStatement_33 : decode cX10_performStatement 33 = .ok (.getfield 10, 3) := by decide +kernel
theorem dX10_performStatement_36 : decode cX10_performStatement 36 = .ok (.aload_n 0, 1) := by decide +kernel
theorem dX10_performStatement_37 : decode cX10_performStatement 37 = .ok (.getfield 36, 3) := by decide +kernel
theorem dX10_performStatement_40 : decode cX10_performStatement 40 = .ok (.getfield 215, 3) := by decide +kernel
theorem dX10_performStatement_43 : decode cX10_performStatement 43 = .ok (.aload_n 0, 1) := by decide +kernel
theorem dX10_performStatement_44 : decode cX10_performStatement 44 = .ok (.getfield 36, 3) := by decide +kernel
theorem dX10_performStatement_47 : decode cX10_performStatement 47 = .ok (.getfield 216, 3) := by decide +kernel
theorem dX10_performStatement_50 : decode cX10_performStatement 50 = .ok (.aload_n 0, 1) := by decide +kernel
theorem dX10_performStatement_51 : decode cX10_performStatement 51 = .ok (.getfield 36, 3) := by decide +kernel
theorem dX10_performStatement_54 : decode cX10_performStatement 54 = .ok (.getfield 219, 3) := by decide +kernel
theorem dX10_performStatement_57 : decode cX10_performStatement 57 = .ok (.aload_n 0, 1) := by decide +kernel
theorem dX10_performStatement_58 : decode cX10_performStatement 58 = .ok (.getfield 36, 3) := by decide +kernel
theorem dX10_performStatement_61 : decode cX10_performStatement 61 = .ok (.getfield 222, 3) := by decide +kernel
theorem dX10_performStatement_64 : decode cX10_performStatement 64 = .ok (.invokevirtual 117, 3) := by decide +kernel
theorem dX10_performStatement_67 : decode cX10_performStatement 67 = .ok (.ireturn, 1) := by decide +kernel
theorem dX10_performStatement_68 : decode cX10_performStatement 68 = .ok (.aload_n 0, 1) := by decide +kernel
theorem dX10_performStatement_69 : decode cX10_performStatement 69 = .ok (.getfield 10, 3) := by decide +kernel
theorem dX10_performStatement_72 : decode cX10_performStatement 72 = .ok (.aload_n 0, 1) := by decide +kernel
theorem dX10_performStatement_73 : decode cX10_performStatement 73 = .ok (.getfield 36, 3) := by decide +kernel
theorem dX10_performStatement_76 : decode cX10_performStatement 76 = .ok (.getfield 215, 3) := by decide +kernel
theorem dX10_performStatement_79 : decode cX10_performStatement 79 = .ok (.aload_n 0, 1) := by decide +kernel
theorem dX10_performStatement_80 : decode cX10_performStatement 80 = .ok (.getfield 36, 3) := by decide +kernel
theorem dX10_performStatement_83 : decode cX10_performStatement 83 = .ok (.getfield 225, 3) := by decide +kernel
theorem dX10_performStatement_86 : decode cX10_performStatement 86 = .ok (.aload_n 0, 1) := by decide +kernel
theorem dX10_performStatement_87 : decode cX10_performStatement 87 = .ok (.getfield 36, 3) := by decide +kernel
theorem dX10_performStatement_90 : decode cX10_performStatement 90 = .ok (.getfield 216, 3) := by decide +kernel
theorem dX10_performStatement_93 : decode cX10_performStatement 93 = .ok (.invokevirtual 125, 3) := by decide +kernel
theorem dX10_performStatement_96 : decode cX10_performStatement 96 = .ok (.ireturn, 1) := by decide +kernel
theorem dX10_performStatement_97 : decode cX10_performStatement 97 = .ok (.aload_n 0, 1) := by decide +kernel
theorem dX10_performStatement_98 : decode cX10_performStatement 98 = .ok (.getfield 10, 3) := by decide +kernel
theorem dX10_performStatement_101 : decode cX10_performStatement 101 = .ok (.aload_n 0, 1) := by decide +kernel
theorem dX10_performStatement_102 : decode cX10_performStatement 102 = .ok (.getfield 36, 3) := by decide +kernel
theorem dX10_performStatement_105 : decode cX10_performStatement 105 = .ok (.getfield 215, 3) := by decide +kernel
theorem dX10_performStatement_108 : decode cX10_performStatement 108 = .ok (.invokevirtual 129, 3) := by decide +kernel
theorem dX10_performStatement_111 : decode cX10_performStatement 111 = .ok (.ireturn, 1) := by decide +kernel
theorem dX10_isReport_0 : decode cX10_isReport 0 = .ok (.iload_n 0, 1) := by decide +kernel
theorem dX10_isReport_1 : decode cX10_isReport 1 = .ok (.iconst 0, 1) := by decide +kernel
theorem dX10_isReport_2 : decode cX10_isReport 2 = .ok (.iconst 4, 1) := by decide +kernel
theorem dX10_isReport_3 : decode cX10_isReport 3 = .ok (.invokestatic 47, 3) := by decide +kernel
theorem dX10_isReport_6 : decode cX10_isReport 6 = .ok (.ireturn, 1) := by decide +kernel
theorem dX10_isEvent_0 : decode cX10_isEvent 0 = .ok (.iload_n 0, 1) := by decide +kernel
theorem dX10_isEvent_1 : decode cX10_isEvent 1 = .ok (.iconst 0, 1) := by decide +kernel
theorem dX10_isEvent_2 : decode cX10_isEvent 2 = .ok (.iconst 2, 1) := by decide +kernel
theorem dX10_isEvent_3 : decode cX10_isEvent 3 = .ok (.invokestatic 47, 3) := by decide +kernel
theorem dX10_isEvent_6 : decode cX10_isEvent 6 = .ok (.ireturn, 1) := by decide +kernel
theorem dX10_isMoment_0 : decode cX10_isMoment 0 = .ok (.iload_n 0, 1) := by decide +kernel
theorem dX10_isMoment_1 : decode cX10_isMoment 1 = .ok (.iconst 0, 1) := by decide +kernel
theorem dX10_isMoment_2 : decode cX10_isMoment 2 = .ok (.iconst 1, 1) := by decide +kernel
theorem dX10_isMoment_3 : decode cX10_isMoment 3 = .ok (.invokestatic 47, 3) := by decide +kernel
theorem dX10_isMoment_6 : decode cX10_isMoment 6 = .ok (.ireturn, 1) := by decide +kernel
theorem dX10_isKindFor_0 : decode cX10_isKindFor 0 = .ok (.iload_n 0, 1) := by decide +kernel
theorem dX10_isKindFor_1 : decode cX10_isKindFor 1 = .ok (.ifCond .ne 10, 3) := by decide +kernel
theorem dX10_isKindFor_4 : decode cX10_isKindFor 4 = .ok (.iload_n 1, 1) := by decide +kernel
theorem dX10_isKindFor_5 : decode cX10_isKindFor 5 = .ok (.iconst 0, 1) := by decide +kernel
theorem dX10_isKindFor_6 : decode cX10_isKindFor 6 = .ok (.iconst 2, 1) := by decide +kernel
theorem dX10_isKindFor_7 : decode cX10_isKindFor 7 = .ok (.invokestatic 47, 3) := by decide +kernel
theorem dX10_isKindFor_10 : decode cX10_isKindFor 10 = .ok (.ireturn, 1) := by decide +kernel
theorem dX10_isKindFor_11 : decode cX10_isKindFor 11 = .ok (.iload_n 1, 1) := by decide +kernel
theorem dX10_isKindFor_12 : decode cX10_isKindFor 12 = .ok (.iconst 1, 1) := by decide +kernel
theorem dX10_isKindFor_13 : decode cX10_isKindFor 13 = .ok (.if_icmp .eq 12, 3) := by decide +kernel
theorem dX10_isKindFor_16 : decode cX10_isKindFor 16 = .ok (.iload_n 1, 1) := by decide +kernel
theorem dX10_isKindFor_17 : decode cX10_isKindFor 17 = .ok (.iconst 3, 1) := by decide +kernel
theorem dX10_isKindFor_18 : decode cX10_isKindFor 18 = .ok (.iconst 5, 1) := by decide +kernel
theorem dX10_isKindFor_19 : decode cX10_isKindFor 19 = .ok (.invokestatic 47, 3) := by decide +kernel
theorem dX10_isKindFor_22 : decode cX10_isKindFor 22 = .ok (.ifCond .eq 7, 3) := by decide +kernel
theorem dX10_isKindFor_25 : decode cX10_isKindFor 25 = .ok (.iconst 1, 1) := by decide +kernel
theorem dX10_isKindFor_26 : decode cX10_isKindFor 26 = .ok (.goto 4, 3) := by decide +kernel
theorem dX10_isKindFor_29 : decode cX10_isKindFor 29 = .ok (.iconst 0, 1) := by decide +kernel
theorem dX10_isKindFor_30 : decode cX10_isKindFor 30 = .ok (.ireturn, 1) := by decide +kernel
theorem dX10_isValue_0 : decode cX10_isValue 0 = .ok (.iload_n 0, 1) := by decide +kernel
theorem dX10_isValue_1 : decode cX10_isValue 1 = .ok (.sipush (-999), 3) := by decide +kernel
theorem dX10_isValue_4 : decode cX10_isValue 4 = .ok (.sipush 999, 3) := by decide +kernel
theorem dX10_isValue_7 : decode cX10_isValue 7 = .ok (.invokestatic 47, 3) := by decide +kernel
theorem dX10_isValue_10 : decode cX10_isValue 10 = .ok (.ireturn, 1) := by decide +kernel
theorem dX10_within_0 : decode cX10_within 0 = .ok (.iload_n 0, 1) := by decide +kernel
theorem dX10_within_1 : decode cX10_within 1 = .ok (.iload_n 1, 1) := by decide +kernel
theorem dX10_within_2 : decode cX10_within 2 = .ok (.if_icmp .lt 12, 3) := by decide +kernel
theorem dX10_within_5 : decode cX10_within 5 = .ok (.iload_n 0, 1) := by decide +kernel
theorem dX10_within_6 : decode cX10_within 6 = .ok (.iload_n 2, 1) := by decide +kernel
theorem dX10_within_7 : decode cX10_within 7 = .ok (.if_icmp .gt 7, 3) := by decide +kernel
theorem dX10_within_10 : decode cX10_within 10 = .ok (.iconst 1, 1) := by decide +kernel
theorem dX10_within_11 : decode cX10_within 11 = .ok (.goto 4, 3) := by decide +kernel
theorem dX10_within_14 : decode cX10_within 14 = .ok (.iconst 0, 1) := by decide +kernel
theorem dX10_within_15 : decode cX10_within 15 = .ok (.ireturn, 1) := by decide +kernel
theorem dX11_init_0 : decode cX11_init 0 = .ok (.aload_n 0, 1) := by decide +kernel
theorem dX11_init_1 : decode cX11_init 1 = .ok (.invokespecial 1, 3) := by decide +kernel
theorem dX11_init_4 : decode cX11_init 4 = .ok (.aload_n 0, 1) := by decide +kernel
theorem dX11_init_5 : decode cX11_init 5 = .ok (.sipush 826, 3) := by decide +kernel
theorem dX11_init_8 : decode cX11_init 8 = .ok (.newarray .int, 2) := by decide +kernel
theorem dX11_init_10 : decode cX11_init 10 = .ok (.putfield 7, 3) := by decide +kernel
theorem dX11_init_13 : decode cX11_init 13 = .ok (.aload_n 0, 1) := by decide +kernel
theorem dX11_init_14 : decode cX11_init 14 = .ok (.sipush 1652, 3) := by decide +kernel
theorem dX11_init_17 : decode cX11_init 17 = .ok (.newarray .int, 2) := by decide +kernel
theorem dX11_init_19 : decode cX11_init 19 = .ok (.putfield 13, 3) := by decide +kernel
theorem dX11_init_22 : decode cX11_init 22 = .ok (.aload_n 0, 1) := by decide +kernel
theorem dX11_init_23 : decode cX11_init 23 = .ok (.sipush 413, 3) := by decide +kernel
theorem dX11_init_26 : decode cX11_init 26 = .ok (.newarray .int, 2) := by decide +kernel
theorem dX11_init_28 : decode cX11_init 28 = .ok (.putfield 16, 3) := by decide +kernel
theorem dX11_init_31 : decode cX11_init 31 = .ok (.aload_n 0, 1) := by decide +kernel
theorem dX11_init_32 : decode cX11_init 32 = .ok (.bipush 80, 2) := by decide +kernel
theorem dX11_init_34 : decode cX11_init 34 = .ok (.newarray .int, 2) := by decide +kernel
theorem dX11_init_36 : decode cX11_init 36 = .ok (.putfield 19, 3) := by decide +kernel
theorem dX11_init_39 : decode cX11_init 39 = .ok (.aload_n 0, 1) := by decide +kernel
theorem dX11_init_40 : decode cX11_init 40 = .ok (.bipush 72, 2) := by decide +kernel
theorem dX11_init_42 : decode cX11_init 42 = .ok (.newarray .int, 2) := by decide +kernel
theorem dX11_init_44 : decode cX11_init 44 = .ok (.putfield 22, 3) := by decide +kernel
theorem dX11_init_47 : decode cX11_init 47 = .ok (.aload_n 0, 1) := by decide +kernel
theorem dX11_init_48 : decode cX11_init 48 = .ok (.getfield 7, 3) := by decide +kernel
theorem dX11_init_51 : decode cX11_init 51 = .ok (.sipush 226, 3) := by decide +kernel
theorem dX11_init_54 : decode cX11_init 54 = .ok (.iconst 4, 1) := by decide +kernel
theorem dX11_init_55 : decode cX11_init 55 = .ok (.iastore, 1) := by decide +kernel
theorem dX11_init_56 : decode cX11_init 56 = .ok (.return_, 1) := by decide +kernel
theorem dX11_in_0 : decode cX11_in 0 = .ok (.iload_n 0, 1) := by decide +kernel
theorem dX11_in_1 : decode cX11_in 1 = .ok (.iload_n 1, 1) := by decide +kernel
theorem dX11_in_2 : decode cX11_in 2 = .ok (.if_icmp .lt 12, 3) := by decide +kernel
theorem dX11_in_5 : decode cX11_in 5 = .ok (.iload_n 0, 1) := by decide +kernel
theorem dX11_in_6 : decode cX11_in 6 = .ok (.iload_n 2, 1) := by decide +kernel
theorem dX11_in_7 : decode cX11_in 7 = .ok (.if_icmp .gt 7, 3) := by decide +kernel
theorem dX11_in_10 : decode cX11_in 10 = .ok (.iconst 1, 1) := by decide +kernel
theorem dX11_in_11 : decode cX11_in 11 = .ok (.goto 4, 3) := by decide +kernel
theorem dX11_in_14 : decode cX11_in 14 = .ok (.iconst 0, 1) := by decide +kernel
theorem dX11_in_15 : decode cX11_in 15 = .ok (.ireturn, 1) := by decide +kernel
theorem dX11_isKey_0 : decode cX11_isKey 0 = .ok (.iload_n 0, 1) := by decide +kernel
theorem dX11_isKey_1 : decode cX11_isKey 1 = .ok (.iconst 0, 1) := by decide +kernel
theorem dX11_isKey_2 : decode cX11_isKey 2 = .ok (.bipush 99, 2) := by decide +kernel
theorem dX11_isKey_4 : decode cX11_isKey 4 = .ok (.invokestatic 25, 3) := by decide +kernel
theorem dX11_isKey_7 : decode cX11_isKey 7 = .ok (.ireturn, 1) := by decide +kernel
theorem dX11_isValue_0 : decode cX11_isValue 0 = .ok (.iload_n 0, 1) := by decide +kernel
theorem dX11_isValue_1 : decode cX11_isValue 1 = .ok (.sipush (-999), 3) := by decide +kernel
theorem dX11_isValue_4 : decode cX11_isValue 4 = .ok (.sipush 999, 3) := by decide +kernel
theorem dX11_isValue_7 : decode cX11_isValue 7 = .ok (.invokestatic 25, 3) := by decide +kernel
theorem dX11_isValue_10 : decode cX11_isValue 10 = .ok (.ireturn, 1) := by decide +kernel
theorem dX11_isRule_0 : decode cX11_isRule 0 = .ok (.iload_n 1, 1) := by decide +kernel
theorem dX11_isRule_1 : decode cX11_isRule 1 = .ok (.iconst 0, 1) := by decide +kernel
theorem dX11_isRule_2 : decode cX11_isRule 2 = .ok (.aload_n 0, 1) := by decide +kernel
theorem dX11_isRule_3 : decode cX11_isRule 3 = .ok (.getfield 7, 3) := by decide +kernel
theorem dX11_isRule_6 : decode cX11_isRule 6 = .ok (.bipush 81, 2) := by decide +kernel
theorem dX11_isRule_8 : decode cX11_isRule 8 = .ok (.iaload, 1) := by decide +kernel
theorem dX11_isRule_9 : decode cX11_isRule 9 = .ok (.iconst 1, 1) := by decide +kernel
theorem dX11_isRule_10 : decode cX11_isRule 10 = .ok (.isub, 1) := by decide +kernel
theorem dX11_isRule_11 : decode cX11_isRule 11 = .ok (.invokestatic 25, 3) := by decide +kernel
theorem dX11_isRule_14 : decode cX11_isRule 14 = .ok (.ireturn, 1) := by decide +kernel
theorem dX11_copies_0 : decode cX11_copies 0 = .ok (.iconst 0, 1) := by decide +kernel
theorem dX11_copies_1 : decode cX11_copies 1 = .ok (.istore_n 3, 1) := by decide +kernel
theorem dX11_copies_2 : decode cX11_copies 2 = .ok (.iload_n 3, 1) := by decide +kernel
theorem dX11_copies_3 : decode cX11_copies 3 = .ok (.sipush 413, 3) := by decide +kernel
theorem dX11_copies_6 : decode cX11_copies 6 = .ok (.if_icmp .ge 25, 3) := by decide +kernel
theorem dX11_copies_9 : decode cX11_copies 9 = .ok (.aload_n 0, 1) := by decide +kernel
theorem dX11_copies_10 : decode cX11_copies 10 = .ok (.getfield 7, 3) := by decide +kernel
theorem dX11_copies_13 : decode cX11_copies 13 = .ok (.iload_n 2, 1) := by decide +kernel
theorem dX11_copies_14 : decode cX11_copies 14 = .ok (.iload_n 3, 1) := by decide +kernel
theorem dX11_copies_15 : decode cX11_copies 15 = .ok (.iadd, 1) := by decide +kernel
theorem dX11_copies_16 : decode cX11_copies 16 = .ok (.aload_n 0, 1) := by decide +kernel
theorem dX11_copies_17 : decode cX11_copies 17 = .ok (.getfield 7, 3) := by decide +kernel
theorem dX11_copies_20 : decode cX11_copies 20 = .ok (.iload_n 1, 1) := by decide +kernel
theorem dX11_copies_21 : decode cX11_copies 21 = .ok (.iload_n 3, 1) := by decide +kernel
theorem dX11_copies_22 : decode cX11_copies 22 = .ok (.iadd, 1) := by decide +kernel
theorem dX11_copies_23 : decode cX11_copies 23 = .ok (.iaload, 1) := by decide +kernel
theorem dX11_copies_24 : decode cX11_copies 24 = .ok (.iastore, 1) := by decide +kernel
theorem dX11_copies_25 : decode cX11_copies 25 = .ok (.iinc 3 1, 3) := by decide +kernel
theorem dX11_copies_28 : decode cX11_copies 28 = .ok (.goto (-26), 3) := by decide +kernel
theorem dX11_copies_31 : decode cX11_copies 31 = .ok (.return_, 1) := by decide +kernel
theorem dX11_remembers_0 : decode cX11_remembers 0 = .ok (.aload_n 0, 1) := by decide +kernel
theorem dX11_remembers_1 : decode cX11_remembers 1 = .ok (.getfield 29, 3) := by decide +kernel
theorem dX11_remembers_4 : decode cX11_remembers 4 = .ok (.iconst 4, 1) := by decide +kernel
theorem dX11_remembers_5 : decode cX11_remembers 5 = .ok (.if_icmp .ne 44, 3) := by decide +kernel
theorem dX11_remembers_8 : decode cX11_remembers 8 = .ok (.iconst 0, 1) := by decide +kernel
theorem dX11_remembers_9 : decode cX11_remembers 9 = .ok (.istore_n 1, 1) := by decide +kernel
theorem dX11_remembers_10 : decode cX11_remembers 10 = .ok (.iload_n 1, 1) := by decide +kernel
theorem dX11_remembers_11 : decode cX11_remembers 11 = .ok (.sipush 1239, 3) := by decide +kernel
theorem dX11_remembers_14 : decode cX11_remembers 14 = .ok (.if_icmp .ge 25, 3) := by decide +kernel
theorem dX11_remembers_17 : decode cX11_remembers 17 = .ok (.aload_n 0, 1) := by decide +kernel
theorem dX11_remembers_18 : decode cX11_remembers 18 = .ok (.getfield 13, 3) := by decide +kernel
theorem dX11_remembers_21 : decode cX11_remembers 21 = .ok (.iload_n 1, 1) := by decide +kernel
theorem dX11_remembers_22 : decode cX11_remembers 22 = .ok (.aload_n 0, 1) := by decide +kernel
theorem dX11_remembers_23 : decode cX11_remembers 23 = .ok (.getfield 13, 3) := by decide +kernel
theorem dX11_remembers_26 : decode cX11_remembers 26 = .ok (.sipush 413, 3) := by decide +kernel
theorem dX11_remembers_29 : decode cX11_remembers 29 = .ok (.iload_n 1, 1) := by decide +kernel
theorem dX11_remembers_30 : decode cX11_remembers 30 = .ok (.iadd, 1) := by decide +kernel
theorem dX11_remembers_31 : decode cX11_remembers 31 = .ok (.iaload, 1) := by decide +kernel
theorem dX11_remembers_32 : decode cX11_remembers 32 = .ok (.iastore, 1) := by decide +kernel
theorem dX11_remembers_33 : decode cX11_remembers 33 = .ok (.iinc 1 1, 3) := by decide +kernel
theorem dX11_remembers_36 : decode cX11_remembers 36 = .ok (.goto (-26), 3) := by decide +kernel
theorem dX11_remembers_39 : decode cX11_remembers 39 = .ok (.aload_n 0, 1) := by decide +kernel
theorem dX11_remembers_40 : decode cX11_remembers 40 = .ok (.dup, 1) := by decide +kernel
theorem dX11_remembers_41 : decode cX11_remembers 41 = .ok (.getfield 29, 3) := by decide +kernel
theorem dX11_remembers_44 : decode cX11_remembers 44 = .ok (.iconst 1, 1) := by decide +kernel
theorem dX11_remembers_45 : decode cX11_remembers 45 = .ok (.isub, 1) := by decide +kernel
theorem dX11_remembers_46 : decode cX11_remembers 46 = .ok (.putfield 29, 3) := by decide +kernel
theorem dX11_remembers_49 : decode cX11_remembers 49 = .ok (.iconst 0, 1) := by decide +kernel
theorem dX11_remembers_50 : decode cX11_remembers 50 = .ok (.istore_n 1, 1) := by decide +kernel
theorem dX11_remembers_51 : decode cX11_remembers 51 = .ok (.iload_n 1, 1) := by decide +kernel
theorem dX11_remembers_52 : decode cX11_remembers 52 = .ok (.sipush 413, 3) := by decide +kernel
theorem dX11_remembers_55 : decode cX11_remembers 55 = .ok (.if_icmp .ge 30, 3) := by decide +kernel
theorem dX11_remembers_58 : decode cX11_remembers 58 = .ok (.aload_n 0, 1) := by decide +kernel
theorem dX11_remembers_59 : decode cX11_remembers 59 = .ok (.getfield 13, 3) := by decide +kernel
theorem dX11_remembers_62 : decode cX11_remembers 62 = .ok (.sipush 413, 3) := by decide +kernel
theorem dX11_remembers_65 : decode cX11_remembers 65 = .ok (.aload_n 0, 1) := by decide +kernel
theorem dX11_remembers_66 : decode cX11_remembers 66 = .ok (.getfield 29, 3) := by decide +kernel
theorem dX11_remembers_69 : decode cX11_remembers 69 = .ok (.imul, 1) := by decide +kernel
theorem dX11_remembers_70 : decode cX11_remembers 70 = .ok (.iload_n 1, 1) := by decide +kernel
theorem dX11_remembers_71 : decode cX11_remembers 71 = .ok (.iadd, 1) := by decide +kernel
theorem dX11_remembers_72 : decode cX11_remembers 72 = .ok (.aload_n 0, 1) := by decide +kernel
theorem dX11_remembers_73 : decode cX11_remembers 73 = .ok (.getfield 7, 3) := by decide +kernel
theorem dX11_remembers_76 : decode cX11_remembers 76 = .ok (.iload_n 1, 1) := by decide +kernel
theorem dX11_remembers_77 : decode cX11_remembers 77 = .ok (.iaload, 1) := by decide +kernel
theorem dX11_remembers_78 : decode cX11_remembers 78 = .ok (.iastore, 1) := by decide +kernel
theorem dX11_remembers_79 : decode cX11_remembers 79 = .ok (.iinc 1 1, 3) := by decide +kernel
theorem dX11_remembers_82 : decode cX11_remembers 82 = .ok (.goto (-31), 3) := by decide +kernel
theorem dX11_remembers_85 : decode cX11_remembers 85 = .ok (.aload_n 0, 1) := by decide +kernel
theorem dX11_remembers_86 : decode cX11_remembers 86 = .ok (.dup, 1) := by decide +kernel
theorem dX11_remembers_87 : decode cX11_remembers 87 = .ok (.getfield 29, 3) := by decide +kernel
theorem dX11_remembers_90 : decode cX11_remembers 90 = .ok (.iconst 1, 1) := by decide +kernel
theorem dX11_remembers_91 : decode cX11_remembers 91 = .ok (.iadd, 1) := by decide +kernel
theorem dX11_remembers_92 : decode cX11_remembers 92 = .ok (.putfield 29, 3) := by decide +kernel
theorem dX11_remembers_95 : decode cX11_remembers 95 = .ok (.return_, 1) := by decide +kernel
theorem dX11_lays_0 : decode cX11_lays 0 = .ok (.aload_n 0, 1) := by decide +kernel
theorem dX11_lays_1 : decode cX11_lays 1 = .ok (.invokevirtual 33, 3) := by decide +kernel
theorem dX11_lays_4 : decode cX11_lays 4 = .ok (.aload_n 0, 1) := by decide +kernel
theorem dX11_lays_5 : decode cX11_lays 5 = .ok (.sipush 413, 3) := by decide +kernel
theorem dX11_lays_8 : decode cX11_lays 8 = .ok (.iconst 0, 1) := by decide +kernel
theorem dX11_lays_9 : decode cX11_lays 9 = .ok (.invokevirtual 36, 3) := by decide +kernel
theorem dX11_lays_12 : decode cX11_lays 12 = .ok (.return_, 1) := by decide +kernel
theorem dX11_rowOf_0 : decode cX11_rowOf 0 = .ok (.iconst 0, 1) := by decide +kernel
theorem dX11_rowOf_1 : decode cX11_rowOf 1 = .ok (.istore_n 3, 1) := by decide +kernel
theorem dX11_rowOf_2 : decode cX11_rowOf 2 = .ok (.iload_n 3, 1) := by decide +kernel
theorem dX11_rowOf_3 : decode cX11_rowOf 3 = .ok (.aload_n 0, 1) := by decide +kernel
theorem dX11_rowOf_4 : decode cX11_rowOf 4 = .ok (.getfield 7, 3) := by decide +kernel
theorem dX11_rowOf_7 : decode cX11_rowOf 7 = .ok (.iload_n 1, 1) := by decide +kernel
theorem dX11_rowOf_8 : decode cX11_rowOf 8 = .ok (.iconst 0, 1) := by decide +kernel
theorem dX11_rowOf_9 : decode cX11_rowOf 9 = .ok (.iadd, 1) := by decide +kernel
theorem dX11_rowOf_10 : decode cX11_rowOf 10 = .ok (.iaload, 1) := by decide +kernel
theorem dX11_rowOf_11 : decode cX11_rowOf 11 = .ok (.if_icmp .ge 33, 3) := by decide +kernel
theorem dX11_rowOf_14 : decode cX11_rowOf 14 = .ok (.aload_n 0, 1) := by decide +kernel
theorem dX11_rowOf_15 : decode cX11_rowOf 15 = .ok (.getfield 7, 3) := by decide +kernel
theorem dX11_rowOf_18 : decode cX11_rowOf 18 = .ok (.iload_n 1, 1) := by decide +kernel
theorem dX11_rowOf_19 : decode cX11_rowOf 19 = .ok (.iconst 1, 1) := by decide +kernel
theorem dX11_rowOf_20 : decode cX11_rowOf 20 = .ok (.iadd, 1) := by decide +kernel
theorem dX11_rowOf_21 : decode cX11_rowOf 21 = .ok (.iconst 4, 1) := by decide +kernel
theorem dX11_rowOf_22 : decode cX11_rowOf 22 = .ok (.iload_n 3, 1) := by decide +kernel
theorem dX11_rowOf_23 : decode cX11_rowOf 23 = .ok (.imul, 1) := by decide +kernel
theorem dX11_rowOf_24 : decode cX11_rowOf 24 = .ok (.iadd, 1) := by decide +kernel
theorem dX11_rowOf_25 : decode cX11_rowOf 25 = .ok (.iaload, 1) := by decide +kernel
theorem dX11_rowOf_26 : decode cX11_rowOf 26 = .ok (.iload_n 2, 1) := by decide +kernel
theorem dX11_rowOf_27 : decode cX11_rowOf 27 = .ok (.if_icmp .ne 11, 3) := by decide +kernel
theorem dX11_rowOf_30 : decode cX11_rowOf 30 = .ok (.iload_n 1, 1) := by decide +kernel
theorem dX11_rowOf_31 : decode cX11_rowOf 31 = .ok (.iconst 1, 1) := by decide +kernel
theorem dX11_rowOf_32 : decode cX11_rowOf 32 = .ok (.iadd, 1) := by decide +kernel
theorem dX11_rowOf_33 : decode cX11_rowOf 33 = .ok (.iconst 4, 1) := by decide +kernel
theorem dX11_rowOf_34 : decode cX11_rowOf 34 = .ok (.iload_n 3, 1) := by decide +kernel
theorem dX11_rowOf_35 : decode cX11_rowOf 35 = .ok (.imul, 1) := by decide +kernel
theorem dX11_rowOf_36 : decode cX11_rowOf 36 = .ok (.iadd, 1) := by decide +kernel
theorem dX11_rowOf_37 : decode cX11_rowOf 37 = .ok (.ireturn, 1) := by decide +kernel
theorem dX11_rowOf_38 : decode cX11_rowOf 38 = .ok (.iinc 3 1, 3) := by decide +kernel
theorem dX11_rowOf_41 : decode cX11_rowOf 41 = .ok (.goto (-39), 3) := by decide +kernel
theorem dX11_rowOf_44 : decode cX11_rowOf 44 = .ok (.iconst (-1), 1) := by decide +kernel
theorem dX11_rowOf_45 : decode cX11_rowOf 45 = .ok (.ireturn, 1) := by decide +kernel
theorem dX11_ruleAt_0 : decode cX11_ruleAt 0 = .ok (.iload_n 0, 1) := by decide +kernel
theorem dX11_ruleAt_1 : decode cX11_ruleAt 1 = .ok (.bipush 82, 2) := by decide +kernel
theorem dX11_ruleAt_3 : decode cX11_ruleAt 3 = .ok (.iadd, 1) := by decide +kernel
theorem dX11_ruleAt_4 : decode cX11_ruleAt 4 = .ok (.bipush 12, 2) := by decide +kernel
theorem dX11_ruleAt_6 : decode cX11_ruleAt 6 = .ok (.iload_n 1, 1) := by decide +kernel
theorem dX11_ruleAt_7 : decode cX11_ruleAt 7 = .ok (.imul, 1) := by decide +kernel
theorem dX11_ruleAt_8 : decode cX11_ruleAt 8 = .ok (.iadd, 1) := by decide +kernel
theorem dX11_ruleAt_9 : decode cX11_ruleAt 9 = .ok (.ireturn, 1) := by decide +kernel
theorem dX11_isOf_0 : decode cX11_isOf 0 = .ok (.iload_n 1, 1) := by decide +kernel
theorem dX11_isOf_1 : decode cX11_isOf 1 = .ok (.iload_n 2, 1) := by decide +kernel
theorem dX11_isOf_2 : decode cX11_isOf 2 = .ok (.invokestatic 40, 3) := by decide +kernel
theorem dX11_isOf_5 : decode cX11_isOf 5 = .ok (.istore 5, 2) := by decide +kernel
theorem dX11_isOf_7 : decode cX11_isOf 7 = .ok (.aload_n 0, 1) := by decide +kernel
theorem dX11_isOf_8 : decode cX11_isOf 8 = .ok (.getfield 7, 3) := by decide +kernel
theorem dX11_isOf_11 : decode cX11_isOf 11 = .ok (.iload 5, 2) := by decide +kernel
theorem dX11_isOf_13 : decode cX11_isOf 13 = .ok (.iconst 0, 1) := by decide +kernel
theorem dX11_isOf_14 : decode cX11_isOf 14 = .ok (.iadd, 1) := by decide +kernel
theorem dX11_isOf_15 : decode cX11_isOf 15 = .ok (.iaload, 1) := by decide +kernel
theorem dX11_isOf_16 : decode cX11_isOf 16 = .ok (.iload_n 3, 1) := by decide +kernel
theorem dX11_isOf_17 : decode cX11_isOf 17 = .ok (.if_icmp .ne 21, 3) := by decide +kernel
theorem dX11_isOf_20 : decode cX11_isOf 20 = .ok (.aload_n 0, 1) := by decide +kernel
theorem dX11_isOf_21 : decode cX11_isOf 21 = .ok (.getfield 7, 3) := by decide +kernel
theorem dX11_isOf_24 : decode cX11_isOf 24 = .ok (.iload 5, 2) := by decide +kernel
theorem dX11_isOf_26 : decode cX11_isOf 26 = .ok (.iconst 1, 1) := by decide +kernel
theorem dX11_isOf_27 : decode cX11_isOf 27 = .ok (.iadd, 1) := by decide +kernel
theorem dX11_isOf_28 : decode cX11_isOf 28 = .ok (.iaload, 1) := by decide +kernel
theorem dX11_isOf_29 : decode cX11_isOf 29 = .ok (.iload 4, 2) := by decide +kernel
theorem dX11_isOf_31 : decode cX11_isOf 31 = .ok (.if_icmp .ne 7, 3) := by decide +kernel
theorem dX11_isOf_34 : decode cX11_isOf 34 = .ok (.iconst 1, 1) := by decide +kernel
theorem dX11_isOf_35 : decode cX11_isOf 35 = .ok (.goto 4, 3) := by decide +kernel
theorem dX11_isOf_38 : decode cX11_isOf 38 = .ok (.iconst 0, 1) := by decide +kernel
theorem dX11_isOf_39 : decode cX11_isOf 39 = .ok (.ireturn, 1) := by decide +kernel
theorem dX11_orderAt_0 : decode cX11_orderAt 0 = .ok (.iconst 0, 1) := by decide +kernel
theorem dX11_orderAt_1 : decode cX11_orderAt 1 = .ok (.istore 5, 2) := by decide +kernel
theorem dX11_orderAt_3 : decode cX11_orderAt 3 = .ok (.iload 5, 2) := by decide +kernel
theorem dX11_orderAt_5 : decode cX11_orderAt 5 = .ok (.aload_n 0, 1) := by decide +kernel
theorem dX11_orderAt_6 : decode cX11_orderAt 6 = .ok (.getfield 7, 3) := by decide +kernel
theorem dX11_orderAt_9 : decode cX11_orderAt 9 = .ok (.iload_n 1, 1) := by decide +kernel
theorem dX11_orderAt_10 : decode cX11_orderAt 10 = .ok (.bipush 81, 2) := by decide +kernel
theorem dX11_orderAt_12 : decode cX11_orderAt 12 = .ok (.iadd, 1) := by decide +kernel
theorem dX11_orderAt_13 : decode cX11_orderAt 13 = .ok (.iaload, 1) := by decide +kernel
theorem dX11_orderAt_14 : decode cX11_orderAt 14 = .ok (.if_icmp .ge 125, 3) := by decide +kernel
theorem dX11_orderAt_17 : decode cX11_orderAt 17 = .ok (.iconst 0, 1) := by decide +kernel
theorem dX11_orderAt_18 : decode cX11_orderAt 18 = .ok (.istore 6, 2) := by decide +kernel
theorem dX11_orderAt_20 : decode cX11_orderAt 20 = .ok (.iconst 0, 1) := by decide +kernel
theorem dX11_orderAt_21 : decode cX11_orderAt 21 = .ok (.istore 7, 2) := by decide +kernel
theorem dX11_orderAt_23 : decode cX11_orderAt 23 = .ok (.iload 7, 2) := by decide +kernel
theorem dX11_orderAt_25 : decode cX11_orderAt 25 = .ok (.aload_n 0, 1) := by decide +kernel
theorem dX11_orderAt_26 : decode cX11_orderAt 26 = .ok (.getfield 7, 3) := by decide +kernel
theorem dX11_orderAt_29 : decode cX11_orderAt 29 = .ok (.iload_n 1, 1) := by decide +kernel
theorem dX11_orderAt_30 : decode cX11_orderAt 30 = .ok (.bipush 81, 2) := by decide +kernel
theorem dX11_orderAt_32 : decode cX11_orderAt 32 = .ok (.iadd, 1) := by decide +kernel
theorem dX11_orderAt_33 : decode cX11_orderAt 33 = .ok (.iaload, 1) := by decide +kernel
theorem dX11_orderAt_34 : decode cX11_orderAt 34 = .ok (.if_icmp .ge 77, 3) := by decide +kernel
theorem dX11_orderAt_37 : decode cX11_orderAt 37 = .ok (.aload_n 0, 1) := by decide +kernel
theorem dX11_orderAt_38 : decode cX11_orderAt 38 = .ok (.getfield 7, 3) := by decide +kernel
theorem dX11_orderAt_41 : decode cX11_orderAt 41 = .ok (.iload_n 1, 1) := by decide +kernel
theorem dX11_orderAt_42 : decode cX11_orderAt 42 = .ok (.iload 7, 2) := by decide +kernel
theorem dX11_orderAt_44 : decode cX11_orderAt 44 = .ok (.invokestatic 40, 3) := by decide +kernel
theorem dX11_orderAt_47 : decode cX11_orderAt 47 = .ok (.iconst 2, 1) := by decide +kernel
theorem dX11_orderAt_48 : decode cX11_orderAt 48 = .ok (.iadd, 1) := by decide +kernel
theorem dX11_orderAt_49 : decode cX11_orderAt 49 = .ok (.iaload, 1) := by decide +kernel
theorem dX11_orderAt_50 : decode cX11_orderAt 50 = .ok (.aload_n 0, 1) := by decide +kernel
theorem dX11_orderAt_51 : decode cX11_orderAt 51 = .ok (.getfield 7, 3) := by decide +kernel
theorem dX11_orderAt_54 : decode cX11_orderAt 54 = .ok (.iload_n 1, 1) := by decide +kernel
theorem dX11_orderAt_55 : decode cX11_orderAt 55 = .ok (.iload 5, 2) := by decide +kernel
theorem dX11_orderAt_57 : decode cX11_orderAt 57 = .ok (.invokestatic 40, 3) := by decide +kernel
theorem dX11_orderAt_60 : decode cX11_orderAt 60 = .ok (.iconst 2, 1) := by decide +kernel
theorem dX11_orderAt_61 : decode cX11_orderAt 61 = .ok (.iadd, 1) := by decide +kernel
theorem dX11_orderAt_62 : decode cX11_orderAt 62 = .ok (.iaload, 1) := by decide +kernel
theorem dX11_orderAt_63 : decode cX11_orderAt 63 = .ok (.isub, 1) := by decide +kernel
theorem dX11_orderAt_64 : decode cX11_orderAt 64 = .ok (.istore 8, 2) := by decide +kernel
theorem dX11_orderAt_66 : decode cX11_orderAt 66 = .ok (.iload 6, 2) := by decide +kernel
theorem dX11_orderAt_68 : decode cX11_orderAt 68 = .ok (.aload_n 0, 1) := by decide +kernel
theorem dX11_orderAt_69 : decode cX11_orderAt 69 = .ok (.iload_n 1, 1) := by decide +kernel
theorem dX11_orderAt_70 : decode cX11_orderAt 70 = .ok (.iload 7, 2) := by decide +kernel
theorem dX11_orderAt_72 : decode cX11_orderAt 72 = .ok (.iload_n 2, 1) := by decide +kernel
theorem dX11_orderAt_73 : decode cX11_orderAt 73 = .ok (.iload_n 3, 1) := by decide +kernel
theorem dX11_orderAt_74 : decode cX11_orderAt 74 = .ok (.invokevirtual 44, 3) := by decide +kernel
theorem dX11_orderAt_77 : decode cX11_orderAt 77 = .ok (.ifCond .eq 24, 3) := by decide +kernel
theorem dX11_orderAt_80 : decode cX11_orderAt 80 = .ok (.iload 8, 2) := by decide +kernel
theorem dX11_orderAt_82 : decode cX11_orderAt 82 = .ok (.ifCond .lt 15, 3) := by decide +kernel
theorem dX11_orderAt_85 : decode cX11_orderAt 85 = .ok (.iload 8, 2) := by decide +kernel
theorem dX11_orderAt_87 : decode cX11_orderAt 87 = .ok (.ifCond .ne 14, 3) := by decide +kernel
theorem dX11_orderAt_90 : decode cX11_orderAt 90 = .ok (.iload 7, 2) := by decide +kernel
theorem dX11_orderAt_92 : decode cX11_orderAt 92 = .ok (.iload 5, 2) := by decide +kernel
theorem dX11_orderAt_94 : decode cX11_orderAt 94 = .ok (.if_icmp .ge 7, 3) := by decide +kernel
theorem dX11_orderAt_97 : decode cX11_orderAt 97 = .ok (.iconst 1, 1) := by decide +kernel
theorem dX11_orderAt_98 : decode cX11_orderAt 98 = .ok (.goto 4, 3) := by decide +kernel
theorem dX11_orderAt_101 : decode cX11_orderAt 101 = .ok (.iconst 0, 1) := by decide +kernel
theorem dX11_orderAt_102 : decode cX11_orderAt 102 = .ok (.iadd, 1) := by decide +kernel
theorem dX11_orderAt_103 : decode cX11_orderAt 103 = .ok (.istore 6, 2) := by decide +kernel
theorem dX11_orderAt_105 : decode cX11_orderAt 105 = .ok (.iinc 7 1, 3) := by decide +kernel
theorem dX11_orderAt_108 : decode cX11_orderAt 108 = .ok (.goto (-85), 3) := by decide +kernel
theorem dX11_orderAt_111 : decode cX11_orderAt 111 = .ok (.aload_n 0, 1) := by decide +kernel
theorem dX11_orderAt_112 : decode cX11_orderAt 112 = .ok (.iload_n 1, 1) := by decide +kernel
theorem dX11_orderAt_113 : decode cX11_orderAt 113 = .ok (.iload 5, 2) := by decide +kernel
theorem dX11_orderAt_115 : decode cX11_orderAt 115 = .ok (.iload_n 2, 1) := by decide +kernel
theorem dX11_orderAt_116 : decode cX11_orderAt 116 = .ok (.iload_n 3, 1) := by decide +kernel
theorem dX11_orderAt_117 : decode cX11_orderAt 117 = .ok (.invokevirtual 44, 3) := by decide +kernel
theorem dX11_orderAt_120 : decode cX11_orderAt 120 = .ok (.ifCond .eq 13, 3) := by decide +kernel
theorem dX11_orderAt_123 : decode cX11_orderAt 123 = .ok (.iload 6, 2) := by decide +kernel
theorem dX11_orderAt_125 : decode cX11_orderAt 125 = .ok (.iload 4, 2) := by decide +kernel
theorem dX11_orderAt_127 : decode cX11_orderAt 127 = .ok (.if_icmp .ne 6, 3) := by decide +kernel
theorem dX11_orderAt_130 : decode cX11_orderAt 130 = .ok (.iload 5, 2) := by decide +kernel
theorem dX11_orderAt_132 : decode cX11_orderAt 132 = .ok (.ireturn, 1) := by decide +kernel
theorem dX11_orderAt_133 : decode cX11_orderAt 133 = .ok (.iinc 5 1, 3) := by decide +kernel
theorem dX11_orderAt_136 : decode cX11_orderAt 136 = .ok (.goto (-133), 3) := by decide +kernel
theorem dX11_orderAt_139 : decode cX11_orderAt 139 = .ok (.sipush (-1006), 3) := by decide +kernel
theorem dX11_orderAt_142 : decode cX11_orderAt 142 = .ok (.ireturn, 1) := by decide +kernel
theorem dX11_image_0 : decode cX11_image 0 = .ok (.iload_n 2, 1) := by decide +kernel
theorem dX11_image_1 : decode cX11_image 1 = .ok (.iconst 3, 1) := by decide +kernel
theorem dX11_image_2 : decode cX11_image 2 = .ok (.if_icmp .ne 17, 3) := by decide +kernel
theorem dX11_image_5 : decode cX11_image 5 = .ok (.aload_n 0, 1) := by decide +kernel
theorem dX11_image_6 : decode cX11_image 6 = .ok (.getfield 22, 3) := by decide +kernel
theorem dX11_image_9 : decode cX11_image 9 = .ok (.bipush 8, 2) := by decide +kernel
theorem dX11_image_11 : decode cX11_image 11 = .ok (.iload_n 1, 1) := by decide +kernel
theorem dX11_image_12 : decode cX11_image 12 = .ok (.imul, 1) := by decide +kernel
theorem dX11_image_13 : decode cX11_image 13 = .ok (.iconst 1, 1) := by decide +kernel
theorem dX11_image_14 : decode cX11_image 14 = .ok (.iadd, 1) := by decide +kernel
theorem dX11_image_15 : decode cX11_image 15 = .ok (.iaload, 1) := by decide +kernel
theorem dX11_image_16 : decode cX11_image 16 = .ok (.goto 16, 3) := by decide +kernel
theorem dX11_image_19 : decode cX11_image 19 = .ok (.aload_n 0, 1) := by decide +kernel
theorem dX11_image_20 : decode cX11_image 20 = .ok (.getfield 22, 3) := by decide +kernel
theorem dX11_image_23 : decode cX11_image 23 = .ok (.bipush 8, 2) := by decide +kernel
theorem dX11_image_25 : decode cX11_image 25 = .ok (.iload_n 1, 1) := by decide +kernel
theorem dX11_image_26 : decode cX11_image 26 = .ok (.imul, 1) := by decide +kernel
theorem dX11_image_27 : decode cX11_image 27 = .ok (.iconst 2, 1) := by decide +kernel
theorem dX11_image_28 : decode cX11_image 28 = .ok (.iadd, 1) := by decide +kernel
theorem dX11_image_29 : decode cX11_image 29 = .ok (.iload_n 2, 1) := by decide +kernel
theorem dX11_image_30 : decode cX11_image 30 = .ok (.iadd, 1) := by decide +kernel
theorem dX11_image_31 : decode cX11_image 31 = .ok (.iaload, 1) := by decide +kernel
theorem dX11_image_32 : decode cX11_image 32 = .ok (.ireturn, 1) := by decide +kernel
theorem dX11_asks_0 : decode cX11_asks 0 = .ok (.aload_n 0, 1) := by decide +kernel
theorem dX11_asks_1 : decode cX11_asks 1 = .ok (.getfield 22, 3) := by decide +kernel
theorem dX11_asks_4 : decode cX11_asks 4 = .ok (.bipush 8, 2) := by decide +kernel
theorem dX11_asks_6 : decode cX11_asks 6 = .ok (.iload_n 1, 1) := by decide +kernel
theorem dX11_asks_7 : decode cX11_asks 7 = .ok (.imul, 1) := by decide +kernel
theorem dX11_asks_8 : decode cX11_asks 8 = .ok (.iconst 0, 1) := by decide +kernel
theorem dX11_asks_9 : decode cX11_asks 9 = .ok (.iadd, 1) := by decide +kernel
theorem dX11_asks_10 : decode cX11_asks 10 = .ok (.iload_n 2, 1) := by decide +kernel
theorem dX11_asks_11 : decode cX11_asks 11 = .ok (.iastore, 1) := by decide +kernel
theorem dX11_asks_12 : decode cX11_asks 12 = .ok (.aload_n 0, 1) := by decide +kernel
theorem dX11_asks_13 : decode cX11_asks 13 = .ok (.getfield 22, 3) := by decide +kernel
theorem dX11_asks_16 : decode cX11_asks 16 = .ok (.bipush 8, 2) := by decide +kernel
theorem dX11_asks_18 : decode cX11_asks 18 = .ok (.iload_n 1, 1) := by decide +kernel
theorem dX11_asks_19 : decode cX11_asks 19 = .ok (.imul, 1) := by decide +kernel
theorem dX11_asks_20 : decode cX11_asks 20 = .ok (.iconst 1, 1) := by decide +kernel
theorem dX11_asks_21 : decode cX11_asks 21 = .ok (.iadd, 1) := by decide +kernel
theorem dX11_asks_22 : decode cX11_asks 22 = .ok (.iload_n 3, 1) := by decide +kernel
theorem dX11_asks_23 : decode cX11_asks 23 = .ok (.iastore, 1) := by decide +kernel
theorem dX11_asks_24 : decode cX11_asks 24 = .ok (.aload_n 0, 1) := by decide +kernel
theorem dX11_asks_25 : decode cX11_asks 25 = .ok (.getfield 22, 3) := by decide +kernel
theorem dX11_asks_28 : decode cX11_asks 28 = .ok (.bipush 8, 2) := by decide +kernel
theorem dX11_asks_30 : decode cX11_asks 30 = .ok (.iload_n 1, 1) := by decide +kernel
theorem dX11_asks_31 : decode cX11_asks 31 = .ok (.imul, 1) := by decide +kernel
theorem dX11_asks_32 : decode cX11_asks 32 = .ok (.bipush 7, 2) := by decide +kernel
theorem dX11_asks_34 : decode cX11_asks 34 = .ok (.iadd, 1) := by decide +kernel
theorem dX11_asks_35 : decode cX11_asks 35 = .ok (.iload 4, 2) := by decide +kernel
theorem dX11_asks_37 : decode cX11_asks 37 = .ok (.iastore, 1) := by decide +kernel
theorem dX11_asks_38 : decode cX11_asks 38 = .ok (.return_, 1) := by decide +kernel
theorem dX11_refuses_0 : decode cX11_refuses 0 = .ok (.aload_n 0, 1) := by decide +kernel
theorem dX11_refuses_1 : decode cX11_refuses 1 = .ok (.iload_n 1, 1) := by decide +kernel
theorem dX11_refuses_2 : decode cX11_refuses 2 = .ok (.putfield 48, 3) := by decide +kernel
theorem dX11_refuses_5 : decode cX11_refuses 5 = .ok (.aload_n 0, 1) := by decide +kernel
theorem dX11_refuses_6 : decode cX11_refuses 6 = .ok (.iload_n 2, 1) := by decide +kernel
theorem dX11_refuses_7 : decode cX11_refuses 7 = .ok (.putfield 51, 3) := by decide +kernel
theorem dX11_refuses_10 : decode cX11_refuses 10 = .ok (.return_, 1) := by decide +kernel
theorem dX11_isNothing_0 : decode cX11_isNothing 0 = .ok (.aload_n 0, 1) := by decide +kernel
theorem dX11_isNothing_1 : decode cX11_isNothing 1 = .ok (.getfield 22, 3) := by decide +kernel
theorem dX11_isNothing_4 : decode cX11_isNothing 4 = .ok (.bipush 8, 2) := by decide +kernel
theorem dX11_isNothing_6 : decode cX11_isNothing 6 = .ok (.iload_n 2, 1) := by decide +kernel
theorem dX11_isNothing_7 : decode cX11_isNothing 7 = .ok (.imul, 1) := by decide +kernel
theorem dX11_isNothing_8 : decode cX11_isNothing 8 = .ok (.iconst 1, 1) := by decide +kernel
theorem dX11_isNothing_9 : decode cX11_isNothing 9 = .ok (.iadd, 1) := by decide +kernel
theorem dX11_isNothing_10 : decode cX11_isNothing 10 = .ok (.iaload, 1) := by decide +kernel
theorem dX11_isNothing_11 : decode cX11_isNothing 11 = .ok (.istore 5, 2) := by decide +kernel
theorem dX11_isNothing_13 : decode cX11_isNothing 13 = .ok (.aload_n 0, 1) := by decide +kernel
theorem dX11_isNothing_14 : decode cX11_isNothing 14 = .ok (.iload_n 1, 1) := by decide +kernel
theorem dX11_isNothing_15 : decode cX11_isNothing 15 = .ok (.iload 5, 2) := by decide +kernel
theorem dX11_isNothing_17 : decode cX11_isNothing 17 = .ok (.invokevirtual 54, 3) := by decide +kernel
theorem dX11_isNothing_20 : decode cX11_isNothing 20 = .ok (.istore 6, 2) := by decide +kernel
theorem dX11_isNothing_22 : decode cX11_isNothing 22 = .ok (.aload_n 0, 1) := by decide +kernel
theorem dX11_isNothing_23 : decode cX11_isNothing 23 = .ok (.getfield 22, 3) := by decide +kernel
theorem dX11_isNothing_26 : decode cX11_isNothing 26 = .ok (.bipush 8, 2) := by decide +kernel
theorem dX11_isNothing_28 : decode cX11_isNothing 28 = .ok (.iload_n 2, 1) := by decide +kernel
theorem dX11_isNothing_29 : decode cX11_isNothing 29 = .ok (.imul, 1) := by decide +kernel
theorem dX11_isNothing_30 : decode cX11_isNothing 30 = .ok (.iconst 0, 1) := by decide +kernel
theorem dX11_isNothing_31 : decode cX11_isNothing 31 = .ok (.iadd, 1) := by decide +kernel
theorem dX11_isNothing_32 : decode cX11_isNothing 32 = .ok (.iaload, 1) := by decide +kernel
theorem dX11_isNothing_33 : decode cX11_isNothing 33 = .ok (.ifCond .ne 35, 3) := by decide +kernel
theorem dX11_isNothing_36 : decode cX11_isNothing 36 = .ok (.iload 5, 2) := by decide +kernel
theorem dX11_isNothing_38 : decode cX11_isNothing 38 = .ok (.invokestatic 57, 3) := by decide +kernel
theorem dX11_isNothing_41 : decode cX11_isNothing 41 = .ok (.ifCond .eq 21, 3) := by decide +kernel
theorem dX11_isNothing_44 : decode cX11_isNothing 44 = .ok (.iload 6, 2) := by decide +kernel
end
section
theorem dX11_isNothing_46 : decode cX11_isNothing 46 = .ok (.ifCond .ge 16, 3) := by decide +kernel
theorem dX11_isNothing_49 : decode cX11_isNothing 49 = .ok (.aload_n 0, 1) := by decide +kernel
theorem dX11_isNothing_50 : decode cX11_isNothing 50 = .ok (.getfield 7, 3) := by decide +kernel
theorem dX11_isNothing_53 : decode cX11_isNothing 53 = .ok (.iload_n 1, 1) := by decide +kernel
theorem dX11_isNothing_54 : decode cX11_isNothing 54 = .ok (.iconst 0, 1) := by decide +kernel
theorem dX11_isNothing_55 : decode cX11_isNothing 55 = .ok (.iadd, 1) := by decide +kernel
theorem dX11_isNothing_56 : decode cX11_isNothing 56 = .ok (.iaload, 1) := by decide +kernel
theorem dX11_isNothing_57 : decode cX11_isNothing 57 = .ok (.bipush 20, 2) := by decide +kernel
theorem dX11_isNothing_59 : decode cX11_isNothing 59 = .ok (.if_icmp .ne 7, 3) := by decide +kernel
theorem dX11_isNothing_62 : decode cX11_isNothing 62 = .ok (.iconst 1, 1) := by decide +kernel
theorem dX11_isNothing_63 : decode cX11_isNothing 63 = .ok (.goto 4, 3) := by decide +kernel
theorem dX11_isNothing_66 : decode cX11_isNothing 66 = .ok (.iconst 0, 1) := by decide +kernel
theorem dX11_isNothing_67 : decode cX11_isNothing 67 = .ok (.ireturn, 1) := by decide +kernel
theorem dX11_isNothing_68 : decode cX11_isNothing 68 = .ok (.iload 6, 2) := by decide +kernel
theorem dX11_isNothing_70 : decode cX11_isNothing 70 = .ok (.ifCond .lt 34, 3) := by decide +kernel
theorem dX11_isNothing_73 : decode cX11_isNothing 73 = .ok (.aload_n 0, 1) := by decide +kernel
theorem dX11_isNothing_74 : decode cX11_isNothing 74 = .ok (.getfield 22, 3) := by decide +kernel
theorem dX11_isNothing_77 : decode cX11_isNothing 77 = .ok (.bipush 8, 2) := by decide +kernel
theorem dX11_isNothing_79 : decode cX11_isNothing 79 = .ok (.iload_n 2, 1) := by decide +kernel
theorem dX11_isNothing_80 : decode cX11_isNothing 80 = .ok (.imul, 1) := by decide +kernel
theorem dX11_isNothing_81 : decode cX11_isNothing 81 = .ok (.iconst 0, 1) := by decide +kernel
theorem dX11_isNothing_82 : decode cX11_isNothing 82 = .ok (.iadd, 1) := by decide +kernel
theorem dX11_isNothing_83 : decode cX11_isNothing 83 = .ok (.iaload, 1) := by decide +kernel
theorem dX11_isNothing_84 : decode cX11_isNothing 84 = .ok (.iconst 1, 1) := by decide +kernel
theorem dX11_isNothing_85 : decode cX11_isNothing 85 = .ok (.if_icmp .ne 23, 3) := by decide +kernel
theorem dX11_isNothing_88 : decode cX11_isNothing 88 = .ok (.aload_n 0, 1) := by decide +kernel
theorem dX11_isNothing_89 : decode cX11_isNothing 89 = .ok (.getfield 7, 3) := by decide +kernel
theorem dX11_isNothing_92 : decode cX11_isNothing 92 = .ok (.iload 6, 2) := by decide +kernel
theorem dX11_isNothing_94 : decode cX11_isNothing 94 = .ok (.iconst 1, 1) := by decide +kernel
theorem dX11_isNothing_95 : decode cX11_isNothing 95 = .ok (.iadd, 1) := by decide +kernel
theorem dX11_isNothing_96 : decode cX11_isNothing 96 = .ok (.iload_n 3, 1) := by decide +kernel
theorem dX11_isNothing_97 : decode cX11_isNothing 97 = .ok (.iadd, 1) := by decide +kernel
theorem dX11_isNothing_98 : decode cX11_isNothing 98 = .ok (.iaload, 1) := by decide +kernel
theorem dX11_isNothing_99 : decode cX11_isNothing 99 = .ok (.iload 4, 2) := by decide +kernel
theorem dX11_isNothing_101 : decode cX11_isNothing 101 = .ok (.if_icmp .ne 7, 3) := by decide +kernel
theorem dX11_isNothing_104 : decode cX11_isNothing 104 = .ok (.iconst 1, 1) := by decide +kernel
theorem dX11_isNothing_105 : decode cX11_isNothing 105 = .ok (.goto 4, 3) := by decide +kernel
theorem dX11_isNothing_108 : decode cX11_isNothing 108 = .ok (.iconst 0, 1) := by decide +kernel
theorem dX11_isNothing_109 : decode cX11_isNothing 109 = .ok (.ireturn, 1) := by decide +kernel
theorem dX11_begins_0 : decode cX11_begins 0 = .ok (.aload_n 0, 1) := by decide +kernel
theorem dX11_begins_1 : decode cX11_begins 1 = .ok (.iload_n 1, 1) := by decide +kernel
theorem dX11_begins_2 : decode cX11_begins 2 = .ok (.iload_n 2, 1) := by decide +kernel
theorem dX11_begins_3 : decode cX11_begins 3 = .ok (.iload_n 3, 1) := by decide +kernel
theorem dX11_begins_4 : decode cX11_begins 4 = .ok (.iload 4, 2) := by decide +kernel
theorem dX11_begins_6 : decode cX11_begins 6 = .ok (.invokevirtual 61, 3) := by decide +kernel
theorem dX11_begins_9 : decode cX11_begins 9 = .ok (.ifCond .eq 5, 3) := by decide +kernel
theorem dX11_begins_12 : decode cX11_begins 12 = .ok (.iconst 0, 1) := by decide +kernel
theorem dX11_begins_13 : decode cX11_begins 13 = .ok (.ireturn, 1) := by decide +kernel
theorem dX11_begins_14 : decode cX11_begins 14 = .ok (.aload_n 0, 1) := by decide +kernel
theorem dX11_begins_15 : decode cX11_begins 15 = .ok (.getfield 64, 3) := by decide +kernel
theorem dX11_begins_18 : decode cX11_begins 18 = .ok (.bipush 100, 2) := by decide +kernel
theorem dX11_begins_20 : decode cX11_begins 20 = .ok (.if_icmp .ne 22, 3) := by decide +kernel
theorem dX11_begins_23 : decode cX11_begins 23 = .ok (.aload_n 0, 1) := by decide +kernel
theorem dX11_begins_24 : decode cX11_begins 24 = .ok (.iconst 3, 1) := by decide +kernel
theorem dX11_begins_25 : decode cX11_begins 25 = .ok (.aload_n 0, 1) := by decide +kernel
theorem dX11_begins_26 : decode cX11_begins 26 = .ok (.getfield 22, 3) := by decide +kernel
theorem dX11_begins_29 : decode cX11_begins 29 = .ok (.bipush 8, 2) := by decide +kernel
theorem dX11_begins_31 : decode cX11_begins 31 = .ok (.iload_n 2, 1) := by decide +kernel
theorem dX11_begins_32 : decode cX11_begins 32 = .ok (.imul, 1) := by decide +kernel
theorem dX11_begins_33 : decode cX11_begins 33 = .ok (.bipush 7, 2) := by decide +kernel
theorem dX11_begins_35 : decode cX11_begins 35 = .ok (.iadd, 1) := by decide +kernel
theorem dX11_begins_36 : decode cX11_begins 36 = .ok (.iaload, 1) := by decide +kernel
theorem dX11_begins_37 : decode cX11_begins 37 = .ok (.invokevirtual 67, 3) := by decide +kernel
theorem dX11_begins_40 : decode cX11_begins 40 = .ok (.iconst 0, 1) := by decide +kernel
theorem dX11_begins_41 : decode cX11_begins 41 = .ok (.ireturn, 1) := by decide +kernel
theorem dX11_begins_42 : decode cX11_begins 42 = .ok (.aload_n 0, 1) := by decide +kernel
theorem dX11_begins_43 : decode cX11_begins 43 = .ok (.dup, 1) := by decide +kernel
theorem dX11_begins_44 : decode cX11_begins 44 = .ok (.getfield 64, 3) := by decide +kernel
theorem dX11_begins_47 : decode cX11_begins 47 = .ok (.iconst 1, 1) := by decide +kernel
theorem dX11_begins_48 : decode cX11_begins 48 = .ok (.iadd, 1) := by decide +kernel
theorem dX11_begins_49 : decode cX11_begins 49 = .ok (.putfield 64, 3) := by decide +kernel
theorem dX11_begins_52 : decode cX11_begins 52 = .ok (.aload_n 0, 1) := by decide +kernel
theorem dX11_begins_53 : decode cX11_begins 53 = .ok (.iload_n 2, 1) := by decide +kernel
theorem dX11_begins_54 : decode cX11_begins 54 = .ok (.aload_n 0, 1) := by decide +kernel
theorem dX11_begins_55 : decode cX11_begins 55 = .ok (.getfield 70, 3) := by decide +kernel
theorem dX11_begins_58 : decode cX11_begins 58 = .ok (.if_icmp .le 7, 3) := by decide +kernel
theorem dX11_begins_61 : decode cX11_begins 61 = .ok (.iload_n 2, 1) := by decide +kernel
theorem dX11_begins_62 : decode cX11_begins 62 = .ok (.goto 7, 3) := by decide +kernel
theorem dX11_begins_65 : decode cX11_begins 65 = .ok (.aload_n 0, 1) := by decide +kernel
theorem dX11_begins_66 : decode cX11_begins 66 = .ok (.getfield 70, 3) := by decide +kernel
theorem dX11_begins_69 : decode cX11_begins 69 = .ok (.putfield 70, 3) := by decide +kernel
theorem dX11_begins_72 : decode cX11_begins 72 = .ok (.aload_n 0, 1) := by decide +kernel
theorem dX11_begins_73 : decode cX11_begins 73 = .ok (.getfield 22, 3) := by decide +kernel
theorem dX11_begins_76 : decode cX11_begins 76 = .ok (.bipush 8, 2) := by decide +kernel
theorem dX11_begins_78 : decode cX11_begins 78 = .ok (.iload_n 2, 1) := by decide +kernel
theorem dX11_begins_79 : decode cX11_begins 79 = .ok (.imul, 1) := by decide +kernel
theorem dX11_begins_80 : decode cX11_begins 80 = .ok (.iconst 0, 1) := by decide +kernel
theorem dX11_begins_81 : decode cX11_begins 81 = .ok (.iadd, 1) := by decide +kernel
theorem dX11_begins_82 : decode cX11_begins 82 = .ok (.iaload, 1) := by decide +kernel
theorem dX11_begins_83 : decode cX11_begins 83 = .ok (.istore 5, 2) := by decide +kernel
theorem dX11_begins_85 : decode cX11_begins 85 = .ok (.aload_n 0, 1) := by decide +kernel
theorem dX11_begins_86 : decode cX11_begins 86 = .ok (.iload_n 1, 1) := by decide +kernel
theorem dX11_begins_87 : decode cX11_begins 87 = .ok (.aload_n 0, 1) := by decide +kernel
theorem dX11_begins_88 : decode cX11_begins 88 = .ok (.getfield 22, 3) := by decide +kernel
theorem dX11_begins_91 : decode cX11_begins 91 = .ok (.bipush 8, 2) := by decide +kernel
theorem dX11_begins_93 : decode cX11_begins 93 = .ok (.iload_n 2, 1) := by decide +kernel
theorem dX11_begins_94 : decode cX11_begins 94 = .ok (.imul, 1) := by decide +kernel
theorem dX11_begins_95 : decode cX11_begins 95 = .ok (.iconst 1, 1) := by decide +kernel
theorem dX11_begins_96 : decode cX11_begins 96 = .ok (.iadd, 1) := by decide +kernel
theorem dX11_begins_97 : decode cX11_begins 97 = .ok (.iaload, 1) := by decide +kernel
theorem dX11_begins_98 : decode cX11_begins 98 = .ok (.invokevirtual 54, 3) := by decide +kernel
theorem dX11_begins_101 : decode cX11_begins 101 = .ok (.istore 6, 2) := by decide +kernel
theorem dX11_begins_103 : decode cX11_begins 103 = .ok (.iconst 0, 1) := by decide +kernel
theorem dX11_begins_104 : decode cX11_begins 104 = .ok (.istore 7, 2) := by decide +kernel
theorem dX11_begins_106 : decode cX11_begins 106 = .ok (.iload 7, 2) := by decide +kernel
theorem dX11_begins_108 : decode cX11_begins 108 = .ok (.iconst 3, 1) := by decide +kernel
theorem dX11_begins_109 : decode cX11_begins 109 = .ok (.if_icmp .ge 57, 3) := by decide +kernel
theorem dX11_begins_112 : decode cX11_begins 112 = .ok (.iload 5, 2) := by decide +kernel
theorem dX11_begins_114 : decode cX11_begins 114 = .ok (.ifCond .eq 52, 3) := by decide +kernel
theorem dX11_begins_117 : decode cX11_begins 117 = .ok (.aload_n 0, 1) := by decide +kernel
theorem dX11_begins_118 : decode cX11_begins 118 = .ok (.getfield 22, 3) := by decide +kernel
theorem dX11_begins_121 : decode cX11_begins 121 = .ok (.bipush 8, 2) := by decide +kernel
theorem dX11_begins_123 : decode cX11_begins 123 = .ok (.iload_n 2, 1) := by decide +kernel
theorem dX11_begins_124 : decode cX11_begins 124 = .ok (.imul, 1) := by decide +kernel
theorem dX11_begins_125 : decode cX11_begins 125 = .ok (.iconst 2, 1) := by decide +kernel
theorem dX11_begins_126 : decode cX11_begins 126 = .ok (.iadd, 1) := by decide +kernel
theorem dX11_begins_127 : decode cX11_begins 127 = .ok (.iload 7, 2) := by decide +kernel
theorem dX11_begins_129 : decode cX11_begins 129 = .ok (.iadd, 1) := by decide +kernel
theorem dX11_begins_130 : decode cX11_begins 130 = .ok (.iload 5, 2) := by decide +kernel
theorem dX11_begins_132 : decode cX11_begins 132 = .ok (.iconst 1, 1) := by decide +kernel
theorem dX11_begins_133 : decode cX11_begins 133 = .ok (.if_icmp .ne 14, 3) := by decide +kernel
theorem dX11_begins_136 : decode cX11_begins 136 = .ok (.iload 7, 2) := by decide +kernel
theorem dX11_begins_138 : decode cX11_begins 138 = .ok (.iload_n 3, 1) := by decide +kernel
theorem dX11_begins_139 : decode cX11_begins 139 = .ok (.if_icmp .ne 8, 3) := by decide +kernel
theorem dX11_begins_142 : decode cX11_begins 142 = .ok (.iload 4, 2) := by decide +kernel
theorem dX11_begins_144 : decode cX11_begins 144 = .ok (.goto 15, 3) := by decide +kernel
theorem dX11_begins_147 : decode cX11_begins 147 = .ok (.aload_n 0, 1) := by decide +kernel
theorem dX11_begins_148 : decode cX11_begins 148 = .ok (.getfield 7, 3) := by decide +kernel
theorem dX11_begins_151 : decode cX11_begins 151 = .ok (.iload 6, 2) := by decide +kernel
theorem dX11_begins_153 : decode cX11_begins 153 = .ok (.iconst 1, 1) := by decide +kernel
theorem dX11_begins_154 : decode cX11_begins 154 = .ok (.iadd, 1) := by decide +kernel
theorem dX11_begins_155 : decode cX11_begins 155 = .ok (.iload 7, 2) := by decide +kernel
theorem dX11_begins_157 : decode cX11_begins 157 = .ok (.iadd, 1) := by decide +kernel
theorem dX11_begins_158 : decode cX11_begins 158 = .ok (.iaload, 1) := by decide +kernel
theorem dX11_begins_159 : decode cX11_begins 159 = .ok (.iastore, 1) := by decide +kernel
theorem dX11_begins_160 : decode cX11_begins 160 = .ok (.iinc 7 1, 3) := by decide +kernel
theorem dX11_begins_163 : decode cX11_begins 163 = .ok (.goto (-57), 3) := by decide +kernel
theorem dX11_begins_166 : decode cX11_begins 166 = .ok (.aload_n 0, 1) := by decide +kernel
theorem dX11_begins_167 : decode cX11_begins 167 = .ok (.getfield 22, 3) := by decide +kernel
theorem dX11_begins_170 : decode cX11_begins 170 = .ok (.bipush 8, 2) := by decide +kernel
theorem dX11_begins_172 : decode cX11_begins 172 = .ok (.iload_n 2, 1) := by decide +kernel
theorem dX11_begins_173 : decode cX11_begins 173 = .ok (.imul, 1) := by decide +kernel
theorem dX11_begins_174 : decode cX11_begins 174 = .ok (.iconst 5, 1) := by decide +kernel
theorem dX11_begins_175 : decode cX11_begins 175 = .ok (.iadd, 1) := by decide +kernel
theorem dX11_begins_176 : decode cX11_begins 176 = .ok (.iconst 0, 1) := by decide +kernel
theorem dX11_begins_177 : decode cX11_begins 177 = .ok (.iastore, 1) := by decide +kernel
theorem dX11_begins_178 : decode cX11_begins 178 = .ok (.aload_n 0, 1) := by decide +kernel
theorem dX11_begins_179 : decode cX11_begins 179 = .ok (.getfield 22, 3) := by decide +kernel
theorem dX11_begins_182 : decode cX11_begins 182 = .ok (.bipush 8, 2) := by decide +kernel
theorem dX11_begins_184 : decode cX11_begins 184 = .ok (.iload_n 2, 1) := by decide +kernel
theorem dX11_begins_185 : decode cX11_begins 185 = .ok (.imul, 1) := by decide +kernel
theorem dX11_begins_186 : decode cX11_begins 186 = .ok (.bipush 6, 2) := by decide +kernel
theorem dX11_begins_188 : decode cX11_begins 188 = .ok (.iadd, 1) := by decide +kernel
theorem dX11_begins_189 : decode cX11_begins 189 = .ok (.iconst 0, 1) := by decide +kernel
theorem dX11_begins_190 : decode cX11_begins 190 = .ok (.iastore, 1) := by decide +kernel
theorem dX11_begins_191 : decode cX11_begins 191 = .ok (.iconst 1, 1) := by decide +kernel
theorem dX11_begins_192 : decode cX11_begins 192 = .ok (.ireturn, 1) := by decide +kernel
theorem dX11_carriesOut_0 : decode cX11_carriesOut 0 = .ok (.aload_n 0, 1) := by decide +kernel
theorem dX11_carriesOut_1 : decode cX11_carriesOut 1 = .ok (.getfield 22, 3) := by decide +kernel
theorem dX11_carriesOut_4 : decode cX11_carriesOut 4 = .ok (.bipush 8, 2) := by decide +kernel
theorem dX11_carriesOut_6 : decode cX11_carriesOut 6 = .ok (.iload_n 2, 1) := by decide +kernel
theorem dX11_carriesOut_7 : decode cX11_carriesOut 7 = .ok (.imul, 1) := by decide +kernel
theorem dX11_carriesOut_8 : decode cX11_carriesOut 8 = .ok (.iconst 0, 1) := by decide +kernel
theorem dX11_carriesOut_9 : decode cX11_carriesOut 9 = .ok (.iadd, 1) := by decide +kernel
theorem dX11_carriesOut_10 : decode cX11_carriesOut 10 = .ok (.iaload, 1) := by decide +kernel
theorem dX11_carriesOut_11 : decode cX11_carriesOut 11 = .ok (.istore_n 3, 1) := by decide +kernel
theorem dX11_carriesOut_12 : decode cX11_carriesOut 12 = .ok (.iload_n 3, 1) := by decide +kernel
theorem dX11_carriesOut_13 : decode cX11_carriesOut 13 = .ok (.iconst 2, 1) := by decide +kernel
theorem dX11_carriesOut_14 : decode cX11_carriesOut 14 = .ok (.if_icmp .ne 85, 3) := by decide +kernel
theorem dX11_carriesOut_17 : decode cX11_carriesOut 17 = .ok (.aload_n 0, 1) := by decide +kernel
theorem dX11_carriesOut_18 : decode cX11_carriesOut 18 = .ok (.iload_n 1, 1) := by decide +kernel
theorem dX11_carriesOut_19 : decode cX11_carriesOut 19 = .ok (.aload_n 0, 1) := by decide +kernel
theorem dX11_carriesOut_20 : decode cX11_carriesOut 20 = .ok (.getfield 22, 3) := by decide +kernel
theorem dX11_carriesOut_23 : decode cX11_carriesOut 23 = .ok (.bipush 8, 2) := by decide +kernel
theorem dX11_carriesOut_25 : decode cX11_carriesOut 25 = .ok (.iload_n 2, 1) := by decide +kernel
theorem dX11_carriesOut_26 : decode cX11_carriesOut 26 = .ok (.imul, 1) := by decide +kernel
theorem dX11_carriesOut_27 : decode cX11_carriesOut 27 = .ok (.iconst 1, 1) := by decide +kernel
theorem dX11_carriesOut_28 : decode cX11_carriesOut 28 = .ok (.iadd, 1) := by decide +kernel
theorem dX11_carriesOut_29 : decode cX11_carriesOut 29 = .ok (.iaload, 1) := by decide +kernel
theorem dX11_carriesOut_30 : decode cX11_carriesOut 30 = .ok (.invokevirtual 54, 3) := by decide +kernel
theorem dX11_carriesOut_33 : decode cX11_carriesOut 33 = .ok (.istore 4, 2) := by decide +kernel
theorem dX11_carriesOut_35 : decode cX11_carriesOut 35 = .ok (.aload_n 0, 1) := by decide +kernel
theorem dX11_carriesOut_36 : decode cX11_carriesOut 36 = .ok (.getfield 7, 3) := by decide +kernel
theorem dX11_carriesOut_39 : decode cX11_carriesOut 39 = .ok (.iload_n 1, 1) := by decide +kernel
theorem dX11_carriesOut_40 : decode cX11_carriesOut 40 = .ok (.iconst 0, 1) := by decide +kernel
theorem dX11_carriesOut_41 : decode cX11_carriesOut 41 = .ok (.iadd, 1) := by decide +kernel
theorem dX11_carriesOut_42 : decode cX11_carriesOut 42 = .ok (.dup2, 1) := by decide +kernel
theorem dX11_carriesOut_43 : decode cX11_carriesOut 43 = .ok (.iaload, 1) := by decide +kernel
theorem dX11_carriesOut_44 : decode cX11_carriesOut 44 = .ok (.iconst 1, 1) := by decide +kernel
theorem dX11_carriesOut_45 : decode cX11_carriesOut 45 = .ok (.isub, 1) := by decide +kernel
theorem dX11_carriesOut_46 : decode cX11_carriesOut 46 = .ok (.iastore, 1) := by decide +kernel
theorem dX11_carriesOut_47 : decode cX11_carriesOut 47 = .ok (.iload_n 1, 1) := by decide +kernel
theorem dX11_carriesOut_48 : decode cX11_carriesOut 48 = .ok (.iconst 1, 1) := by decide +kernel
theorem dX11_carriesOut_49 : decode cX11_carriesOut 49 = .ok (.iadd, 1) := by decide +kernel
theorem dX11_carriesOut_50 : decode cX11_carriesOut 50 = .ok (.iconst 4, 1) := by decide +kernel
theorem dX11_carriesOut_51 : decode cX11_carriesOut 51 = .ok (.aload_n 0, 1) := by decide +kernel
theorem dX11_carriesOut_52 : decode cX11_carriesOut 52 = .ok (.getfield 7, 3) := by decide +kernel
theorem dX11_carriesOut_55 : decode cX11_carriesOut 55 = .ok (.iload_n 1, 1) := by decide +kernel
theorem dX11_carriesOut_56 : decode cX11_carriesOut 56 = .ok (.iconst 0, 1) := by decide +kernel
theorem dX11_carriesOut_57 : decode cX11_carriesOut 57 = .ok (.iadd, 1) := by decide +kernel
theorem dX11_carriesOut_58 : decode cX11_carriesOut 58 = .ok (.iaload, 1) := by decide +kernel
theorem dX11_carriesOut_59 : decode cX11_carriesOut 59 = .ok (.imul, 1) := by decide +kernel
theorem dX11_carriesOut_60 : decode cX11_carriesOut 60 = .ok (.iadd, 1) := by decide +kernel
theorem dX11_carriesOut_61 : decode cX11_carriesOut 61 = .ok (.istore 5, 2) := by decide +kernel
theorem dX11_carriesOut_63 : decode cX11_carriesOut 63 = .ok (.iconst 0, 1) := by decide +kernel
theorem dX11_carriesOut_64 : decode cX11_carriesOut 64 = .ok (.istore 6, 2) := by decide +kernel
theorem dX11_carriesOut_66 : decode cX11_carriesOut 66 = .ok (.iload 6, 2) := by decide +kernel
theorem dX11_carriesOut_68 : decode cX11_carriesOut 68 = .ok (.iconst 4, 1) := by decide +kernel
theorem dX11_carriesOut_69 : decode cX11_carriesOut 69 = .ok (.if_icmp .ge 29, 3) := by decide +kernel
theorem dX11_carriesOut_72 : decode cX11_carriesOut 72 = .ok (.aload_n 0, 1) := by decide +kernel
theorem dX11_carriesOut_73 : decode cX11_carriesOut 73 = .ok (.getfield 7, 3) := by decide +kernel
theorem dX11_carriesOut_76 : decode cX11_carriesOut 76 = .ok (.iload 4, 2) := by decide +kernel
theorem dX11_carriesOut_78 : decode cX11_carriesOut 78 = .ok (.iload 6, 2) := by decide +kernel
theorem dX11_carriesOut_80 : decode cX11_carriesOut 80 = .ok (.iadd, 1) := by decide +kernel
theorem dX11_carriesOut_81 : decode cX11_carriesOut 81 = .ok (.aload_n 0, 1) := by decide +kernel
theorem dX11_carriesOut_82 : decode cX11_carriesOut 82 = .ok (.getfield 7, 3) := by decide +kernel
theorem dX11_carriesOut_85 : decode cX11_carriesOut 85 = .ok (.iload 5, 2) := by decide +kernel
theorem dX11_carriesOut_87 : decode cX11_carriesOut 87 = .ok (.iload 6, 2) := by decide +kernel
theorem dX11_carriesOut_89 : decode cX11_carriesOut 89 = .ok (.iadd, 1) := by decide +kernel
theorem dX11_carriesOut_90 : decode cX11_carriesOut 90 = .ok (.iaload, 1) := by decide +kernel
theorem dX11_carriesOut_91 : decode cX11_carriesOut 91 = .ok (.iastore, 1) := by decide +kernel
theorem dX11_carriesOut_92 : decode cX11_carriesOut 92 = .ok (.iinc 6 1, 3) := by decide +kernel
theorem dX11_carriesOut_95 : decode cX11_carriesOut 95 = .ok (.goto (-29), 3) := by decide +kernel
theorem dX11_carriesOut_98 : decode cX11_carriesOut 98 = .ok (.return_, 1) := by decide +kernel
theorem dX11_carriesOut_99 : decode cX11_carriesOut 99 = .ok (.iload_n 3, 1) := by decide +kernel
theorem dX11_carriesOut_100 : decode cX11_carriesOut 100 = .ok (.ifCond .ne 20, 3) := by decide +kernel
theorem dX11_carriesOut_103 : decode cX11_carriesOut 103 = .ok (.iload_n 1, 1) := by decide +kernel
theorem dX11_carriesOut_104 : decode cX11_carriesOut 104 = .ok (.iconst 1, 1) := by decide +kernel
theorem dX11_carriesOut_105 : decode cX11_carriesOut 105 = .ok (.iadd, 1) := by decide +kernel
theorem dX11_carriesOut_106 : decode cX11_carriesOut 106 = .ok (.iconst 4, 1) := by decide +kernel
theorem dX11_carriesOut_107 : decode cX11_carriesOut 107 = .ok (.aload_n 0, 1) := by decide +kernel
theorem dX11_carriesOut_108 : decode cX11_carriesOut 108 = .ok (.getfield 7, 3) := by decide +kernel
theorem dX11_carriesOut_111 : decode cX11_carriesOut 111 = .ok (.iload_n 1, 1) := by decide +kernel
theorem dX11_carriesOut_112 : decode cX11_carriesOut 112 = .ok (.iconst 0, 1) := by decide +kernel
theorem dX11_carriesOut_113 : decode cX11_carriesOut 113 = .ok (.iadd, 1) := by decide +kernel
theorem dX11_carriesOut_114 : decode cX11_carriesOut 114 = .ok (.iaload, 1) := by decide +kernel
theorem dX11_carriesOut_115 : decode cX11_carriesOut 115 = .ok (.imul, 1) := by decide +kernel
theorem dX11_carriesOut_116 : decode cX11_carriesOut 116 = .ok (.iadd, 1) := by decide +kernel
theorem dX11_carriesOut_117 : decode cX11_carriesOut 117 = .ok (.goto 19, 3) := by decide +kernel
theorem dX11_carriesOut_120 : decode cX11_carriesOut 120 = .ok (.aload_n 0, 1) := by decide +kernel
theorem dX11_carriesOut_121 : decode cX11_carriesOut 121 = .ok (.iload_n 1, 1) := by decide +kernel
theorem dX11_carriesOut_122 : decode cX11_carriesOut 122 = .ok (.aload_n 0, 1) := by decide +kernel
theorem dX11_carriesOut_123 : decode cX11_carriesOut 123 = .ok (.getfield 22, 3) := by decide +kernel
theorem dX11_carriesOut_126 : decode cX11_carriesOut 126 = .ok (.bipush 8, 2) := by decide +kernel
theorem dX11_carriesOut_128 : decode cX11_carriesOut 128 = .ok (.iload_n 2, 1) := by decide +kernel
theorem dX11_carriesOut_129 : decode cX11_carriesOut 129 = .ok (.imul, 1) := by decide +kernel
theorem dX11_carriesOut_130 : decode cX11_carriesOut 130 = .ok (.iconst 1, 1) := by decide +kernel
theorem dX11_carriesOut_131 : decode cX11_carriesOut 131 = .ok (.iadd, 1) := by decide +kernel
theorem dX11_carriesOut_132 : decode cX11_carriesOut 132 = .ok (.iaload, 1) := by decide +kernel
theorem dX11_carriesOut_133 : decode cX11_carriesOut 133 = .ok (.invokevirtual 54, 3) := by decide +kernel
theorem dX11_carriesOut_136 : decode cX11_carriesOut 136 = .ok (.istore 4, 2) := by decide +kernel
theorem dX11_carriesOut_138 : decode cX11_carriesOut 138 = .ok (.aload_n 0, 1) := by decide +kernel
theorem dX11_carriesOut_139 : decode cX11_carriesOut 139 = .ok (.getfield 7, 3) := by decide +kernel
theorem dX11_carriesOut_142 : decode cX11_carriesOut 142 = .ok (.iload_n 1, 1) := by decide +kernel
theorem dX11_carriesOut_143 : decode cX11_carriesOut 143 = .ok (.iconst 0, 1) := by decide +kernel
theorem dX11_carriesOut_144 : decode cX11_carriesOut 144 = .ok (.iadd, 1) := by decide +kernel
theorem dX11_carriesOut_145 : decode cX11_carriesOut 145 = .ok (.dup2, 1) := by decide +kernel
theorem dX11_carriesOut_146 : decode cX11_carriesOut 146 = .ok (.iaload, 1) := by decide +kernel
theorem dX11_carriesOut_147 : decode cX11_carriesOut 147 = .ok (.iload_n 3, 1) := by decide +kernel
theorem dX11_carriesOut_148 : decode cX11_carriesOut 148 = .ok (.ifCond .ne 7, 3) := by decide +kernel
theorem dX11_carriesOut_151 : decode cX11_carriesOut 151 = .ok (.iconst 1, 1) := by decide +kernel
theorem dX11_carriesOut_152 : decode cX11_carriesOut 152 = .ok (.goto 4, 3) := by decide +kernel
theorem dX11_carriesOut_155 : decode cX11_carriesOut 155 = .ok (.iconst 0, 1) := by decide +kernel
theorem dX11_carriesOut_156 : decode cX11_carriesOut 156 = .ok (.iadd, 1) := by decide +kernel
theorem dX11_carriesOut_157 : decode cX11_carriesOut 157 = .ok (.iastore, 1) := by decide +kernel
theorem dX11_carriesOut_158 : decode cX11_carriesOut 158 = .ok (.iconst 0, 1) := by decide +kernel
theorem dX11_carriesOut_159 : decode cX11_carriesOut 159 = .ok (.istore 5, 2) := by decide +kernel
theorem dX11_carriesOut_161 : decode cX11_carriesOut 161 = .ok (.iload 5, 2) := by decide +kernel
theorem dX11_carriesOut_163 : decode cX11_carriesOut 163 = .ok (.iconst 4, 1) := by decide +kernel
theorem dX11_carriesOut_164 : decode cX11_carriesOut 164 = .ok (.if_icmp .ge 33, 3) := by decide +kernel
theorem dX11_carriesOut_167 : decode cX11_carriesOut 167 = .ok (.aload_n 0, 1) := by decide +kernel
theorem dX11_carriesOut_168 : decode cX11_carriesOut 168 = .ok (.getfield 7, 3) := by decide +kernel
theorem dX11_carriesOut_171 : decode cX11_carriesOut 171 = .ok (.iload 4, 2) := by decide +kernel
theorem dX11_carriesOut_173 : decode cX11_carriesOut 173 = .ok (.iload 5, 2) := by decide +kernel
theorem dX11_carriesOut_175 : decode cX11_carriesOut 175 = .ok (.iadd, 1) := by decide +kernel
theorem dX11_carriesOut_176 : decode cX11_carriesOut 176 = .ok (.aload_n 0, 1) := by decide +kernel
theorem dX11_carriesOut_177 : decode cX11_carriesOut 177 = .ok (.getfield 22, 3) := by decide +kernel
theorem dX11_carriesOut_180 : decode cX11_carriesOut 180 = .ok (.bipush 8, 2) := by decide +kernel
theorem dX11_carriesOut_182 : decode cX11_carriesOut 182 = .ok (.iload_n 2, 1) := by decide +kernel
theorem dX11_carriesOut_183 : decode cX11_carriesOut 183 = .ok (.imul, 1) := by decide +kernel
theorem dX11_carriesOut_184 : decode cX11_carriesOut 184 = .ok (.iconst 1, 1) := by decide +kernel
theorem dX11_carriesOut_185 : decode cX11_carriesOut 185 = .ok (.iadd, 1) := by decide +kernel
theorem dX11_carriesOut_186 : decode cX11_carriesOut 186 = .ok (.iload 5, 2) := by decide +kernel
theorem dX11_carriesOut_188 : decode cX11_carriesOut 188 = .ok (.iadd, 1) := by decide +kernel
theorem dX11_carriesOut_189 : decode cX11_carriesOut 189 = .ok (.iaload, 1) := by decide +kernel
theorem dX11_carriesOut_190 : decode cX11_carriesOut 190 = .ok (.iastore, 1) := by decide +kernel
theorem dX11_carriesOut_191 : decode cX11_carriesOut 191 = .ok (.iinc 5 1, 3) := by decide +kernel
theorem dX11_carriesOut_194 : decode cX11_carriesOut 194 = .ok (.goto (-33), 3) := by decide +kernel
theorem dX11_carriesOut_197 : decode cX11_carriesOut 197 = .ok (.return_, 1) := by decide +kernel
theorem dX11_compares_0 : decode cX11_compares 0 = .ok (.iload_n 1, 1) := by decide +kernel
theorem dX11_compares_1 : decode cX11_compares 1 = .ok (.tableswitch 90 0 4 #[35, 46, 57, 68, 79], 35) := by decide +kernel
theorem dX11_compares_36 : decode cX11_compares 36 = .ok (.iload_n 0, 1) := by decide +kernel
theorem dX11_compares_37 : decode cX11_compares 37 = .ok (.iload_n 2, 1) := by decide +kernel
theorem dX11_compares_38 : decode cX11_compares 38 = .ok (.if_icmp .ge 7, 3) := by decide +kernel
theorem dX11_compares_41 : decode cX11_compares 41 = .ok (.iconst 1, 1) := by decide +kernel
theorem dX11_compares_42 : decode cX11_compares 42 = .ok (.goto 4, 3) := by decide +kernel
theorem dX11_compares_45 : decode cX11_compares 45 = .ok (.iconst 0, 1) := by decide +kernel
theorem dX11_compares_46 : decode cX11_compares 46 = .ok (.ireturn, 1) := by decide +kernel
theorem dX11_compares_47 : decode cX11_compares 47 = .ok (.iload_n 0, 1) := by decide +kernel
theorem dX11_compares_48 : decode cX11_compares 48 = .ok (.iload_n 2, 1) := by decide +kernel
theorem dX11_compares_49 : decode cX11_compares 49 = .ok (.if_icmp .gt 7, 3) := by decide +kernel
theorem dX11_compares_52 : decode cX11_compares 52 = .ok (.iconst 1, 1) := by decide +kernel
theorem dX11_compares_53 : decode cX11_compares 53 = .ok (.goto 4, 3) := by decide +kernel
theorem dX11_compares_56 : decode cX11_compares 56 = .ok (.iconst 0, 1) := by decide +kernel
theorem dX11_compares_57 : decode cX11_compares 57 = .ok (.ireturn, 1) := by decide +kernel
theorem dX11_compares_58 : decode cX11_compares 58 = .ok (.iload_n 0, 1) := by decide +kernel
theorem dX11_compares_59 : decode cX11_compares 59 = .ok (.iload_n 2, 1) := by decide +kernel
theorem dX11_compares_60 : decode cX11_compares 60 = .ok (.if_icmp .ne 7, 3) := by decide +kernel
theorem dX11_compares_63 : decode cX11_compares 63 = .ok (.iconst 1, 1) := by decide +kernel
theorem dX11_compares_64 : decode cX11_compares 64 = .ok (.goto 4, 3) := by decide +kernel
theorem dX11_compares_67 : decode cX11_compares 67 = .ok (.iconst 0, 1) := by decide +kernel
theorem dX11_compares_68 : decode cX11_compares 68 = .ok (.ireturn, 1) := by decide +kernel
theorem dX11_compares_69 : decode cX11_compares 69 = .ok (.iload_n 0, 1) := by decide +kernel
theorem dX11_compares_70 : decode cX11_compares 70 = .ok (.iload_n 2, 1) := by decide +kernel
theorem dX11_compares_71 : decode cX11_compares 71 = .ok (.if_icmp .eq 7, 3) := by decide +kernel
theorem dX11_compares_74 : decode cX11_compares 74 = .ok (.iconst 1, 1) := by decide +kernel
theorem dX11_compares_75 : decode cX11_compares 75 = .ok (.goto 4, 3) := by decide +kernel
theorem dX11_compares_78 : decode cX11_compares 78 = .ok (.iconst 0, 1) := by decide +kernel
theorem dX11_compares_79 : decode cX11_compares 79 = .ok (.ireturn, 1) := by decide +kernel
theorem dX11_compares_80 : decode cX11_compares 80 = .ok (.iload_n 0, 1) := by decide +kernel
theorem dX11_compares_81 : decode cX11_compares 81 = .ok (.iload_n 2, 1) := by decide +kernel
theorem dX11_compares_82 : decode cX11_compares 82 = .ok (.if_icmp .lt 7, 3) := by decide +kernel
theorem dX11_compares_85 : decode cX11_compares 85 = .ok (.iconst 1, 1) := by decide +kernel
theorem dX11_compares_86 : decode cX11_compares 86 = .ok (.goto 4, 3) := by decide +kernel
theorem dX11_compares_89 : decode cX11_compares 89 = .ok (.iconst 0, 1) := by decide +kernel
theorem dX11_compares_90 : decode cX11_compares 90 = .ok (.ireturn, 1) := by decide +kernel
theorem dX11_compares_91 : decode cX11_compares 91 = .ok (.iload_n 0, 1) := by decide +kernel
theorem dX11_compares_92 : decode cX11_compares 92 = .ok (.iload_n 2, 1) := by decide +kernel
theorem dX11_compares_93 : decode cX11_compares 93 = .ok (.if_icmp .le 7, 3) := by decide +kernel
theorem dX11_compares_96 : decode cX11_compares 96 = .ok (.iconst 1, 1) := by decide +kernel
theorem dX11_compares_97 : decode cX11_compares 97 = .ok (.goto 4, 3) := by decide +kernel
theorem dX11_compares_100 : decode cX11_compares 100 = .ok (.iconst 0, 1) := by decide +kernel
theorem dX11_compares_101 : decode cX11_compares 101 = .ok (.ireturn, 1) := by decide +kernel
theorem dX11_isFiring_0 : decode cX11_isFiring 0 = .ok (.iconst 0, 1) := by decide +kernel
theorem dX11_isFiring_1 : decode cX11_isFiring 1 = .ok (.istore_n 3, 1) := by decide +kernel
theorem dX11_isFiring_2 : decode cX11_isFiring 2 = .ok (.iconst 2, 1) := by decide +kernel
theorem dX11_isFiring_3 : decode cX11_isFiring 3 = .ok (.istore 4, 2) := by decide +kernel
theorem dX11_isFiring_5 : decode cX11_isFiring 5 = .ok (.iload 4, 2) := by decide +kernel
theorem dX11_isFiring_7 : decode cX11_isFiring 7 = .ok (.iload_n 2, 1) := by decide +kernel
theorem dX11_isFiring_8 : decode cX11_isFiring 8 = .ok (.if_icmp .gt 36, 3) := by decide +kernel
theorem dX11_isFiring_11 : decode cX11_isFiring 11 = .ok (.iload_n 3, 1) := by decide +kernel
theorem dX11_isFiring_12 : decode cX11_isFiring 12 = .ok (.ifCond .ne 20, 3) := by decide +kernel
theorem dX11_isFiring_15 : decode cX11_isFiring 15 = .ok (.aload_n 0, 1) := by decide +kernel
theorem dX11_isFiring_16 : decode cX11_isFiring 16 = .ok (.getfield 22, 3) := by decide +kernel
theorem dX11_isFiring_19 : decode cX11_isFiring 19 = .ok (.bipush 8, 2) := by decide +kernel
theorem dX11_isFiring_21 : decode cX11_isFiring 21 = .ok (.iload 4, 2) := by decide +kernel
theorem dX11_isFiring_23 : decode cX11_isFiring 23 = .ok (.imul, 1) := by decide +kernel
theorem dX11_isFiring_24 : decode cX11_isFiring 24 = .ok (.bipush 7, 2) := by decide +kernel
theorem dX11_isFiring_26 : decode cX11_isFiring 26 = .ok (.iadd, 1) := by decide +kernel
theorem dX11_isFiring_27 : decode cX11_isFiring 27 = .ok (.iaload, 1) := by decide +kernel
theorem dX11_isFiring_28 : decode cX11_isFiring 28 = .ok (.iload_n 1, 1) := by decide +kernel
theorem dX11_isFiring_29 : decode cX11_isFiring 29 = .ok (.if_icmp .ne 7, 3) := by decide +kernel
theorem dX11_isFiring_32 : decode cX11_isFiring 32 = .ok (.iconst 1, 1) := by decide +kernel
theorem dX11_isFiring_33 : decode cX11_isFiring 33 = .ok (.goto 4, 3) := by decide +kernel
theorem dX11_isFiring_36 : decode cX11_isFiring 36 = .ok (.iconst 0, 1) := by decide +kernel
theorem dX11_isFiring_37 : decode cX11_isFiring 37 = .ok (.istore_n 3, 1) := by decide +kernel
theorem dX11_isFiring_38 : decode cX11_isFiring 38 = .ok (.iinc 4 1, 3) := by decide +kernel
theorem dX11_isFiring_41 : decode cX11_isFiring 41 = .ok (.goto (-36), 3) := by decide +kernel
theorem dX11_isFiring_44 : decode cX11_isFiring 44 = .ok (.iload_n 3, 1) := by decide +kernel
theorem dX11_isFiring_45 : decode cX11_isFiring 45 = .ok (.ireturn, 1) := by decide +kernel
theorem dX11_fires_0 : decode cX11_fires 0 = .ok (.iload_n 1, 1) := by decide +kernel
theorem dX11_fires_1 : decode cX11_fires 1 = .ok (.iload_n 2, 1) := by decide +kernel
theorem dX11_fires_2 : decode cX11_fires 2 = .ok (.invokestatic 40, 3) := by decide +kernel
theorem dX11_fires_5 : decode cX11_fires 5 = .ok (.istore 4, 2) := by decide +kernel
theorem dX11_fires_7 : decode cX11_fires 7 = .ok (.aload_n 0, 1) := by decide +kernel
theorem dX11_fires_8 : decode cX11_fires 8 = .ok (.getfield 7, 3) := by decide +kernel
theorem dX11_fires_11 : decode cX11_fires 11 = .ok (.iload_n 1, 1) := by decide +kernel
theorem dX11_fires_12 : decode cX11_fires 12 = .ok (.sipush 227, 3) := by decide +kernel
theorem dX11_fires_15 : decode cX11_fires 15 = .ok (.iadd, 1) := by decide +kernel
theorem dX11_fires_16 : decode cX11_fires 16 = .ok (.iaload, 1) := by decide +kernel
theorem dX11_fires_17 : decode cX11_fires 17 = .ok (.iconst 1, 1) := by decide +kernel
theorem dX11_fires_18 : decode cX11_fires 18 = .ok (.if_icmp .ne 16, 3) := by decide +kernel
theorem dX11_fires_21 : decode cX11_fires 21 = .ok (.aload_n 0, 1) := by decide +kernel
theorem dX11_fires_22 : decode cX11_fires 22 = .ok (.iload_n 2, 1) := by decide +kernel
theorem dX11_fires_23 : decode cX11_fires 23 = .ok (.iload_n 3, 1) := by decide +kernel
theorem dX11_fires_24 : decode cX11_fires 24 = .ok (.invokevirtual 73, 3) := by decide +kernel
theorem dX11_fires_27 : decode cX11_fires 27 = .ok (.ifCond .eq 7, 3) := by decide +kernel
theorem dX11_fires_30 : decode cX11_fires 30 = .ok (.iconst 1, 1) := by decide +kernel
theorem dX11_fires_31 : decode cX11_fires 31 = .ok (.goto 4, 3) := by decide +kernel
theorem dX11_fires_34 : decode cX11_fires 34 = .ok (.iconst 0, 1) := by decide +kernel
theorem dX11_fires_35 : decode cX11_fires 35 = .ok (.istore 5, 2) := by decide +kernel
theorem dX11_fires_37 : decode cX11_fires 37 = .ok (.aload_n 0, 1) := by decide +kernel
theorem dX11_fires_38 : decode cX11_fires 38 = .ok (.iload_n 3, 1) := by decide +kernel
theorem dX11_fires_39 : decode cX11_fires 39 = .ok (.aload_n 0, 1) := by decide +kernel
theorem dX11_fires_40 : decode cX11_fires 40 = .ok (.getfield 7, 3) := by decide +kernel
theorem dX11_fires_43 : decode cX11_fires 43 = .ok (.iload 4, 2) := by decide +kernel
theorem dX11_fires_45 : decode cX11_fires 45 = .ok (.bipush 7, 2) := by decide +kernel
theorem dX11_fires_47 : decode cX11_fires 47 = .ok (.iadd, 1) := by decide +kernel
theorem dX11_fires_48 : decode cX11_fires 48 = .ok (.iaload, 1) := by decide +kernel
theorem dX11_fires_49 : decode cX11_fires 49 = .ok (.invokevirtual 77, 3) := by decide +kernel
theorem dX11_fires_52 : decode cX11_fires 52 = .ok (.istore 6, 2) := by decide +kernel
theorem dX11_fires_54 : decode cX11_fires 54 = .ok (.aload_n 0, 1) := by decide +kernel
theorem dX11_fires_55 : decode cX11_fires 55 = .ok (.getfield 7, 3) := by decide +kernel
theorem dX11_fires_58 : decode cX11_fires 58 = .ok (.iload 4, 2) := by decide +kernel
theorem dX11_fires_60 : decode cX11_fires 60 = .ok (.bipush 10, 2) := by decide +kernel
theorem dX11_fires_62 : decode cX11_fires 62 = .ok (.iadd, 1) := by decide +kernel
theorem dX11_fires_63 : decode cX11_fires 63 = .ok (.iaload, 1) := by decide +kernel
theorem dX11_fires_64 : decode cX11_fires 64 = .ok (.iconst 1, 1) := by decide +kernel
theorem dX11_fires_65 : decode cX11_fires 65 = .ok (.if_icmp .ne 40, 3) := by decide +kernel
theorem dX11_fires_68 : decode cX11_fires 68 = .ok (.iload 5, 2) := by decide +kernel
theorem dX11_fires_70 : decode cX11_fires 70 = .ok (.ifCond .ne 35, 3) := by decide +kernel
theorem dX11_fires_73 : decode cX11_fires 73 = .ok (.iload 6, 2) := by decide +kernel
theorem dX11_fires_75 : decode cX11_fires 75 = .ok (.aload_n 0, 1) := by decide +kernel
theorem dX11_fires_76 : decode cX11_fires 76 = .ok (.getfield 7, 3) := by decide +kernel
theorem dX11_fires_79 : decode cX11_fires 79 = .ok (.iload 4, 2) := by decide +kernel
theorem dX11_fires_81 : decode cX11_fires 81 = .ok (.bipush 8, 2) := by decide +kernel
theorem dX11_fires_83 : decode cX11_fires 83 = .ok (.iadd, 1) := by decide +kernel
theorem dX11_fires_84 : decode cX11_fires 84 = .ok (.iaload, 1) := by decide +kernel
theorem dX11_fires_85 : decode cX11_fires 85 = .ok (.aload_n 0, 1) := by decide +kernel
theorem dX11_fires_86 : decode cX11_fires 86 = .ok (.getfield 7, 3) := by decide +kernel
theorem dX11_fires_89 : decode cX11_fires 89 = .ok (.iload 4, 2) := by decide +kernel
theorem dX11_fires_91 : decode cX11_fires 91 = .ok (.bipush 9, 2) := by decide +kernel
theorem dX11_fires_93 : decode cX11_fires 93 = .ok (.iadd, 1) := by decide +kernel
theorem dX11_fires_94 : decode cX11_fires 94 = .ok (.iaload, 1) := by decide +kernel
theorem dX11_fires_95 : decode cX11_fires 95 = .ok (.invokestatic 80, 3) := by decide +kernel
theorem dX11_fires_98 : decode cX11_fires 98 = .ok (.ifCond .eq 7, 3) := by decide +kernel
theorem dX11_fires_101 : decode cX11_fires 101 = .ok (.iconst 1, 1) := by decide +kernel
theorem dX11_fires_102 : decode cX11_fires 102 = .ok (.goto 4, 3) := by decide +kernel
theorem dX11_fires_105 : decode cX11_fires 105 = .ok (.iconst 0, 1) := by decide +kernel
theorem dX11_fires_106 : decode cX11_fires 106 = .ok (.ireturn, 1) := by decide +kernel
theorem dX11_valueOf_0 : decode cX11_valueOf 0 = .ok (.iload_n 1, 1) := by decide +kernel
theorem dX11_valueOf_1 : decode cX11_valueOf 1 = .ok (.iload_n 2, 1) := by decide +kernel
theorem dX11_valueOf_2 : decode cX11_valueOf 2 = .ok (.invokestatic 40, 3) := by decide +kernel
theorem dX11_valueOf_5 : decode cX11_valueOf 5 = .ok (.istore 4, 2) := by decide +kernel
theorem dX11_valueOf_7 : decode cX11_valueOf 7 = .ok (.aload_n 0, 1) := by decide +kernel
theorem dX11_valueOf_8 : decode cX11_valueOf 8 = .ok (.iload_n 3, 1) := by decide +kernel
theorem dX11_valueOf_9 : decode cX11_valueOf 9 = .ok (.aload_n 0, 1) := by decide +kernel
theorem dX11_valueOf_10 : decode cX11_valueOf 10 = .ok (.getfield 7, 3) := by decide +kernel
theorem dX11_valueOf_13 : decode cX11_valueOf 13 = .ok (.iload 4, 2) := by decide +kernel
theorem dX11_valueOf_15 : decode cX11_valueOf 15 = .ok (.iconst 5, 1) := by decide +kernel
theorem dX11_valueOf_16 : decode cX11_valueOf 16 = .ok (.iadd, 1) := by decide +kernel
theorem dX11_valueOf_17 : decode cX11_valueOf 17 = .ok (.iaload, 1) := by decide +kernel
theorem dX11_valueOf_18 : decode cX11_valueOf 18 = .ok (.invokevirtual 77, 3) := by decide +kernel
theorem dX11_valueOf_21 : decode cX11_valueOf 21 = .ok (.aload_n 0, 1) := by decide +kernel
theorem dX11_valueOf_22 : decode cX11_valueOf 22 = .ok (.getfield 7, 3) := by decide +kernel
theorem dX11_valueOf_25 : decode cX11_valueOf 25 = .ok (.iload 4, 2) := by decide +kernel
theorem dX11_valueOf_27 : decode cX11_valueOf 27 = .ok (.bipush 6, 2) := by decide +kernel
theorem dX11_valueOf_29 : decode cX11_valueOf 29 = .ok (.iadd, 1) := by decide +kernel
theorem dX11_valueOf_30 : decode cX11_valueOf 30 = .ok (.iaload, 1) := by decide +kernel
theorem dX11_valueOf_31 : decode cX11_valueOf 31 = .ok (.iadd, 1) := by decide +kernel
theorem dX11_valueOf_32 : decode cX11_valueOf 32 = .ok (.istore 5, 2) := by decide +kernel
theorem dX11_valueOf_34 : decode cX11_valueOf 34 = .ok (.iload 5, 2) := by decide +kernel
theorem dX11_valueOf_36 : decode cX11_valueOf 36 = .ok (.sipush (-999), 3) := by decide +kernel
theorem dX11_valueOf_39 : decode cX11_valueOf 39 = .ok (.if_icmp .ge 9, 3) := by decide +kernel
theorem dX11_valueOf_42 : decode cX11_valueOf 42 = .ok (.sipush (-999), 3) := by decide +kernel
theorem dX11_valueOf_45 : decode cX11_valueOf 45 = .ok (.goto 19, 3) := by decide +kernel
theorem dX11_valueOf_48 : decode cX11_valueOf 48 = .ok (.iload 5, 2) := by decide +kernel
theorem dX11_valueOf_50 : decode cX11_valueOf 50 = .ok (.sipush 999, 3) := by decide +kernel
theorem dX11_valueOf_53 : decode cX11_valueOf 53 = .ok (.if_icmp .le 9, 3) := by decide +kernel
theorem dX11_valueOf_56 : decode cX11_valueOf 56 = .ok (.sipush 999, 3) := by decide +kernel
theorem dX11_valueOf_59 : decode cX11_valueOf 59 = .ok (.goto 5, 3) := by decide +kernel
theorem dX11_valueOf_62 : decode cX11_valueOf 62 = .ok (.iload 5, 2) := by decide +kernel
theorem dX11_valueOf_64 : decode cX11_valueOf 64 = .ok (.ireturn, 1) := by decide +kernel
theorem dX11_counts_0 : decode cX11_counts 0 = .ok (.aload_n 0, 1) := by decide +kernel
theorem dX11_counts_1 : decode cX11_counts 1 = .ok (.getfield 7, 3) := by decide +kernel
theorem dX11_counts_4 : decode cX11_counts 4 = .ok (.iload_n 1, 1) := by decide +kernel
theorem dX11_counts_5 : decode cX11_counts 5 = .ok (.sipush 232, 3) := by decide +kernel
theorem dX11_counts_8 : decode cX11_counts 8 = .ok (.iadd, 1) := by decide +kernel
theorem dX11_counts_9 : decode cX11_counts 9 = .ok (.iaload, 1) := by decide +kernel
theorem dX11_counts_10 : decode cX11_counts 10 = .ok (.istore 4, 2) := by decide +kernel
theorem dX11_counts_12 : decode cX11_counts 12 = .ok (.iload 4, 2) := by decide +kernel
theorem dX11_counts_14 : decode cX11_counts 14 = .ok (.bipush 60, 2) := by decide +kernel
theorem dX11_counts_16 : decode cX11_counts 16 = .ok (.if_icmp .ge 79, 3) := by decide +kernel
theorem dX11_counts_19 : decode cX11_counts 19 = .ok (.aload_n 0, 1) := by decide +kernel
theorem dX11_counts_20 : decode cX11_counts 20 = .ok (.getfield 7, 3) := by decide +kernel
theorem dX11_counts_23 : decode cX11_counts 23 = .ok (.iload_n 1, 1) := by decide +kernel
theorem dX11_counts_24 : decode cX11_counts 24 = .ok (.sipush 233, 3) := by decide +kernel
theorem dX11_counts_27 : decode cX11_counts 27 = .ok (.iadd, 1) := by decide +kernel
theorem dX11_counts_28 : decode cX11_counts 28 = .ok (.iconst 3, 1) := by decide +kernel
theorem dX11_counts_29 : decode cX11_counts 29 = .ok (.iload 4, 2) := by decide +kernel
theorem dX11_counts_31 : decode cX11_counts 31 = .ok (.imul, 1) := by decide +kernel
theorem dX11_counts_32 : decode cX11_counts 32 = .ok (.iadd, 1) := by decide +kernel
theorem dX11_counts_33 : decode cX11_counts 33 = .ok (.iload_n 2, 1) := by decide +kernel
theorem dX11_counts_34 : decode cX11_counts 34 = .ok (.iastore, 1) := by decide +kernel
theorem dX11_counts_35 : decode cX11_counts 35 = .ok (.aload_n 0, 1) := by decide +kernel
theorem dX11_counts_36 : decode cX11_counts 36 = .ok (.getfield 7, 3) := by decide +kernel
theorem dX11_counts_39 : decode cX11_counts 39 = .ok (.iload_n 1, 1) := by decide +kernel
theorem dX11_counts_40 : decode cX11_counts 40 = .ok (.sipush 233, 3) := by decide +kernel
theorem dX11_counts_43 : decode cX11_counts 43 = .ok (.iadd, 1) := by decide +kernel
theorem dX11_counts_44 : decode cX11_counts 44 = .ok (.iconst 3, 1) := by decide +kernel
theorem dX11_counts_45 : decode cX11_counts 45 = .ok (.iload 4, 2) := by decide +kernel
theorem dX11_counts_47 : decode cX11_counts 47 = .ok (.imul, 1) := by decide +kernel
theorem dX11_counts_48 : decode cX11_counts 48 = .ok (.iadd, 1) := by decide +kernel
theorem dX11_counts_49 : decode cX11_counts 49 = .ok (.iconst 1, 1) := by decide +kernel
theorem dX11_counts_50 : decode cX11_counts 50 = .ok (.iadd, 1) := by decide +kernel
theorem dX11_counts_51 : decode cX11_counts 51 = .ok (.iload_n 3, 1) := by decide +kernel
theorem dX11_counts_52 : decode cX11_counts 52 = .ok (.iastore, 1) := by decide +kernel
theorem dX11_counts_53 : decode cX11_counts 53 = .ok (.aload_n 0, 1) := by decide +kernel
theorem dX11_counts_54 : decode cX11_counts 54 = .ok (.getfield 7, 3) := by decide +kernel
theorem dX11_counts_57 : decode cX11_counts 57 = .ok (.iload_n 1, 1) := by decide +kernel
theorem dX11_counts_58 : decode cX11_counts 58 = .ok (.sipush 233, 3) := by decide +kernel
theorem dX11_counts_61 : decode cX11_counts 61 = .ok (.iadd, 1) := by decide +kernel
theorem dX11_counts_62 : decode cX11_counts 62 = .ok (.iconst 3, 1) := by decide +kernel
theorem dX11_counts_63 : decode cX11_counts 63 = .ok (.iload 4, 2) := by decide +kernel
theorem dX11_counts_65 : decode cX11_counts 65 = .ok (.imul, 1) := by decide +kernel
theorem dX11_counts_66 : decode cX11_counts 66 = .ok (.iadd, 1) := by decide +kernel
theorem dX11_counts_67 : decode cX11_counts 67 = .ok (.iconst 2, 1) := by decide +kernel
theorem dX11_counts_68 : decode cX11_counts 68 = .ok (.iadd, 1) := by decide +kernel
theorem dX11_counts_69 : decode cX11_counts 69 = .ok (.aload_n 0, 1) := by decide +kernel
theorem dX11_counts_70 : decode cX11_counts 70 = .ok (.getfield 22, 3) := by decide +kernel
theorem dX11_counts_73 : decode cX11_counts 73 = .ok (.bipush 8, 2) := by decide +kernel
theorem dX11_counts_75 : decode cX11_counts 75 = .ok (.iload_n 3, 1) := by decide +kernel
theorem dX11_counts_76 : decode cX11_counts 76 = .ok (.imul, 1) := by decide +kernel
theorem dX11_counts_77 : decode cX11_counts 77 = .ok (.iconst 1, 1) := by decide +kernel
theorem dX11_counts_78 : decode cX11_counts 78 = .ok (.iadd, 1) := by decide +kernel
theorem dX11_counts_79 : decode cX11_counts 79 = .ok (.iaload, 1) := by decide +kernel
theorem dX11_counts_80 : decode cX11_counts 80 = .ok (.iastore, 1) := by decide +kernel
theorem dX11_counts_81 : decode cX11_counts 81 = .ok (.aload_n 0, 1) := by decide +kernel
theorem dX11_counts_82 : decode cX11_counts 82 = .ok (.getfield 7, 3) := by decide +kernel
theorem dX11_counts_85 : decode cX11_counts 85 = .ok (.iload_n 1, 1) := by decide +kernel
theorem dX11_counts_86 : decode cX11_counts 86 = .ok (.sipush 232, 3) := by decide +kernel
theorem dX11_counts_89 : decode cX11_counts 89 = .ok (.iadd, 1) := by decide +kernel
theorem dX11_counts_90 : decode cX11_counts 90 = .ok (.dup2, 1) := by decide +kernel
theorem dX11_counts_91 : decode cX11_counts 91 = .ok (.iaload, 1) := by decide +kernel
theorem dX11_counts_92 : decode cX11_counts 92 = .ok (.iconst 1, 1) := by decide +kernel
theorem dX11_counts_93 : decode cX11_counts 93 = .ok (.iadd, 1) := by decide +kernel
theorem dX11_counts_94 : decode cX11_counts 94 = .ok (.iastore, 1) := by decide +kernel
theorem dX11_counts_95 : decode cX11_counts 95 = .ok (.aload_n 0, 1) := by decide +kernel
theorem dX11_counts_96 : decode cX11_counts 96 = .ok (.getfield 7, 3) := by decide +kernel
theorem dX11_counts_99 : decode cX11_counts 99 = .ok (.iload_n 1, 1) := by decide +kernel
theorem dX11_counts_100 : decode cX11_counts 100 = .ok (.iload_n 2, 1) := by decide +kernel
theorem dX11_counts_101 : decode cX11_counts 101 = .ok (.invokestatic 40, 3) := by decide +kernel
theorem dX11_counts_104 : decode cX11_counts 104 = .ok (.bipush 11, 2) := by decide +kernel
theorem dX11_counts_106 : decode cX11_counts 106 = .ok (.iadd, 1) := by decide +kernel
theorem dX11_counts_107 : decode cX11_counts 107 = .ok (.dup2, 1) := by decide +kernel
theorem dX11_counts_108 : decode cX11_counts 108 = .ok (.iaload, 1) := by decide +kernel
theorem dX11_counts_109 : decode cX11_counts 109 = .ok (.iconst 1, 1) := by decide +kernel
theorem dX11_counts_110 : decode cX11_counts 110 = .ok (.iadd, 1) := by decide +kernel
theorem dX11_counts_111 : decode cX11_counts 111 = .ok (.iastore, 1) := by decide +kernel
theorem dX11_counts_112 : decode cX11_counts 112 = .ok (.aload_n 0, 1) := by decide +kernel
theorem dX11_counts_113 : decode cX11_counts 113 = .ok (.dup, 1) := by decide +kernel
theorem dX11_counts_114 : decode cX11_counts 114 = .ok (.getfield 83, 3) := by decide +kernel
theorem dX11_counts_117 : decode cX11_counts 117 = .ok (.iconst 1, 1) := by decide +kernel
theorem dX11_counts_118 : decode cX11_counts 118 = .ok (.iadd, 1) := by decide +kernel
theorem dX11_counts_119 : decode cX11_counts 119 = .ok (.putfield 83, 3) := by decide +kernel
theorem dX11_counts_122 : decode cX11_counts 122 = .ok (.return_, 1) := by decide +kernel
theorem dX11_operates_0 : decode cX11_operates 0 = .ok (.iload_n 3, 1) := by decide +kernel
theorem dX11_operates_1 : decode cX11_operates 1 = .ok (.iconst 1, 1) := by decide +kernel
theorem dX11_operates_2 : decode cX11_operates 2 = .ok (.iadd, 1) := by decide +kernel
theorem dX11_operates_3 : decode cX11_operates 3 = .ok (.istore 5, 2) := by decide +kernel
theorem dX11_operates_5 : decode cX11_operates 5 = .ok (.aload_n 0, 1) := by decide +kernel
theorem dX11_operates_6 : decode cX11_operates 6 = .ok (.getfield 7, 3) := by decide +kernel
theorem dX11_operates_9 : decode cX11_operates 9 = .ok (.iload_n 1, 1) := by decide +kernel
theorem dX11_operates_10 : decode cX11_operates 10 = .ok (.iload_n 2, 1) := by decide +kernel
theorem dX11_operates_11 : decode cX11_operates 11 = .ok (.invokestatic 40, 3) := by decide +kernel
theorem dX11_operates_14 : decode cX11_operates 14 = .ok (.iconst 3, 1) := by decide +kernel
theorem dX11_operates_15 : decode cX11_operates 15 = .ok (.iadd, 1) := by decide +kernel
theorem dX11_operates_16 : decode cX11_operates 16 = .ok (.iaload, 1) := by decide +kernel
theorem dX11_operates_17 : decode cX11_operates 17 = .ok (.lookupswitch 125 #[(3, 27), (4, 84)], 27) := by decide +kernel
theorem dX11_operates_44 : decode cX11_operates 44 = .ok (.aload_n 0, 1) := by decide +kernel
theorem dX11_operates_45 : decode cX11_operates 45 = .ok (.iload 5, 2) := by decide +kernel
theorem dX11_operates_47 : decode cX11_operates 47 = .ok (.iconst 0, 1) := by decide +kernel
theorem dX11_operates_48 : decode cX11_operates 48 = .ok (.iload 4, 2) := by decide +kernel
theorem dX11_operates_50 : decode cX11_operates 50 = .ok (.iload_n 2, 1) := by decide +kernel
theorem dX11_operates_51 : decode cX11_operates 51 = .ok (.invokevirtual 86, 3) := by decide +kernel
theorem dX11_operates_54 : decode cX11_operates 54 = .ok (.iconst 0, 1) := by decide +kernel
theorem dX11_operates_55 : decode cX11_operates 55 = .ok (.istore 6, 2) := by decide +kernel
theorem dX11_operates_57 : decode cX11_operates 57 = .ok (.iload 6, 2) := by decide +kernel
theorem dX11_operates_59 : decode cX11_operates 59 = .ok (.iconst 3, 1) := by decide +kernel
theorem dX11_operates_60 : decode cX11_operates 60 = .ok (.if_icmp .ge 31, 3) := by decide +kernel
theorem dX11_operates_63 : decode cX11_operates 63 = .ok (.aload_n 0, 1) := by decide +kernel
theorem dX11_operates_64 : decode cX11_operates 64 = .ok (.getfield 22, 3) := by decide +kernel
theorem dX11_operates_67 : decode cX11_operates 67 = .ok (.bipush 8, 2) := by decide +kernel
theorem dX11_operates_69 : decode cX11_operates 69 = .ok (.iload 5, 2) := by decide +kernel
theorem dX11_operates_71 : decode cX11_operates 71 = .ok (.imul, 1) := by decide +kernel
theorem dX11_operates_72 : decode cX11_operates 72 = .ok (.iconst 2, 1) := by decide +kernel
theorem dX11_operates_73 : decode cX11_operates 73 = .ok (.iadd, 1) := by decide +kernel
theorem dX11_operates_74 : decode cX11_operates 74 = .ok (.iload 6, 2) := by decide +kernel
theorem dX11_operates_76 : decode cX11_operates 76 = .ok (.iadd, 1) := by decide +kernel
theorem dX11_operates_77 : decode cX11_operates 77 = .ok (.aload_n 0, 1) := by decide +kernel
theorem dX11_operates_78 : decode cX11_operates 78 = .ok (.iload_n 3, 1) := by decide +kernel
theorem dX11_operates_79 : decode cX11_operates 79 = .ok (.iload 6, 2) := by decide +kernel
theorem dX11_operates_81 : decode cX11_operates 81 = .ok (.invokevirtual 77, 3) := by decide +kernel
theorem dX11_operates_84 : decode cX11_operates 84 = .ok (.iastore, 1) := by decide +kernel
theorem dX11_operates_85 : decode cX11_operates 85 = .ok (.iinc 6 1, 3) := by decide +kernel
theorem dX11_operates_88 : decode cX11_operates 88 = .ok (.goto (-31), 3) := by decide +kernel
theorem dX11_operates_91 : decode cX11_operates 91 = .ok (.aload_n 0, 1) := by decide +kernel
theorem dX11_operates_92 : decode cX11_operates 92 = .ok (.iload_n 1, 1) := by decide +kernel
theorem dX11_operates_93 : decode cX11_operates 93 = .ok (.iload 5, 2) := by decide +kernel
theorem dX11_operates_95 : decode cX11_operates 95 = .ok (.iconst 0, 1) := by decide +kernel
theorem dX11_operates_96 : decode cX11_operates 96 = .ok (.iconst 0, 1) := by decide +kernel
theorem dX11_operates_97 : decode cX11_operates 97 = .ok (.invokevirtual 90, 3) := by decide +kernel
theorem dX11_operates_100 : decode cX11_operates 100 = .ok (.ireturn, 1) := by decide +kernel
theorem dX11_operates_101 : decode cX11_operates 101 = .ok (.aload_n 0, 1) := by decide +kernel
theorem dX11_operates_102 : decode cX11_operates 102 = .ok (.iload 5, 2) := by decide +kernel
theorem dX11_operates_104 : decode cX11_operates 104 = .ok (.iconst 1, 1) := by decide +kernel
theorem dX11_operates_105 : decode cX11_operates 105 = .ok (.aload_n 0, 1) := by decide +kernel
theorem dX11_operates_106 : decode cX11_operates 106 = .ok (.iload_n 3, 1) := by decide +kernel
theorem dX11_operates_107 : decode cX11_operates 107 = .ok (.iconst 3, 1) := by decide +kernel
theorem dX11_operates_108 : decode cX11_operates 108 = .ok (.invokevirtual 77, 3) := by decide +kernel
theorem dX11_operates_111 : decode cX11_operates 111 = .ok (.iconst 1, 1) := by decide +kernel
theorem dX11_operates_112 : decode cX11_operates 112 = .ok (.iadd, 1) := by decide +kernel
theorem dX11_operates_113 : decode cX11_operates 113 = .ok (.bipush 100, 2) := by decide +kernel
theorem dX11_operates_115 : decode cX11_operates 115 = .ok (.irem, 1) := by decide +kernel
theorem dX11_operates_116 : decode cX11_operates 116 = .ok (.iload_n 2, 1) := by decide +kernel
theorem dX11_operates_117 : decode cX11_operates 117 = .ok (.invokevirtual 86, 3) := by decide +kernel
theorem dX11_operates_120 : decode cX11_operates 120 = .ok (.aload_n 0, 1) := by decide +kernel
theorem dX11_operates_121 : decode cX11_operates 121 = .ok (.iload_n 1, 1) := by decide +kernel
theorem dX11_operates_122 : decode cX11_operates 122 = .ok (.iload 5, 2) := by decide +kernel
theorem dX11_operates_124 : decode cX11_operates 124 = .ok (.aload_n 0, 1) := by decide +kernel
theorem dX11_operates_125 : decode cX11_operates 125 = .ok (.getfield 7, 3) := by decide +kernel
theorem dX11_operates_128 : decode cX11_operates 128 = .ok (.iload_n 1, 1) := by decide +kernel
theorem dX11_operates_129 : decode cX11_operates 129 = .ok (.iload_n 2, 1) := by decide +kernel
theorem dX11_operates_130 : decode cX11_operates 130 = .ok (.invokestatic 40, 3) := by decide +kernel
theorem dX11_operates_133 : decode cX11_operates 133 = .ok (.iconst 4, 1) := by decide +kernel
theorem dX11_operates_134 : decode cX11_operates 134 = .ok (.iadd, 1) := by decide +kernel
theorem dX11_operates_135 : decode cX11_operates 135 = .ok (.iaload, 1) := by decide +kernel
theorem dX11_operates_136 : decode cX11_operates 136 = .ok (.iload 4, 2) := by decide +kernel
theorem dX11_operates_138 : decode cX11_operates 138 = .ok (.invokevirtual 90, 3) := by decide +kernel
theorem dX11_operates_141 : decode cX11_operates 141 = .ok (.ireturn, 1) := by decide +kernel
theorem dX11_operates_142 : decode cX11_operates 142 = .ok (.aload_n 0, 1) := by decide +kernel
theorem dX11_operates_143 : decode cX11_operates 143 = .ok (.iload 5, 2) := by decide +kernel
theorem dX11_operates_145 : decode cX11_operates 145 = .ok (.iconst 2, 1) := by decide +kernel
theorem dX11_operates_146 : decode cX11_operates 146 = .ok (.iload 4, 2) := by decide +kernel
theorem dX11_operates_148 : decode cX11_operates 148 = .ok (.iload_n 2, 1) := by decide +kernel
theorem dX11_operates_149 : decode cX11_operates 149 = .ok (.invokevirtual 86, 3) := by decide +kernel
theorem dX11_operates_152 : decode cX11_operates 152 = .ok (.aload_n 0, 1) := by decide +kernel
theorem dX11_operates_153 : decode cX11_operates 153 = .ok (.iload_n 1, 1) := by decide +kernel
theorem dX11_operates_154 : decode cX11_operates 154 = .ok (.iload 5, 2) := by decide +kernel
theorem dX11_operates_156 : decode cX11_operates 156 = .ok (.iconst 0, 1) := by decide +kernel
theorem dX11_operates_157 : decode cX11_operates 157 = .ok (.iconst 0, 1) := by decide +kernel
theorem dX11_operates_158 : decode cX11_operates 158 = .ok (.invokevirtual 90, 3) := by decide +kernel
theorem dX11_operates_161 : decode cX11_operates 161 = .ok (.ireturn, 1) := by decide +kernel
theorem dX11_acts_0 : decode cX11_acts 0 = .ok (.iload_n 1, 1) := by decide +kernel
theorem dX11_acts_1 : decode cX11_acts 1 = .ok (.iload_n 2, 1) := by decide +kernel
theorem dX11_acts_2 : decode cX11_acts 2 = .ok (.invokestatic 40, 3) := by decide +kernel
theorem dX11_acts_5 : decode cX11_acts 5 = .ok (.istore 4, 2) := by decide +kernel
theorem dX11_acts_7 : decode cX11_acts 7 = .ok (.aload_n 0, 1) := by decide +kernel
theorem dX11_acts_8 : decode cX11_acts 8 = .ok (.iload_n 1, 1) := by decide +kernel
theorem dX11_acts_9 : decode cX11_acts 9 = .ok (.iload_n 2, 1) := by decide +kernel
theorem dX11_acts_10 : decode cX11_acts 10 = .ok (.iload_n 3, 1) := by decide +kernel
theorem dX11_acts_11 : decode cX11_acts 11 = .ok (.invokevirtual 93, 3) := by decide +kernel
theorem dX11_acts_14 : decode cX11_acts 14 = .ok (.istore 5, 2) := by decide +kernel
theorem dX11_acts_16 : decode cX11_acts 16 = .ok (.aload_n 0, 1) := by decide +kernel
theorem dX11_acts_17 : decode cX11_acts 17 = .ok (.iload_n 1, 1) := by decide +kernel
theorem dX11_acts_18 : decode cX11_acts 18 = .ok (.iload_n 2, 1) := by decide +kernel
theorem dX11_acts_19 : decode cX11_acts 19 = .ok (.iload_n 3, 1) := by decide +kernel
theorem dX11_acts_20 : decode cX11_acts 20 = .ok (.invokevirtual 97, 3) := by decide +kernel
theorem dX11_acts_23 : decode cX11_acts 23 = .ok (.aload_n 0, 1) := by decide +kernel
theorem dX11_acts_24 : decode cX11_acts 24 = .ok (.getfield 7, 3) := by decide +kernel
theorem dX11_acts_27 : decode cX11_acts 27 = .ok (.iload 4, 2) := by decide +kernel
theorem dX11_acts_29 : decode cX11_acts 29 = .ok (.iconst 3, 1) := by decide +kernel
theorem dX11_acts_30 : decode cX11_acts 30 = .ok (.iadd, 1) := by decide +kernel
theorem dX11_acts_31 : decode cX11_acts 31 = .ok (.iaload, 1) := by decide +kernel
theorem dX11_acts_32 : decode cX11_acts 32 = .ok (.tableswitch 65 0 2 #[28, 53, 61], 28) := by decide +kernel
theorem dX11_acts_60 : decode cX11_acts 60 = .ok (.aload_n 0, 1) := by decide +kernel
theorem dX11_acts_61 : decode cX11_acts 61 = .ok (.getfield 22, 3) := by decide +kernel
theorem dX11_acts_64 : decode cX11_acts 64 = .ok (.bipush 8, 2) := by decide +kernel
theorem dX11_acts_66 : decode cX11_acts 66 = .ok (.iload_n 3, 1) := by decide +kernel
theorem dX11_acts_67 : decode cX11_acts 67 = .ok (.imul, 1) := by decide +kernel
theorem dX11_acts_68 : decode cX11_acts 68 = .ok (.iconst 2, 1) := by decide +kernel
theorem dX11_acts_69 : decode cX11_acts 69 = .ok (.iadd, 1) := by decide +kernel
theorem dX11_acts_70 : decode cX11_acts 70 = .ok (.aload_n 0, 1) := by decide +kernel
theorem dX11_acts_71 : decode cX11_acts 71 = .ok (.getfield 7, 3) := by decide +kernel
theorem dX11_acts_74 : decode cX11_acts 74 = .ok (.iload 4, 2) := by decide +kernel
theorem dX11_acts_76 : decode cX11_acts 76 = .ok (.iconst 4, 1) := by decide +kernel
theorem dX11_acts_77 : decode cX11_acts 77 = .ok (.iadd, 1) := by decide +kernel
theorem dX11_acts_78 : decode cX11_acts 78 = .ok (.iaload, 1) := by decide +kernel
theorem dX11_acts_79 : decode cX11_acts 79 = .ok (.iadd, 1) := by decide +kernel
theorem dX11_acts_80 : decode cX11_acts 80 = .ok (.iload 5, 2) := by decide +kernel
theorem dX11_acts_82 : decode cX11_acts 82 = .ok (.iastore, 1) := by decide +kernel
theorem dX11_acts_83 : decode cX11_acts 83 = .ok (.iload_n 3, 1) := by decide +kernel
theorem dX11_acts_84 : decode cX11_acts 84 = .ok (.ireturn, 1) := by decide +kernel
theorem dX11_acts_85 : decode cX11_acts 85 = .ok (.aload_n 0, 1) := by decide +kernel
theorem dX11_acts_86 : decode cX11_acts 86 = .ok (.iconst 1, 1) := by decide +kernel
theorem dX11_acts_87 : decode cX11_acts 87 = .ok (.iload_n 2, 1) := by decide +kernel
theorem dX11_acts_88 : decode cX11_acts 88 = .ok (.invokevirtual 67, 3) := by decide +kernel
theorem dX11_acts_91 : decode cX11_acts 91 = .ok (.iload_n 3, 1) := by decide +kernel
theorem dX11_acts_92 : decode cX11_acts 92 = .ok (.ireturn, 1) := by decide +kernel
theorem dX11_acts_93 : decode cX11_acts 93 = .ok (.iload_n 3, 1) := by decide +kernel
theorem dX11_acts_94 : decode cX11_acts 94 = .ok (.iconst 1, 1) := by decide +kernel
theorem dX11_acts_95 : decode cX11_acts 95 = .ok (.isub, 1) := by decide +kernel
theorem dX11_acts_96 : decode cX11_acts 96 = .ok (.ireturn, 1) := by decide +kernel
theorem dX11_acts_97 : decode cX11_acts 97 = .ok (.iload_n 3, 1) := by decide +kernel
theorem dX11_acts_98 : decode cX11_acts 98 = .ok (.aload_n 0, 1) := by decide +kernel
theorem dX11_acts_99 : decode cX11_acts 99 = .ok (.getfield 7, 3) := by decide +kernel
theorem dX11_acts_102 : decode cX11_acts 102 = .ok (.iload_n 1, 1) := by decide +kernel
theorem dX11_acts_103 : decode cX11_acts 103 = .ok (.sipush 226, 3) := by decide +kernel
theorem dX11_acts_106 : decode cX11_acts 106 = .ok (.iadd, 1) := by decide +kernel
theorem dX11_acts_107 : decode cX11_acts 107 = .ok (.iaload, 1) := by decide +kernel
theorem dX11_acts_108 : decode cX11_acts 108 = .ok (.if_icmp .ne 11, 3) := by decide +kernel
theorem dX11_acts_111 : decode cX11_acts 111 = .ok (.aload_n 0, 1) := by decide +kernel
theorem dX11_acts_112 : decode cX11_acts 112 = .ok (.iconst 2, 1) := by decide +kernel
theorem dX11_acts_113 : decode cX11_acts 113 = .ok (.iload_n 2, 1) := by decide +kernel
theorem dX11_acts_114 : decode cX11_acts 114 = .ok (.invokevirtual 67, 3) := by decide +kernel
theorem dX11_acts_117 : decode cX11_acts 117 = .ok (.iload_n 3, 1) := by decide +kernel
theorem dX11_acts_118 : decode cX11_acts 118 = .ok (.ireturn, 1) := by decide +kernel
theorem dX11_acts_119 : decode cX11_acts 119 = .ok (.aload_n 0, 1) := by decide +kernel
theorem dX11_acts_120 : decode cX11_acts 120 = .ok (.iload_n 1, 1) := by decide +kernel
theorem dX11_acts_121 : decode cX11_acts 121 = .ok (.iload_n 2, 1) := by decide +kernel
theorem dX11_acts_122 : decode cX11_acts 122 = .ok (.iload_n 3, 1) := by decide +kernel
theorem dX11_acts_123 : decode cX11_acts 123 = .ok (.iload 5, 2) := by decide +kernel
theorem dX11_acts_125 : decode cX11_acts 125 = .ok (.invokevirtual 101, 3) := by decide +kernel
theorem dX11_acts_128 : decode cX11_acts 128 = .ok (.ifCond .eq 9, 3) := by decide +kernel
theorem dX11_acts_131 : decode cX11_acts 131 = .ok (.iload_n 3, 1) := by decide +kernel
theorem dX11_acts_132 : decode cX11_acts 132 = .ok (.iconst 1, 1) := by decide +kernel
theorem dX11_acts_133 : decode cX11_acts 133 = .ok (.iadd, 1) := by decide +kernel
theorem dX11_acts_134 : decode cX11_acts 134 = .ok (.goto 4, 3) := by decide +kernel
theorem dX11_acts_137 : decode cX11_acts 137 = .ok (.iload_n 3, 1) := by decide +kernel
theorem dX11_acts_138 : decode cX11_acts 138 = .ok (.ireturn, 1) := by decide +kernel
theorem dX11_goes_0 : decode cX11_goes 0 = .ok (.aload_n 0, 1) := by decide +kernel
theorem dX11_goes_1 : decode cX11_goes 1 = .ok (.getfield 22, 3) := by decide +kernel
theorem dX11_goes_4 : decode cX11_goes 4 = .ok (.bipush 8, 2) := by decide +kernel
theorem dX11_goes_6 : decode cX11_goes 6 = .ok (.iload_n 2, 1) := by decide +kernel
theorem dX11_goes_7 : decode cX11_goes 7 = .ok (.imul, 1) := by decide +kernel
theorem dX11_goes_8 : decode cX11_goes 8 = .ok (.iconst 5, 1) := by decide +kernel
theorem dX11_goes_9 : decode cX11_goes 9 = .ok (.iadd, 1) := by decide +kernel
theorem dX11_goes_10 : decode cX11_goes 10 = .ok (.iaload, 1) := by decide +kernel
theorem dX11_goes_11 : decode cX11_goes 11 = .ok (.istore_n 3, 1) := by decide +kernel
theorem dX11_goes_12 : decode cX11_goes 12 = .ok (.aload_n 0, 1) := by decide +kernel
theorem dX11_goes_13 : decode cX11_goes 13 = .ok (.iload_n 1, 1) := by decide +kernel
theorem dX11_goes_14 : decode cX11_goes 14 = .ok (.aload_n 0, 1) := by decide +kernel
theorem dX11_goes_15 : decode cX11_goes 15 = .ok (.getfield 22, 3) := by decide +kernel
theorem dX11_goes_18 : decode cX11_goes 18 = .ok (.bipush 8, 2) := by decide +kernel
theorem dX11_goes_20 : decode cX11_goes 20 = .ok (.iload_n 2, 1) := by decide +kernel
theorem dX11_goes_21 : decode cX11_goes 21 = .ok (.imul, 1) := by decide +kernel
theorem dX11_goes_22 : decode cX11_goes 22 = .ok (.iconst 0, 1) := by decide +kernel
theorem dX11_goes_23 : decode cX11_goes 23 = .ok (.iadd, 1) := by decide +kernel
theorem dX11_goes_24 : decode cX11_goes 24 = .ok (.iaload, 1) := by decide +kernel
theorem dX11_goes_25 : decode cX11_goes 25 = .ok (.iload_n 3, 1) := by decide +kernel
theorem dX11_goes_26 : decode cX11_goes 26 = .ok (.aload_n 0, 1) := by decide +kernel
theorem dX11_goes_27 : decode cX11_goes 27 = .ok (.getfield 22, 3) := by decide +kernel
theorem dX11_goes_30 : decode cX11_goes 30 = .ok (.bipush 8, 2) := by decide +kernel
theorem dX11_goes_32 : decode cX11_goes 32 = .ok (.iload_n 2, 1) := by decide +kernel
theorem dX11_goes_33 : decode cX11_goes 33 = .ok (.imul, 1) := by decide +kernel
theorem dX11_goes_34 : decode cX11_goes 34 = .ok (.bipush 6, 2) := by decide +kernel
theorem dX11_goes_36 : decode cX11_goes 36 = .ok (.iadd, 1) := by decide +kernel
theorem dX11_goes_37 : decode cX11_goes 37 = .ok (.iaload, 1) := by decide +kernel
theorem dX11_goes_38 : decode cX11_goes 38 = .ok (.invokevirtual 104, 3) := by decide +kernel
theorem dX11_goes_41 : decode cX11_goes 41 = .ok (.istore 4, 2) := by decide +kernel
theorem dX11_goes_43 : decode cX11_goes 43 = .ok (.iload 4, 2) := by decide +kernel
theorem dX11_goes_45 : decode cX11_goes 45 = .ok (.sipush (-1006), 3) := by decide +kernel
theorem dX11_goes_48 : decode cX11_goes 48 = .ok (.if_icmp .ne 12, 3) := by decide +kernel
theorem dX11_goes_51 : decode cX11_goes 51 = .ok (.iload_n 3, 1) := by decide +kernel
theorem dX11_goes_52 : decode cX11_goes 52 = .ok (.iconst 1, 1) := by decide +kernel
theorem dX11_goes_53 : decode cX11_goes 53 = .ok (.if_icmp .ne 7, 3) := by decide +kernel
theorem dX11_goes_56 : decode cX11_goes 56 = .ok (.iload_n 2, 1) := by decide +kernel
theorem dX11_goes_57 : decode cX11_goes 57 = .ok (.iconst 1, 1) := by decide +kernel
theorem dX11_goes_58 : decode cX11_goes 58 = .ok (.isub, 1) := by decide +kernel
theorem dX11_goes_59 : decode cX11_goes 59 = .ok (.ireturn, 1) := by decide +kernel
theorem dX11_goes_60 : decode cX11_goes 60 = .ok (.iload 4, 2) := by decide +kernel
theorem dX11_goes_62 : decode cX11_goes 62 = .ok (.sipush (-1006), 3) := by decide +kernel
theorem dX11_goes_65 : decode cX11_goes 65 = .ok (.if_icmp .ne 36, 3) := by decide +kernel
theorem dX11_goes_68 : decode cX11_goes 68 = .ok (.aload_n 0, 1) := by decide +kernel
theorem dX11_goes_69 : decode cX11_goes 69 = .ok (.iload_n 1, 1) := by decide +kernel
theorem dX11_goes_70 : decode cX11_goes 70 = .ok (.iload_n 2, 1) := by decide +kernel
theorem dX11_goes_71 : decode cX11_goes 71 = .ok (.invokevirtual 108, 3) := by decide +kernel
theorem dX11_goes_74 : decode cX11_goes 74 = .ok (.aload_n 0, 1) := by decide +kernel
theorem dX11_goes_75 : decode cX11_goes 75 = .ok (.getfield 22, 3) := by decide +kernel
theorem dX11_goes_78 : decode cX11_goes 78 = .ok (.bipush 8, 2) := by decide +kernel
theorem dX11_goes_80 : decode cX11_goes 80 = .ok (.iload_n 2, 1) := by decide +kernel
theorem dX11_goes_81 : decode cX11_goes 81 = .ok (.imul, 1) := by decide +kernel
theorem dX11_goes_82 : decode cX11_goes 82 = .ok (.iconst 5, 1) := by decide +kernel
theorem dX11_goes_83 : decode cX11_goes 83 = .ok (.iadd, 1) := by decide +kernel
theorem dX11_goes_84 : decode cX11_goes 84 = .ok (.iconst 1, 1) := by decide +kernel
theorem dX11_goes_85 : decode cX11_goes 85 = .ok (.iastore, 1) := by decide +kernel
theorem dX11_goes_86 : decode cX11_goes 86 = .ok (.aload_n 0, 1) := by decide +kernel
theorem dX11_goes_87 : decode cX11_goes 87 = .ok (.getfield 22, 3) := by decide +kernel
theorem dX11_goes_90 : decode cX11_goes 90 = .ok (.bipush 8, 2) := by decide +kernel
theorem dX11_goes_92 : decode cX11_goes 92 = .ok (.iload_n 2, 1) := by decide +kernel
theorem dX11_goes_93 : decode cX11_goes 93 = .ok (.imul, 1) := by decide +kernel
theorem dX11_goes_94 : decode cX11_goes 94 = .ok (.bipush 6, 2) := by decide +kernel
theorem dX11_goes_96 : decode cX11_goes 96 = .ok (.iadd, 1) := by decide +kernel
theorem dX11_goes_97 : decode cX11_goes 97 = .ok (.iconst 0, 1) := by decide +kernel
theorem dX11_goes_98 : decode cX11_goes 98 = .ok (.iastore, 1) := by decide +kernel
theorem dX11_goes_99 : decode cX11_goes 99 = .ok (.iload_n 2, 1) := by decide +kernel
theorem dX11_goes_100 : decode cX11_goes 100 = .ok (.ireturn, 1) := by decide +kernel
theorem dX11_goes_101 : decode cX11_goes 101 = .ok (.aload_n 0, 1) := by decide +kernel
theorem dX11_goes_102 : decode cX11_goes 102 = .ok (.getfield 22, 3) := by decide +kernel
theorem dX11_goes_105 : decode cX11_goes 105 = .ok (.bipush 8, 2) := by decide +kernel
theorem dX11_goes_107 : decode cX11_goes 107 = .ok (.iload_n 2, 1) := by decide +kernel
theorem dX11_goes_108 : decode cX11_goes 108 = .ok (.imul, 1) := by decide +kernel
theorem dX11_goes_109 : decode cX11_goes 109 = .ok (.bipush 6, 2) := by decide +kernel
theorem dX11_goes_111 : decode cX11_goes 111 = .ok (.iadd, 1) := by decide +kernel
theorem dX11_goes_112 : decode cX11_goes 112 = .ok (.dup2, 1) := by decide +kernel
theorem dX11_goes_113 : decode cX11_goes 113 = .ok (.iaload, 1) := by decide +kernel
theorem dX11_goes_114 : decode cX11_goes 114 = .ok (.iconst 1, 1) := by decide +kernel
theorem dX11_goes_115 : decode cX11_goes 115 = .ok (.iadd, 1) := by decide +kernel
theorem dX11_goes_116 : decode cX11_goes 116 = .ok (.iastore, 1) := by decide +kernel
theorem dX11_goes_117 : decode cX11_goes 117 = .ok (.aload_n 0, 1) := by decide +kernel
theorem dX11_goes_118 : decode cX11_goes 118 = .ok (.iload_n 1, 1) := by decide +kernel
theorem dX11_goes_119 : decode cX11_goes 119 = .ok (.iload 4, 2) := by decide +kernel
theorem dX11_goes_121 : decode cX11_goes 121 = .ok (.iload_n 2, 1) := by decide +kernel
theorem dX11_goes_122 : decode cX11_goes 122 = .ok (.invokevirtual 111, 3) := by decide +kernel
theorem dX11_goes_125 : decode cX11_goes 125 = .ok (.ifCond .eq 14, 3) := by decide +kernel
theorem dX11_goes_128 : decode cX11_goes 128 = .ok (.aload_n 0, 1) := by decide +kernel
theorem dX11_goes_129 : decode cX11_goes 129 = .ok (.iload_n 1, 1) := by decide +kernel
theorem dX11_goes_130 : decode cX11_goes 130 = .ok (.iload 4, 2) := by decide +kernel
theorem dX11_goes_132 : decode cX11_goes 132 = .ok (.iload_n 2, 1) := by decide +kernel
theorem dX11_goes_133 : decode cX11_goes 133 = .ok (.invokevirtual 114, 3) := by decide +kernel
theorem dX11_goes_136 : decode cX11_goes 136 = .ok (.goto 4, 3) := by decide +kernel
theorem dX11_goes_139 : decode cX11_goes 139 = .ok (.iload_n 2, 1) := by decide +kernel
theorem dX11_goes_140 : decode cX11_goes 140 = .ok (.ireturn, 1) := by decide +kernel
theorem dX11_runs_0 : decode cX11_runs 0 = .ok (.aload_n 0, 1) := by decide +kernel
theorem dX11_runs_1 : decode cX11_runs 1 = .ok (.iconst 0, 1) := by decide +kernel
theorem dX11_runs_2 : decode cX11_runs 2 = .ok (.putfield 64, 3) := by decide +kernel
theorem dX11_runs_5 : decode cX11_runs 5 = .ok (.aload_n 0, 1) := by decide +kernel
theorem dX11_runs_6 : decode cX11_runs 6 = .ok (.iconst 0, 1) := by decide +kernel
theorem dX11_runs_7 : decode cX11_runs 7 = .ok (.putfield 83, 3) := by decide +kernel
theorem dX11_runs_10 : decode cX11_runs 10 = .ok (.aload_n 0, 1) := by decide +kernel
theorem dX11_runs_11 : decode cX11_runs 11 = .ok (.iconst 0, 1) := by decide +kernel
theorem dX11_runs_12 : decode cX11_runs 12 = .ok (.putfield 70, 3) := by decide +kernel
theorem dX11_runs_15 : decode cX11_runs 15 = .ok (.aload_n 0, 1) := by decide +kernel
theorem dX11_runs_16 : decode cX11_runs 16 = .ok (.iconst 0, 1) := by decide +kernel
theorem dX11_runs_17 : decode cX11_runs 17 = .ok (.putfield 48, 3) := by decide +kernel
theorem dX11_runs_20 : decode cX11_runs 20 = .ok (.aload_n 0, 1) := by decide +kernel
theorem dX11_runs_21 : decode cX11_runs 21 = .ok (.sipush (-1006), 3) := by decide +kernel
theorem dX11_runs_24 : decode cX11_runs 24 = .ok (.putfield 51, 3) := by decide +kernel
theorem dX11_runs_27 : decode cX11_runs 27 = .ok (.aload_n 0, 1) := by decide +kernel
theorem dX11_runs_28 : decode cX11_runs 28 = .ok (.getfield 7, 3) := by decide +kernel
theorem dX11_runs_31 : decode cX11_runs 31 = .ok (.iload_n 1, 1) := by decide +kernel
theorem dX11_runs_32 : decode cX11_runs 32 = .ok (.sipush 232, 3) := by decide +kernel
theorem dX11_runs_35 : decode cX11_runs 35 = .ok (.iadd, 1) := by decide +kernel
theorem dX11_runs_36 : decode cX11_runs 36 = .ok (.iconst 0, 1) := by decide +kernel
theorem dX11_runs_37 : decode cX11_runs 37 = .ok (.iastore, 1) := by decide +kernel
theorem dX11_runs_38 : decode cX11_runs 38 = .ok (.aload_n 0, 1) := by decide +kernel
theorem dX11_runs_39 : decode cX11_runs 39 = .ok (.iload_n 1, 1) := by decide +kernel
theorem dX11_runs_40 : decode cX11_runs 40 = .ok (.iconst 1, 1) := by decide +kernel
theorem dX11_runs_41 : decode cX11_runs 41 = .ok (.iload_n 2, 1) := by decide +kernel
theorem dX11_runs_42 : decode cX11_runs 42 = .ok (.iload_n 3, 1) := by decide +kernel
theorem dX11_runs_43 : decode cX11_runs 43 = .ok (.invokevirtual 90, 3) := by decide +kernel
theorem dX11_runs_46 : decode cX11_runs 46 = .ok (.ifCond .eq 7, 3) := by decide +kernel
theorem dX11_runs_49 : decode cX11_runs 49 = .ok (.iconst 1, 1) := by decide +kernel
theorem dX11_runs_50 : decode cX11_runs 50 = .ok (.goto 4, 3) := by decide +kernel
theorem dX11_runs_53 : decode cX11_runs 53 = .ok (.iconst 0, 1) := by decide +kernel
theorem dX11_runs_54 : decode cX11_runs 54 = .ok (.istore 4, 2) := by decide +kernel
theorem dX11_runs_56 : decode cX11_runs 56 = .ok (.iconst 0, 1) := by decide +kernel
theorem dX11_runs_57 : decode cX11_runs 57 = .ok (.istore 5, 2) := by decide +kernel
theorem dX11_runs_59 : decode cX11_runs 59 = .ok (.iload 5, 2) := by decide +kernel
theorem dX11_runs_61 : decode cX11_runs 61 = .ok (.sipush 10000, 3) := by decide +kernel
theorem dX11_runs_64 : decode cX11_runs 64 = .ok (.if_icmp .ge 30, 3) := by decide +kernel
theorem dX11_runs_67 : decode cX11_runs 67 = .ok (.iload 4, 2) := by decide +kernel
theorem dX11_runs_69 : decode cX11_runs 69 = .ok (.ifCond .le 25, 3) := by decide +kernel
theorem dX11_runs_72 : decode cX11_runs 72 = .ok (.aload_n 0, 1) := by decide +kernel
theorem dX11_runs_73 : decode cX11_runs 73 = .ok (.getfield 48, 3) := by decide +kernel
theorem dX11_runs_76 : decode cX11_runs 76 = .ok (.ifCond .ne 18, 3) := by decide +kernel
theorem dX11_runs_79 : decode cX11_runs 79 = .ok (.aload_n 0, 1) := by decide +kernel
theorem dX11_runs_80 : decode cX11_runs 80 = .ok (.iload_n 1, 1) := by decide +kernel
theorem dX11_runs_81 : decode cX11_runs 81 = .ok (.iload 4, 2) := by decide +kernel
theorem dX11_runs_83 : decode cX11_runs 83 = .ok (.invokevirtual 117, 3) := by decide +kernel
theorem dX11_runs_86 : decode cX11_runs 86 = .ok (.istore 4, 2) := by decide +kernel
theorem dX11_runs_88 : decode cX11_runs 88 = .ok (.iinc 5 1, 3) := by decide +kernel
theorem dX11_runs_91 : decode cX11_runs 91 = .ok (.goto (-32), 3) := by decide +kernel
theorem dX11_runs_94 : decode cX11_runs 94 = .ok (.aload_n 0, 1) := by decide +kernel
theorem dX11_runs_95 : decode cX11_runs 95 = .ok (.getfield 7, 3) := by decide +kernel
theorem dX11_runs_98 : decode cX11_runs 98 = .ok (.iload_n 1, 1) := by decide +kernel
theorem dX11_runs_99 : decode cX11_runs 99 = .ok (.sipush 228, 3) := by decide +kernel
theorem dX11_runs_102 : decode cX11_runs 102 = .ok (.iadd, 1) := by decide +kernel
theorem dX11_runs_103 : decode cX11_runs 103 = .ok (.dup2, 1) := by decide +kernel
theorem dX11_runs_104 : decode cX11_runs 104 = .ok (.iaload, 1) := by decide +kernel
theorem dX11_runs_105 : decode cX11_runs 105 = .ok (.iconst 1, 1) := by decide +kernel
theorem dX11_runs_106 : decode cX11_runs 106 = .ok (.iadd, 1) := by decide +kernel
theorem dX11_runs_107 : decode cX11_runs 107 = .ok (.iastore, 1) := by decide +kernel
theorem dX11_runs_108 : decode cX11_runs 108 = .ok (.aload_n 0, 1) := by decide +kernel
theorem dX11_runs_109 : decode cX11_runs 109 = .ok (.getfield 7, 3) := by decide +kernel
theorem dX11_runs_112 : decode cX11_runs 112 = .ok (.iload_n 1, 1) := by decide +kernel
theorem dX11_runs_113 : decode cX11_runs 113 = .ok (.sipush 229, 3) := by decide +kernel
theorem dX11_runs_116 : decode cX11_runs 116 = .ok (.iadd, 1) := by decide +kernel
theorem dX11_runs_117 : decode cX11_runs 117 = .ok (.dup2, 1) := by decide +kernel
theorem dX11_runs_118 : decode cX11_runs 118 = .ok (.iaload, 1) := by decide +kernel
theorem dX11_runs_119 : decode cX11_runs 119 = .ok (.aload_n 0, 1) := by decide +kernel
theorem dX11_runs_120 : decode cX11_runs 120 = .ok (.getfield 64, 3) := by decide +kernel
theorem dX11_runs_123 : decode cX11_runs 123 = .ok (.iadd, 1) := by decide +kernel
theorem dX11_runs_124 : decode cX11_runs 124 = .ok (.iastore, 1) := by decide +kernel
theorem dX11_runs_125 : decode cX11_runs 125 = .ok (.aload_n 0, 1) := by decide +kernel
theorem dX11_runs_126 : decode cX11_runs 126 = .ok (.getfield 7, 3) := by decide +kernel
theorem dX11_runs_129 : decode cX11_runs 129 = .ok (.iload_n 1, 1) := by decide +kernel
theorem dX11_runs_130 : decode cX11_runs 130 = .ok (.sipush 230, 3) := by decide +kernel
theorem dX11_runs_133 : decode cX11_runs 133 = .ok (.iadd, 1) := by decide +kernel
theorem dX11_runs_134 : decode cX11_runs 134 = .ok (.dup2, 1) := by decide +kernel
theorem dX11_runs_135 : decode cX11_runs 135 = .ok (.iaload, 1) := by decide +kernel
theorem dX11_runs_136 : decode cX11_runs 136 = .ok (.aload_n 0, 1) := by decide +kernel
theorem dX11_runs_137 : decode cX11_runs 137 = .ok (.getfield 83, 3) := by decide +kernel
theorem dX11_runs_140 : decode cX11_runs 140 = .ok (.iadd, 1) := by decide +kernel
theorem dX11_runs_141 : decode cX11_runs 141 = .ok (.iastore, 1) := by decide +kernel
theorem dX11_runs_142 : decode cX11_runs 142 = .ok (.aload_n 0, 1) := by decide +kernel
theorem dX11_runs_143 : decode cX11_runs 143 = .ok (.getfield 7, 3) := by decide +kernel
theorem dX11_runs_146 : decode cX11_runs 146 = .ok (.iload_n 1, 1) := by decide +kernel
theorem dX11_runs_147 : decode cX11_runs 147 = .ok (.sipush 231, 3) := by decide +kernel
theorem dX11_runs_150 : decode cX11_runs 150 = .ok (.iadd, 1) := by decide +kernel
theorem dX11_runs_151 : decode cX11_runs 151 = .ok (.aload_n 0, 1) := by decide +kernel
theorem dX11_runs_152 : decode cX11_runs 152 = .ok (.getfield 70, 3) := by decide +kernel
theorem dX11_runs_155 : decode cX11_runs 155 = .ok (.aload_n 0, 1) := by decide +kernel
theorem dX11_runs_156 : decode cX11_runs 156 = .ok (.getfield 7, 3) := by decide +kernel
theorem dX11_runs_159 : decode cX11_runs 159 = .ok (.iload_n 1, 1) := by decide +kernel
theorem dX11_runs_160 : decode cX11_runs 160 = .ok (.sipush 231, 3) := by decide +kernel
theorem dX11_runs_163 : decode cX11_runs 163 = .ok (.iadd, 1) := by decide +kernel
theorem dX11_runs_164 : decode cX11_runs 164 = .ok (.iaload, 1) := by decide +kernel
theorem dX11_runs_165 : decode cX11_runs 165 = .ok (.if_icmp .le 10, 3) := by decide +kernel
theorem dX11_runs_168 : decode cX11_runs 168 = .ok (.aload_n 0, 1) := by decide +kernel
theorem dX11_runs_169 : decode cX11_runs 169 = .ok (.getfield 70, 3) := by decide +kernel
theorem dX11_runs_172 : decode cX11_runs 172 = .ok (.goto 13, 3) := by decide +kernel
theorem dX11_runs_175 : decode cX11_runs 175 = .ok (.aload_n 0, 1) := by decide +kernel
theorem dX11_runs_176 : decode cX11_runs 176 = .ok (.getfield 7, 3) := by decide +kernel
theorem dX11_runs_179 : decode cX11_runs 179 = .ok (.iload_n 1, 1) := by decide +kernel
theorem dX11_runs_180 : decode cX11_runs 180 = .ok (.sipush 231, 3) := by decide +kernel
theorem dX11_runs_183 : decode cX11_runs 183 = .ok (.iadd, 1) := by decide +kernel
theorem dX11_runs_184 : decode cX11_runs 184 = .ok (.iaload, 1) := by decide +kernel
theorem dX11_runs_185 : decode cX11_runs 185 = .ok (.iastore, 1) := by decide +kernel
theorem dX11_runs_186 : decode cX11_runs 186 = .ok (.return_, 1) := by decide +kernel
theorem dX11_whyNotInsert_0 : decode cX11_whyNotInsert 0 = .ok (.aload_n 0, 1) := by decide +kernel
theorem dX11_whyNotInsert_1 : decode cX11_whyNotInsert 1 = .ok (.iload_n 1, 1) := by decide +kernel
theorem dX11_whyNotInsert_2 : decode cX11_whyNotInsert 2 = .ok (.iload_n 2, 1) := by decide +kernel
theorem dX11_whyNotInsert_3 : decode cX11_whyNotInsert 3 = .ok (.invokevirtual 54, 3) := by decide +kernel
theorem dX11_whyNotInsert_6 : decode cX11_whyNotInsert 6 = .ok (.ifCond .lt 9, 3) := by decide +kernel
theorem dX11_whyNotInsert_9 : decode cX11_whyNotInsert 9 = .ok (.sipush (-1004), 3) := by decide +kernel
theorem dX11_whyNotInsert_12 : decode cX11_whyNotInsert 12 = .ok (.goto 23, 3) := by decide +kernel
theorem dX11_whyNotInsert_15 : decode cX11_whyNotInsert 15 = .ok (.aload_n 0, 1) := by decide +kernel
theorem dX11_whyNotInsert_16 : decode cX11_whyNotInsert 16 = .ok (.getfield 7, 3) := by decide +kernel
theorem dX11_whyNotInsert_19 : decode cX11_whyNotInsert 19 = .ok (.iload_n 1, 1) := by decide +kernel
theorem dX11_whyNotInsert_20 : decode cX11_whyNotInsert 20 = .ok (.iconst 0, 1) := by decide +kernel
theorem dX11_whyNotInsert_21 : decode cX11_whyNotInsert 21 = .ok (.iadd, 1) := by decide +kernel
theorem dX11_whyNotInsert_22 : decode cX11_whyNotInsert 22 = .ok (.iaload, 1) := by decide +kernel
theorem dX11_whyNotInsert_23 : decode cX11_whyNotInsert 23 = .ok (.bipush 20, 2) := by decide +kernel
theorem dX11_whyNotInsert_25 : decode cX11_whyNotInsert 25 = .ok (.if_icmp .ne 9, 3) := by decide +kernel
theorem dX11_whyNotInsert_28 : decode cX11_whyNotInsert 28 = .ok (.sipush (-1003), 3) := by decide +kernel
theorem dX11_whyNotInsert_31 : decode cX11_whyNotInsert 31 = .ok (.goto 4, 3) := by decide +kernel
theorem dX11_whyNotInsert_34 : decode cX11_whyNotInsert 34 = .ok (.iconst 0, 1) := by decide +kernel
theorem dX11_whyNotInsert_35 : decode cX11_whyNotInsert 35 = .ok (.ireturn, 1) := by decide +kernel
theorem dX11_whyNotUpdate_0 : decode cX11_whyNotUpdate 0 = .ok (.aload_n 0, 1) := by decide +kernel
theorem dX11_whyNotUpdate_1 : decode cX11_whyNotUpdate 1 = .ok (.iload_n 1, 1) := by decide +kernel
theorem dX11_whyNotUpdate_2 : decode cX11_whyNotUpdate 2 = .ok (.iload_n 2, 1) := by decide +kernel
theorem dX11_whyNotUpdate_3 : decode cX11_whyNotUpdate 3 = .ok (.invokevirtual 54, 3) := by decide +kernel
theorem dX11_whyNotUpdate_6 : decode cX11_whyNotUpdate 6 = .ok (.istore 5, 2) := by decide +kernel
theorem dX11_whyNotUpdate_8 : decode cX11_whyNotUpdate 8 = .ok (.iload 5, 2) := by decide +kernel
theorem dX11_whyNotUpdate_10 : decode cX11_whyNotUpdate 10 = .ok (.ifCond .ge 9, 3) := by decide +kernel
theorem dX11_whyNotUpdate_13 : decode cX11_whyNotUpdate 13 = .ok (.sipush (-1001), 3) := by decide +kernel
theorem dX11_whyNotUpdate_16 : decode cX11_whyNotUpdate 16 = .ok (.goto 26, 3) := by decide +kernel
theorem dX11_whyNotUpdate_19 : decode cX11_whyNotUpdate 19 = .ok (.aload_n 0, 1) := by decide +kernel
theorem dX11_whyNotUpdate_20 : decode cX11_whyNotUpdate 20 = .ok (.getfield 7, 3) := by decide +kernel
theorem dX11_whyNotUpdate_23 : decode cX11_whyNotUpdate 23 = .ok (.iload 5, 2) := by decide +kernel
theorem dX11_whyNotUpdate_25 : decode cX11_whyNotUpdate 25 = .ok (.iconst 1, 1) := by decide +kernel
theorem dX11_whyNotUpdate_26 : decode cX11_whyNotUpdate 26 = .ok (.iadd, 1) := by decide +kernel
theorem dX11_whyNotUpdate_27 : decode cX11_whyNotUpdate 27 = .ok (.iload_n 3, 1) := by decide +kernel
theorem dX11_whyNotUpdate_28 : decode cX11_whyNotUpdate 28 = .ok (.iadd, 1) := by decide +kernel
theorem dX11_whyNotUpdate_29 : decode cX11_whyNotUpdate 29 = .ok (.iaload, 1) := by decide +kernel
theorem dX11_whyNotUpdate_30 : decode cX11_whyNotUpdate 30 = .ok (.iload 4, 2) := by decide +kernel
theorem dX11_whyNotUpdate_32 : decode cX11_whyNotUpdate 32 = .ok (.if_icmp .ne 9, 3) := by decide +kernel
theorem dX11_whyNotUpdate_35 : decode cX11_whyNotUpdate 35 = .ok (.sipush (-1006), 3) := by decide +kernel
theorem dX11_whyNotUpdate_38 : decode cX11_whyNotUpdate 38 = .ok (.goto 4, 3) := by decide +kernel
theorem dX11_whyNotUpdate_41 : decode cX11_whyNotUpdate 41 = .ok (.iconst 0, 1) := by decide +kernel
theorem dX11_whyNotUpdate_42 : decode cX11_whyNotUpdate 42 = .ok (.ireturn, 1) := by decide +kernel
theorem dX11_runsInsert_0 : decode cX11_runsInsert 0 = .ok (.aload_n 0, 1) := by decide +kernel
theorem dX11_runsInsert_1 : decode cX11_runsInsert 1 = .ok (.iconst 1, 1) := by decide +kernel
theorem dX11_runsInsert_2 : decode cX11_runsInsert 2 = .ok (.iconst 0, 1) := by decide +kernel
theorem dX11_runsInsert_3 : decode cX11_runsInsert 3 = .ok (.iload_n 2, 1) := by decide +kernel
theorem dX11_runsInsert_4 : decode cX11_runsInsert 4 = .ok (.sipush (-1006), 3) := by decide +kernel
theorem dX11_runsInsert_7 : decode cX11_runsInsert 7 = .ok (.invokevirtual 86, 3) := by decide +kernel
theorem dX11_runsInsert_10 : decode cX11_runsInsert 10 = .ok (.aload_n 0, 1) := by decide +kernel
theorem dX11_runsInsert_11 : decode cX11_runsInsert 11 = .ok (.getfield 22, 3) := by decide +kernel
theorem dX11_runsInsert_14 : decode cX11_runsInsert 14 = .ok (.bipush 10, 2) := by decide +kernel
theorem dX11_runsInsert_16 : decode cX11_runsInsert 16 = .ok (.iload_n 3, 1) := by decide +kernel
theorem dX11_runsInsert_17 : decode cX11_runsInsert 17 = .ok (.iastore, 1) := by decide +kernel
theorem dX11_runsInsert_18 : decode cX11_runsInsert 18 = .ok (.aload_n 0, 1) := by decide +kernel
theorem dX11_runsInsert_19 : decode cX11_runsInsert 19 = .ok (.getfield 22, 3) := by decide +kernel
theorem dX11_runsInsert_22 : decode cX11_runsInsert 22 = .ok (.bipush 11, 2) := by decide +kernel
theorem dX11_runsInsert_24 : decode cX11_runsInsert 24 = .ok (.iload 4, 2) := by decide +kernel
theorem dX11_runsInsert_26 : decode cX11_runsInsert 26 = .ok (.iastore, 1) := by decide +kernel
theorem dX11_runsInsert_27 : decode cX11_runsInsert 27 = .ok (.aload_n 0, 1) := by decide +kernel
theorem dX11_runsInsert_28 : decode cX11_runsInsert 28 = .ok (.getfield 22, 3) := by decide +kernel
theorem dX11_runsInsert_31 : decode cX11_runsInsert 31 = .ok (.bipush 12, 2) := by decide +kernel
theorem dX11_runsInsert_33 : decode cX11_runsInsert 33 = .ok (.iload 5, 2) := by decide +kernel
theorem dX11_runsInsert_35 : decode cX11_runsInsert 35 = .ok (.iastore, 1) := by decide +kernel
theorem dX11_runsInsert_36 : decode cX11_runsInsert 36 = .ok (.aload_n 0, 1) := by decide +kernel
theorem dX11_runsInsert_37 : decode cX11_runsInsert 37 = .ok (.iload_n 1, 1) := by decide +kernel
theorem dX11_runsInsert_38 : decode cX11_runsInsert 38 = .ok (.iconst 0, 1) := by decide +kernel
theorem dX11_runsInsert_39 : decode cX11_runsInsert 39 = .ok (.iconst 0, 1) := by decide +kernel
theorem dX11_runsInsert_40 : decode cX11_runsInsert 40 = .ok (.invokevirtual 120, 3) := by decide +kernel
theorem dX11_runsInsert_43 : decode cX11_runsInsert 43 = .ok (.return_, 1) := by decide +kernel
theorem dX11_runsUpdate_0 : decode cX11_runsUpdate 0 = .ok (.aload_n 0, 1) := by decide +kernel
theorem dX11_runsUpdate_1 : decode cX11_runsUpdate 1 = .ok (.iconst 1, 1) := by decide +kernel
theorem dX11_runsUpdate_2 : decode cX11_runsUpdate 2 = .ok (.iconst 1, 1) := by decide +kernel
theorem dX11_runsUpdate_3 : decode cX11_runsUpdate 3 = .ok (.iload_n 2, 1) := by decide +kernel
theorem dX11_runsUpdate_4 : decode cX11_runsUpdate 4 = .ok (.sipush (-1006), 3) := by decide +kernel
theorem dX11_runsUpdate_7 : decode cX11_runsUpdate 7 = .ok (.invokevirtual 86, 3) := by decide +kernel
theorem dX11_runsUpdate_10 : decode cX11_runsUpdate 10 = .ok (.aload_n 0, 1) := by decide +kernel
theorem dX11_runsUpdate_11 : decode cX11_runsUpdate 11 = .ok (.iload_n 1, 1) := by decide +kernel
theorem dX11_runsUpdate_12 : decode cX11_runsUpdate 12 = .ok (.iload_n 3, 1) := by decide +kernel
theorem dX11_runsUpdate_13 : decode cX11_runsUpdate 13 = .ok (.iload 4, 2) := by decide +kernel
theorem dX11_runsUpdate_15 : decode cX11_runsUpdate 15 = .ok (.invokevirtual 120, 3) := by decide +kernel
theorem dX11_runsUpdate_18 : decode cX11_runsUpdate 18 = .ok (.return_, 1) := by decide +kernel
theorem dX11_runsDelete_0 : decode cX11_runsDelete 0 = .ok (.aload_n 0, 1) := by decide +kernel
theorem dX11_runsDelete_1 : decode cX11_runsDelete 1 = .ok (.iconst 1, 1) := by decide +kernel
theorem dX11_runsDelete_2 : decode cX11_runsDelete 2 = .ok (.iconst 2, 1) := by decide +kernel
theorem dX11_runsDelete_3 : decode cX11_runsDelete 3 = .ok (.iload_n 2, 1) := by decide +kernel
theorem dX11_runsDelete_4 : decode cX11_runsDelete 4 = .ok (.sipush (-1006), 3) := by decide +kernel
theorem dX11_runsDelete_7 : decode cX11_runsDelete 7 = .ok (.invokevirtual 86, 3) := by decide +kernel
theorem dX11_runsDelete_10 : decode cX11_runsDelete 10 = .ok (.aload_n 0, 1) := by decide +kernel
theorem dX11_runsDelete_11 : decode cX11_runsDelete 11 = .ok (.iload_n 1, 1) := by decide +kernel
theorem dX11_runsDelete_12 : decode cX11_runsDelete 12 = .ok (.iconst 0, 1) := by decide +kernel
theorem dX11_runsDelete_13 : decode cX11_runsDelete 13 = .ok (.iconst 0, 1) := by decide +kernel
theorem dX11_runsDelete_14 : decode cX11_runsDelete 14 = .ok (.invokevirtual 120, 3) := by decide +kernel
theorem dX11_runsDelete_17 : decode cX11_runsDelete 17 = .ok (.return_, 1) := by decide +kernel
theorem dX11_ends_0 : decode cX11_ends 0 = .ok (.aload_n 0, 1) := by decide +kernel
theorem dX11_ends_1 : decode cX11_ends 1 = .ok (.getfield 48, 3) := by decide +kernel
theorem dX11_ends_4 : decode cX11_ends 4 = .ok (.ifCond .le 7, 3) := by decide +kernel
theorem dX11_ends_7 : decode cX11_ends 7 = .ok (.sipush (-1005), 3) := by decide +kernel
theorem dX11_ends_10 : decode cX11_ends 10 = .ok (.ireturn, 1) := by decide +kernel
theorem dX11_ends_11 : decode cX11_ends 11 = .ok (.aload_n 0, 1) := by decide +kernel
theorem dX11_ends_12 : decode cX11_ends 12 = .ok (.invokevirtual 123, 3) := by decide +kernel
theorem dX11_ends_15 : decode cX11_ends 15 = .ok (.aload_n 0, 1) := by decide +kernel
theorem dX11_ends_16 : decode cX11_ends 16 = .ok (.getfield 64, 3) := by decide +kernel
theorem dX11_ends_19 : decode cX11_ends 19 = .ok (.ireturn, 1) := by decide +kernel
theorem dX11_whyNotInsertHere_0 : decode cX11_whyNotInsertHere 0 = .ok (.iload_n 1, 1) := by decide +kernel
theorem dX11_whyNotInsertHere_1 : decode cX11_whyNotInsertHere 1 = .ok (.invokestatic 57, 3) := by decide +kernel
theorem dX11_whyNotInsertHere_4 : decode cX11_whyNotInsertHere 4 = .ok (.ifCond .eq 29, 3) := by decide +kernel
theorem dX11_whyNotInsertHere_7 : decode cX11_whyNotInsertHere 7 = .ok (.iload_n 2, 1) := by decide +kernel
theorem dX11_whyNotInsertHere_8 : decode cX11_whyNotInsertHere 8 = .ok (.invokestatic 126, 3) := by decide +kernel
theorem dX11_whyNotInsertHere_11 : decode cX11_whyNotInsertHere 11 = .ok (.ifCond .eq 22, 3) := by decide +kernel
theorem dX11_whyNotInsertHere_14 : decode cX11_whyNotInsertHere 14 = .ok (.iload_n 3, 1) := by decide +kernel
theorem dX11_whyNotInsertHere_15 : decode cX11_whyNotInsertHere 15 = .ok (.invokestatic 126, 3) := by decide +kernel
theorem dX11_whyNotInsertHere_18 : decode cX11_whyNotInsertHere 18 = .ok (.ifCond .eq 15, 3) := by decide +kernel
theorem dX11_whyNotInsertHere_21 : decode cX11_whyNotInsertHere 21 = .ok (.iload 4, 2) := by decide +kernel
theorem dX11_whyNotInsertHere_23 : decode cX11_whyNotInsertHere 23 = .ok (.invokestatic 126, 3) := by decide +kernel
theorem dX11_whyNotInsertHere_26 : decode cX11_whyNotInsertHere 26 = .ok (.ifCond .eq 7, 3) := by decide +kernel
theorem dX11_whyNotInsertHere_29 : decode cX11_whyNotInsertHere 29 = .ok (.iconst 1, 1) := by decide +kernel
theorem dX11_whyNotInsertHere_30 : decode cX11_whyNotInsertHere 30 = .ok (.goto 4, 3) := by decide +kernel
theorem dX11_whyNotInsertHere_33 : decode cX11_whyNotInsertHere 33 = .ok (.iconst 0, 1) := by decide +kernel
theorem dX11_whyNotInsertHere_34 : decode cX11_whyNotInsertHere 34 = .ok (.istore 5, 2) := by decide +kernel
theorem dX11_whyNotInsertHere_36 : decode cX11_whyNotInsertHere 36 = .ok (.iload 5, 2) := by decide +kernel
theorem dX11_whyNotInsertHere_38 : decode cX11_whyNotInsertHere 38 = .ok (.ifCond .eq 12, 3) := by decide +kernel
theorem dX11_whyNotInsertHere_41 : decode cX11_whyNotInsertHere 41 = .ok (.aload_n 0, 1) := by decide +kernel
theorem dX11_whyNotInsertHere_42 : decode cX11_whyNotInsertHere 42 = .ok (.iconst 0, 1) := by decide +kernel
theorem dX11_whyNotInsertHere_43 : decode cX11_whyNotInsertHere 43 = .ok (.iload_n 1, 1) := by decide +kernel
theorem dX11_whyNotInsertHere_44 : decode cX11_whyNotInsertHere 44 = .ok (.invokevirtual 129, 3) := by decide +kernel
theorem dX11_whyNotInsertHere_47 : decode cX11_whyNotInsertHere 47 = .ok (.goto 6, 3) := by decide +kernel
theorem dX11_whyNotInsertHere_50 : decode cX11_whyNotInsertHere 50 = .ok (.sipush (-1002), 3) := by decide +kernel
theorem dX11_whyNotInsertHere_53 : decode cX11_whyNotInsertHere 53 = .ok (.ireturn, 1) := by decide +kernel
theorem dX11_whyNotUpdateHere_0 : decode cX11_whyNotUpdateHere 0 = .ok (.aload_n 0, 1) := by decide +kernel
theorem dX11_whyNotUpdateHere_1 : decode cX11_whyNotUpdateHere 1 = .ok (.iconst 0, 1) := by decide +kernel
theorem dX11_whyNotUpdateHere_2 : decode cX11_whyNotUpdateHere 2 = .ok (.iload_n 1, 1) := by decide +kernel
theorem dX11_whyNotUpdateHere_3 : decode cX11_whyNotUpdateHere 3 = .ok (.invokevirtual 54, 3) := by decide +kernel
theorem dX11_whyNotUpdateHere_6 : decode cX11_whyNotUpdateHere 6 = .ok (.ifCond .ge 7, 3) := by decide +kernel
theorem dX11_whyNotUpdateHere_9 : decode cX11_whyNotUpdateHere 9 = .ok (.sipush (-1001), 3) := by decide +kernel
theorem dX11_whyNotUpdateHere_12 : decode cX11_whyNotUpdateHere 12 = .ok (.ireturn, 1) := by decide +kernel
theorem dX11_whyNotUpdateHere_13 : decode cX11_whyNotUpdateHere 13 = .ok (.iload_n 2, 1) := by decide +kernel
theorem dX11_whyNotUpdateHere_14 : decode cX11_whyNotUpdateHere 14 = .ok (.iconst 0, 1) := by decide +kernel
theorem dX11_whyNotUpdateHere_15 : decode cX11_whyNotUpdateHere 15 = .ok (.iconst 2, 1) := by decide +kernel
theorem dX11_whyNotUpdateHere_16 : decode cX11_whyNotUpdateHere 16 = .ok (.invokestatic 25, 3) := by decide +kernel
theorem dX11_whyNotUpdateHere_19 : decode cX11_whyNotUpdateHere 19 = .ok (.ifCond .eq 21, 3) := by decide +kernel
theorem dX11_whyNotUpdateHere_22 : decode cX11_whyNotUpdateHere 22 = .ok (.iload_n 3, 1) := by decide +kernel
theorem dX11_whyNotUpdateHere_23 : decode cX11_whyNotUpdateHere 23 = .ok (.invokestatic 126, 3) := by decide +kernel
theorem dX11_whyNotUpdateHere_26 : decode cX11_whyNotUpdateHere 26 = .ok (.ifCond .eq 14, 3) := by decide +kernel
theorem dX11_whyNotUpdateHere_29 : decode cX11_whyNotUpdateHere 29 = .ok (.aload_n 0, 1) := by decide +kernel
theorem dX11_whyNotUpdateHere_30 : decode cX11_whyNotUpdateHere 30 = .ok (.iconst 0, 1) := by decide +kernel
theorem dX11_whyNotUpdateHere_31 : decode cX11_whyNotUpdateHere 31 = .ok (.iload_n 1, 1) := by decide +kernel
theorem dX11_whyNotUpdateHere_32 : decode cX11_whyNotUpdateHere 32 = .ok (.iload_n 2, 1) := by decide +kernel
theorem dX11_whyNotUpdateHere_33 : decode cX11_whyNotUpdateHere 33 = .ok (.iload_n 3, 1) := by decide +kernel
theorem dX11_whyNotUpdateHere_34 : decode cX11_whyNotUpdateHere 34 = .ok (.invokevirtual 132, 3) := by decide +kernel
theorem dX11_whyNotUpdateHere_37 : decode cX11_whyNotUpdateHere 37 = .ok (.goto 6, 3) := by decide +kernel
theorem dX11_whyNotUpdateHere_40 : decode cX11_whyNotUpdateHere 40 = .ok (.sipush (-1002), 3) := by decide +kernel
theorem dX11_whyNotUpdateHere_43 : decode cX11_whyNotUpdateHere 43 = .ok (.ireturn, 1) := by decide +kernel
theorem dX11_insert_0 : decode cX11_insert 0 = .ok (.aload_n 0, 1) := by decide +kernel
theorem dX11_insert_1 : decode cX11_insert 1 = .ok (.iload_n 1, 1) := by decide +kernel
theorem dX11_insert_2 : decode cX11_insert 2 = .ok (.iload_n 2, 1) := by decide +kernel
theorem dX11_insert_3 : decode cX11_insert 3 = .ok (.iload_n 3, 1) := by decide +kernel
theorem dX11_insert_4 : decode cX11_insert 4 = .ok (.iload 4, 2) := by decide +kernel
theorem dX11_insert_6 : decode cX11_insert 6 = .ok (.invokevirtual 135, 3) := by decide +kernel
theorem dX11_insert_9 : decode cX11_insert 9 = .ok (.istore 5, 2) := by decide +kernel
theorem dX11_insert_11 : decode cX11_insert 11 = .ok (.iload 5, 2) := by decide +kernel
theorem dX11_insert_13 : decode cX11_insert 13 = .ok (.ifCond .eq 6, 3) := by decide +kernel
theorem dX11_insert_16 : decode cX11_insert 16 = .ok (.iload 5, 2) := by decide +kernel
theorem dX11_insert_18 : decode cX11_insert 18 = .ok (.ireturn, 1) := by decide +kernel
theorem dX11_insert_19 : decode cX11_insert 19 = .ok (.aload_n 0, 1) := by decide +kernel
theorem dX11_insert_20 : decode cX11_insert 20 = .ok (.iconst 0, 1) := by decide +kernel
theorem dX11_insert_21 : decode cX11_insert 21 = .ok (.sipush 413, 3) := by decide +kernel
theorem dX11_insert_24 : decode cX11_insert 24 = .ok (.invokevirtual 36, 3) := by decide +kernel
theorem dX11_insert_27 : decode cX11_insert 27 = .ok (.aload_n 0, 1) := by decide +kernel
theorem dX11_insert_28 : decode cX11_insert 28 = .ok (.sipush 413, 3) := by decide +kernel
theorem dX11_insert_31 : decode cX11_insert 31 = .ok (.iload_n 1, 1) := by decide +kernel
theorem dX11_insert_32 : decode cX11_insert 32 = .ok (.iload_n 2, 1) := by decide +kernel
theorem dX11_insert_33 : decode cX11_insert 33 = .ok (.iload_n 3, 1) := by decide +kernel
theorem dX11_insert_34 : decode cX11_insert 34 = .ok (.iload 4, 2) := by decide +kernel
theorem dX11_insert_36 : decode cX11_insert 36 = .ok (.invokevirtual 138, 3) := by decide +kernel
theorem dX11_insert_39 : decode cX11_insert 39 = .ok (.aload_n 0, 1) := by decide +kernel
theorem dX11_insert_40 : decode cX11_insert 40 = .ok (.invokevirtual 142, 3) := by decide +kernel
theorem dX11_insert_43 : decode cX11_insert 43 = .ok (.ireturn, 1) := by decide +kernel
theorem dX11_update_0 : decode cX11_update 0 = .ok (.aload_n 0, 1) := by decide +kernel
theorem dX11_update_1 : decode cX11_update 1 = .ok (.iload_n 1, 1) := by decide +kernel
theorem dX11_update_2 : decode cX11_update 2 = .ok (.iload_n 2, 1) := by decide +kernel
theorem dX11_update_3 : decode cX11_update 3 = .ok (.iload_n 3, 1) := by decide +kernel
theorem dX11_update_4 : decode cX11_update 4 = .ok (.invokevirtual 146, 3) := by decide +kernel
theorem dX11_update_7 : decode cX11_update 7 = .ok (.istore 4, 2) := by decide +kernel
theorem dX11_update_9 : decode cX11_update 9 = .ok (.iload 4, 2) := by decide +kernel
theorem dX11_update_11 : decode cX11_update 11 = .ok (.ifCond .eq 6, 3) := by decide +kernel
theorem dX11_update_14 : decode cX11_update 14 = .ok (.iload 4, 2) := by decide +kernel
theorem dX11_update_16 : decode cX11_update 16 = .ok (.ireturn, 1) := by decide +kernel
theorem dX11_update_17 : decode cX11_update 17 = .ok (.aload_n 0, 1) := by decide +kernel
theorem dX11_update_18 : decode cX11_update 18 = .ok (.iconst 0, 1) := by decide +kernel
theorem dX11_update_19 : decode cX11_update 19 = .ok (.sipush 413, 3) := by decide +kernel
theorem dX11_update_22 : decode cX11_update 22 = .ok (.invokevirtual 36, 3) := by decide +kernel
theorem dX11_update_25 : decode cX11_update 25 = .ok (.aload_n 0, 1) := by decide +kernel
theorem dX11_update_26 : decode cX11_update 26 = .ok (.sipush 413, 3) := by decide +kernel
theorem dX11_update_29 : decode cX11_update 29 = .ok (.iload_n 1, 1) := by decide +kernel
theorem dX11_update_30 : decode cX11_update 30 = .ok (.iload_n 2, 1) := by decide +kernel
theorem dX11_update_31 : decode cX11_update 31 = .ok (.iload_n 3, 1) := by decide +kernel
theorem dX11_update_32 : decode cX11_update 32 = .ok (.invokevirtual 149, 3) := by decide +kernel
theorem dX11_update_35 : decode cX11_update 35 = .ok (.aload_n 0, 1) := by decide +kernel
theorem dX11_update_36 : decode cX11_update 36 = .ok (.invokevirtual 142, 3) := by decide +kernel
theorem dX11_update_39 : decode cX11_update 39 = .ok (.ireturn, 1) := by decide +kernel
theorem dX11_delete_0 : decode cX11_delete 0 = .ok (.aload_n 0, 1) := by decide +kernel
theorem dX11_delete_1 : decode cX11_delete 1 = .ok (.iconst 0, 1) := by decide +kernel
theorem dX11_delete_2 : decode cX11_delete 2 = .ok (.iload_n 1, 1) := by decide +kernel
theorem dX11_delete_3 : decode cX11_delete 3 = .ok (.invokevirtual 54, 3) := by decide +kernel
theorem dX11_delete_6 : decode cX11_delete 6 = .ok (.ifCond .ge 7, 3) := by decide +kernel
theorem dX11_delete_9 : decode cX11_delete 9 = .ok (.sipush (-1001), 3) := by decide +kernel
theorem dX11_delete_12 : decode cX11_delete 12 = .ok (.ireturn, 1) := by decide +kernel
theorem dX11_delete_13 : decode cX11_delete 13 = .ok (.aload_n 0, 1) := by decide +kernel
theorem dX11_delete_14 : decode cX11_delete 14 = .ok (.iconst 0, 1) := by decide +kernel
theorem dX11_delete_15 : decode cX11_delete 15 = .ok (.sipush 413, 3) := by decide +kernel
theorem dX11_delete_18 : decode cX11_delete 18 = .ok (.invokevirtual 36, 3) := by decide +kernel
theorem dX11_delete_21 : decode cX11_delete 21 = .ok (.aload_n 0, 1) := by decide +kernel
theorem dX11_delete_22 : decode cX11_delete 22 = .ok (.sipush 413, 3) := by decide +kernel
theorem dX11_delete_25 : decode cX11_delete 25 = .ok (.iload_n 1, 1) := by decide +kernel
theorem dX11_delete_26 : decode cX11_delete 26 = .ok (.invokevirtual 152, 3) := by decide +kernel
theorem dX11_delete_29 : decode cX11_delete 29 = .ok (.aload_n 0, 1) := by decide +kernel
theorem dX11_delete_30 : decode cX11_delete 30 = .ok (.invokevirtual 142, 3) := by decide +kernel
theorem dX11_delete_33 : decode cX11_delete 33 = .ok (.ireturn, 1) := by decide +kernel
theorem dX11_addRule_0 : decode cX11_addRule 0 = .ok (.iload_n 2, 1) := by decide +kernel
theorem dX11_addRule_1 : decode cX11_addRule 1 = .ok (.ifCond .ne 13, 3) := by decide +kernel
theorem dX11_addRule_4 : decode cX11_addRule 4 = .ok (.iload 4, 2) := by decide +kernel
theorem dX11_addRule_6 : decode cX11_addRule 6 = .ok (.iconst 0, 1) := by decide +kernel
theorem dX11_addRule_7 : decode cX11_addRule 7 = .ok (.iconst 2, 1) := by decide +kernel
theorem dX11_addRule_8 : decode cX11_addRule 8 = .ok (.invokestatic 25, 3) := by decide +kernel
theorem dX11_addRule_11 : decode cX11_addRule 11 = .ok (.goto 24, 3) := by decide +kernel
theorem dX11_addRule_14 : decode cX11_addRule 14 = .ok (.iload 4, 2) := by decide +kernel
theorem dX11_addRule_16 : decode cX11_addRule 16 = .ok (.iconst 1, 1) := by decide +kernel
theorem dX11_addRule_17 : decode cX11_addRule 17 = .ok (.if_icmp .eq 13, 3) := by decide +kernel
theorem dX11_addRule_20 : decode cX11_addRule 20 = .ok (.iload 4, 2) := by decide +kernel
theorem dX11_addRule_22 : decode cX11_addRule 22 = .ok (.iconst 3, 1) := by decide +kernel
theorem dX11_addRule_23 : decode cX11_addRule 23 = .ok (.iconst 5, 1) := by decide +kernel
theorem dX11_addRule_24 : decode cX11_addRule 24 = .ok (.invokestatic 25, 3) := by decide +kernel
theorem dX11_addRule_27 : decode cX11_addRule 27 = .ok (.ifCond .eq 7, 3) := by decide +kernel
theorem dX11_addRule_30 : decode cX11_addRule 30 = .ok (.iconst 1, 1) := by decide +kernel
theorem dX11_addRule_31 : decode cX11_addRule 31 = .ok (.goto 4, 3) := by decide +kernel
theorem dX11_addRule_34 : decode cX11_addRule 34 = .ok (.iconst 0, 1) := by decide +kernel
theorem dX11_addRule_35 : decode cX11_addRule 35 = .ok (.istore 8, 2) := by decide +kernel
theorem dX11_addRule_37 : decode cX11_addRule 37 = .ok (.iload_n 1, 1) := by decide +kernel
theorem dX11_addRule_38 : decode cX11_addRule 38 = .ok (.iconst 0, 1) := by decide +kernel
theorem dX11_addRule_39 : decode cX11_addRule 39 = .ok (.iconst 2, 1) := by decide +kernel
theorem dX11_addRule_40 : decode cX11_addRule 40 = .ok (.invokestatic 25, 3) := by decide +kernel
theorem dX11_addRule_43 : decode cX11_addRule 43 = .ok (.ifCond .eq 31, 3) := by decide +kernel
theorem dX11_addRule_46 : decode cX11_addRule 46 = .ok (.iload_n 2, 1) := by decide +kernel
theorem dX11_addRule_47 : decode cX11_addRule 47 = .ok (.iconst 0, 1) := by decide +kernel
theorem dX11_addRule_48 : decode cX11_addRule 48 = .ok (.iconst 1, 1) := by decide +kernel
theorem dX11_addRule_49 : decode cX11_addRule 49 = .ok (.invokestatic 25, 3) := by decide +kernel
theorem dX11_addRule_52 : decode cX11_addRule 52 = .ok (.ifCond .eq 22, 3) := by decide +kernel
theorem dX11_addRule_55 : decode cX11_addRule 55 = .ok (.iload_n 3, 1) := by decide +kernel
theorem dX11_addRule_56 : decode cX11_addRule 56 = .ok (.iconst 0, 1) := by decide +kernel
theorem dX11_addRule_57 : decode cX11_addRule 57 = .ok (.bipush 99, 2) := by decide +kernel
theorem dX11_addRule_59 : decode cX11_addRule 59 = .ok (.invokestatic 25, 3) := by decide +kernel
theorem dX11_addRule_62 : decode cX11_addRule 62 = .ok (.ifCond .eq 12, 3) := by decide +kernel
theorem dX11_addRule_65 : decode cX11_addRule 65 = .ok (.iload 8, 2) := by decide +kernel
theorem dX11_addRule_67 : decode cX11_addRule 67 = .ok (.ifCond .eq 7, 3) := by decide +kernel
theorem dX11_addRule_70 : decode cX11_addRule 70 = .ok (.iconst 1, 1) := by decide +kernel
theorem dX11_addRule_71 : decode cX11_addRule 71 = .ok (.goto 4, 3) := by decide +kernel
theorem dX11_addRule_74 : decode cX11_addRule 74 = .ok (.iconst 0, 1) := by decide +kernel
theorem dX11_addRule_75 : decode cX11_addRule 75 = .ok (.istore 9, 2) := by decide +kernel
theorem dX11_addRule_77 : decode cX11_addRule 77 = .ok (.iload 9, 2) := by decide +kernel
theorem dX11_addRule_79 : decode cX11_addRule 79 = .ok (.ifCond .eq 31, 3) := by decide +kernel
theorem dX11_addRule_82 : decode cX11_addRule 82 = .ok (.iload 5, 2) := by decide +kernel
theorem dX11_addRule_84 : decode cX11_addRule 84 = .ok (.iconst 0, 1) := by decide +kernel
theorem dX11_addRule_85 : decode cX11_addRule 85 = .ok (.iconst 2, 1) := by decide +kernel
theorem dX11_addRule_86 : decode cX11_addRule 86 = .ok (.invokestatic 25, 3) := by decide +kernel
theorem dX11_addRule_89 : decode cX11_addRule 89 = .ok (.ifCond .eq 21, 3) := by decide +kernel
theorem dX11_addRule_92 : decode cX11_addRule 92 = .ok (.iload 6, 2) := by decide +kernel
theorem dX11_addRule_94 : decode cX11_addRule 94 = .ok (.iconst 0, 1) := by decide +kernel
theorem dX11_addRule_95 : decode cX11_addRule 95 = .ok (.iconst 3, 1) := by decide +kernel
theorem dX11_addRule_96 : decode cX11_addRule 96 = .ok (.invokestatic 25, 3) := by decide +kernel
theorem dX11_addRule_99 : decode cX11_addRule 99 = .ok (.ifCond .eq 11, 3) := by decide +kernel
theorem dX11_addRule_102 : decode cX11_addRule 102 = .ok (.iload 7, 2) := by decide +kernel
theorem dX11_addRule_104 : decode cX11_addRule 104 = .ok (.invokestatic 126, 3) := by decide +kernel
theorem dX11_addRule_107 : decode cX11_addRule 107 = .ok (.ifCond .ne 7, 3) := by decide +kernel
theorem dX11_addRule_110 : decode cX11_addRule 110 = .ok (.sipush (-1002), 3) := by decide +kernel
theorem dX11_addRule_113 : decode cX11_addRule 113 = .ok (.ireturn, 1) := by decide +kernel
theorem dX11_addRule_114 : decode cX11_addRule 114 = .ok (.aload_n 0, 1) := by decide +kernel
theorem dX11_addRule_115 : decode cX11_addRule 115 = .ok (.getfield 7, 3) := by decide +kernel
theorem dX11_addRule_118 : decode cX11_addRule 118 = .ok (.bipush 81, 2) := by decide +kernel
theorem dX11_addRule_120 : decode cX11_addRule 120 = .ok (.iaload, 1) := by decide +kernel
theorem dX11_addRule_121 : decode cX11_addRule 121 = .ok (.bipush 12, 2) := by decide +kernel
theorem dX11_addRule_123 : decode cX11_addRule 123 = .ok (.if_icmp .ne 7, 3) := by decide +kernel
theorem dX11_addRule_126 : decode cX11_addRule 126 = .ok (.sipush (-1003), 3) := by decide +kernel
theorem dX11_addRule_129 : decode cX11_addRule 129 = .ok (.ireturn, 1) := by decide +kernel
theorem dX11_addRule_130 : decode cX11_addRule 130 = .ok (.aload_n 0, 1) := by decide +kernel
theorem dX11_addRule_131 : decode cX11_addRule 131 = .ok (.invokevirtual 33, 3) := by decide +kernel
theorem dX11_addRule_134 : decode cX11_addRule 134 = .ok (.iconst 0, 1) := by decide +kernel
theorem dX11_addRule_135 : decode cX11_addRule 135 = .ok (.aload_n 0, 1) := by decide +kernel
theorem dX11_addRule_136 : decode cX11_addRule 136 = .ok (.getfield 7, 3) := by decide +kernel
theorem dX11_addRule_139 : decode cX11_addRule 139 = .ok (.bipush 81, 2) := by decide +kernel
theorem dX11_addRule_141 : decode cX11_addRule 141 = .ok (.iaload, 1) := by decide +kernel
theorem dX11_addRule_142 : decode cX11_addRule 142 = .ok (.invokestatic 40, 3) := by decide +kernel
theorem dX11_addRule_145 : decode cX11_addRule 145 = .ok (.istore 10, 2) := by decide +kernel
theorem dX11_addRule_147 : decode cX11_addRule 147 = .ok (.aload_n 0, 1) := by decide +kernel
theorem dX11_addRule_148 : decode cX11_addRule 148 = .ok (.getfield 7, 3) := by decide +kernel
theorem dX11_addRule_151 : decode cX11_addRule 151 = .ok (.iload 10, 2) := by decide +kernel
theorem dX11_addRule_153 : decode cX11_addRule 153 = .ok (.iconst 0, 1) := by decide +kernel
theorem dX11_addRule_154 : decode cX11_addRule 154 = .ok (.iadd, 1) := by decide +kernel
theorem dX11_addRule_155 : decode cX11_addRule 155 = .ok (.iload_n 1, 1) := by decide +kernel
theorem dX11_addRule_156 : decode cX11_addRule 156 = .ok (.iastore, 1) := by decide +kernel
theorem dX11_addRule_157 : decode cX11_addRule 157 = .ok (.aload_n 0, 1) := by decide +kernel
theorem dX11_addRule_158 : decode cX11_addRule 158 = .ok (.getfield 7, 3) := by decide +kernel
theorem dX11_addRule_161 : decode cX11_addRule 161 = .ok (.iload 10, 2) := by decide +kernel
theorem dX11_addRule_163 : decode cX11_addRule 163 = .ok (.iconst 1, 1) := by decide +kernel
theorem dX11_addRule_164 : decode cX11_addRule 164 = .ok (.iadd, 1) := by decide +kernel
theorem dX11_addRule_165 : decode cX11_addRule 165 = .ok (.iload_n 2, 1) := by decide +kernel
theorem dX11_addRule_166 : decode cX11_addRule 166 = .ok (.iastore, 1) := by decide +kernel
theorem dX11_addRule_167 : decode cX11_addRule 167 = .ok (.aload_n 0, 1) := by decide +kernel
theorem dX11_addRule_168 : decode cX11_addRule 168 = .ok (.getfield 7, 3) := by decide +kernel
theorem dX11_addRule_171 : decode cX11_addRule 171 = .ok (.iload 10, 2) := by decide +kernel
theorem dX11_addRule_173 : decode cX11_addRule 173 = .ok (.iconst 2, 1) := by decide +kernel
theorem dX11_addRule_174 : decode cX11_addRule 174 = .ok (.iadd, 1) := by decide +kernel
theorem dX11_addRule_175 : decode cX11_addRule 175 = .ok (.iload_n 3, 1) := by decide +kernel
theorem dX11_addRule_176 : decode cX11_addRule 176 = .ok (.iastore, 1) := by decide +kernel
theorem dX11_addRule_177 : decode cX11_addRule 177 = .ok (.aload_n 0, 1) := by decide +kernel
theorem dX11_addRule_178 : decode cX11_addRule 178 = .ok (.getfield 7, 3) := by decide +kernel
theorem dX11_addRule_181 : decode cX11_addRule 181 = .ok (.iload 10, 2) := by decide +kernel
theorem dX11_addRule_183 : decode cX11_addRule 183 = .ok (.iconst 3, 1) := by decide +kernel
theorem dX11_addRule_184 : decode cX11_addRule 184 = .ok (.iadd, 1) := by decide +kernel
theorem dX11_addRule_185 : decode cX11_addRule 185 = .ok (.iload 4, 2) := by decide +kernel
theorem dX11_addRule_187 : decode cX11_addRule 187 = .ok (.iastore, 1) := by decide +kernel
theorem dX11_addRule_188 : decode cX11_addRule 188 = .ok (.aload_n 0, 1) := by decide +kernel
theorem dX11_addRule_189 : decode cX11_addRule 189 = .ok (.getfield 7, 3) := by decide +kernel
theorem dX11_addRule_192 : decode cX11_addRule 192 = .ok (.iload 10, 2) := by decide +kernel
theorem dX11_addRule_194 : decode cX11_addRule 194 = .ok (.iconst 4, 1) := by decide +kernel
theorem dX11_addRule_195 : decode cX11_addRule 195 = .ok (.iadd, 1) := by decide +kernel
theorem dX11_addRule_196 : decode cX11_addRule 196 = .ok (.iload 5, 2) := by decide +kernel
theorem dX11_addRule_198 : decode cX11_addRule 198 = .ok (.iastore, 1) := by decide +kernel
theorem dX11_addRule_199 : decode cX11_addRule 199 = .ok (.aload_n 0, 1) := by decide +kernel
theorem dX11_addRule_200 : decode cX11_addRule 200 = .ok (.getfield 7, 3) := by decide +kernel
theorem dX11_addRule_203 : decode cX11_addRule 203 = .ok (.iload 10, 2) := by decide +kernel
theorem dX11_addRule_205 : decode cX11_addRule 205 = .ok (.iconst 5, 1) := by decide +kernel
theorem dX11_addRule_206 : decode cX11_addRule 206 = .ok (.iadd, 1) := by decide +kernel
theorem dX11_addRule_207 : decode cX11_addRule 207 = .ok (.iload 6, 2) := by decide +kernel
theorem dX11_addRule_209 : decode cX11_addRule 209 = .ok (.iastore, 1) := by decide +kernel
theorem dX11_addRule_210 : decode cX11_addRule 210 = .ok (.aload_n 0, 1) := by decide +kernel
theorem dX11_addRule_211 : decode cX11_addRule 211 = .ok (.getfield 7, 3) := by decide +kernel
theorem dX11_addRule_214 : decode cX11_addRule 214 = .ok (.iload 10, 2) := by decide +kernel
theorem dX11_addRule_216 : decode cX11_addRule 216 = .ok (.bipush 6, 2) := by decide +kernel
theorem dX11_addRule_218 : decode cX11_addRule 218 = .ok (.iadd, 1) := by decide +kernel
theorem dX11_addRule_219 : decode cX11_addRule 219 = .ok (.iload 7, 2) := by decide +kernel
theorem dX11_addRule_221 : decode cX11_addRule 221 = .ok (.iastore, 1) := by decide +kernel
theorem dX11_addRule_222 : decode cX11_addRule 222 = .ok (.aload_n 0, 1) := by decide +kernel
theorem dX11_addRule_223 : decode cX11_addRule 223 = .ok (.getfield 7, 3) := by decide +kernel
theorem dX11_addRule_226 : decode cX11_addRule 226 = .ok (.iload 10, 2) := by decide +kernel
theorem dX11_addRule_228 : decode cX11_addRule 228 = .ok (.bipush 7, 2) := by decide +kernel
theorem dX11_addRule_230 : decode cX11_addRule 230 = .ok (.iadd, 1) := by decide +kernel
theorem dX11_addRule_231 : decode cX11_addRule 231 = .ok (.iconst 3, 1) := by decide +kernel
theorem dX11_addRule_232 : decode cX11_addRule 232 = .ok (.iastore, 1) := by decide +kernel
theorem dX11_addRule_233 : decode cX11_addRule 233 = .ok (.aload_n 0, 1) := by decide +kernel
theorem dX11_addRule_234 : decode cX11_addRule 234 = .ok (.getfield 7, 3) := by decide +kernel
theorem dX11_addRule_237 : decode cX11_addRule 237 = .ok (.iload 10, 2) := by decide +kernel
theorem dX11_addRule_239 : decode cX11_addRule 239 = .ok (.bipush 8, 2) := by decide +kernel
theorem dX11_addRule_241 : decode cX11_addRule 241 = .ok (.iadd, 1) := by decide +kernel
theorem dX11_addRule_242 : decode cX11_addRule 242 = .ok (.iconst 4, 1) := by decide +kernel
theorem dX11_addRule_243 : decode cX11_addRule 243 = .ok (.iastore, 1) := by decide +kernel
theorem dX11_addRule_244 : decode cX11_addRule 244 = .ok (.aload_n 0, 1) := by decide +kernel
theorem dX11_addRule_245 : decode cX11_addRule 245 = .ok (.getfield 7, 3) := by decide +kernel
theorem dX11_addRule_248 : decode cX11_addRule 248 = .ok (.iload 10, 2) := by decide +kernel
theorem dX11_addRule_250 : decode cX11_addRule 250 = .ok (.bipush 9, 2) := by decide +kernel
theorem dX11_addRule_252 : decode cX11_addRule 252 = .ok (.iadd, 1) := by decide +kernel
theorem dX11_addRule_253 : decode cX11_addRule 253 = .ok (.iconst 0, 1) := by decide +kernel
theorem dX11_addRule_254 : decode cX11_addRule 254 = .ok (.iastore, 1) := by decide +kernel
theorem dX11_addRule_255 : decode cX11_addRule 255 = .ok (.aload_n 0, 1) := by decide +kernel
theorem dX11_addRule_256 : decode cX11_addRule 256 = .ok (.getfield 7, 3) := by decide +kernel
theorem dX11_addRule_259 : decode cX11_addRule 259 = .ok (.iload 10, 2) := by decide +kernel
theorem dX11_addRule_261 : decode cX11_addRule 261 = .ok (.bipush 10, 2) := by decide +kernel
theorem dX11_addRule_263 : decode cX11_addRule 263 = .ok (.iadd, 1) := by decide +kernel
theorem dX11_addRule_264 : decode cX11_addRule 264 = .ok (.iconst 1, 1) := by decide +kernel
theorem dX11_addRule_265 : decode cX11_addRule 265 = .ok (.iastore, 1) := by decide +kernel
theorem dX11_addRule_266 : decode cX11_addRule 266 = .ok (.aload_n 0, 1) := by decide +kernel
theorem dX11_addRule_267 : decode cX11_addRule 267 = .ok (.getfield 7, 3) := by decide +kernel
theorem dX11_addRule_270 : decode cX11_addRule 270 = .ok (.iload 10, 2) := by decide +kernel
theorem dX11_addRule_272 : decode cX11_addRule 272 = .ok (.bipush 11, 2) := by decide +kernel
theorem dX11_addRule_274 : decode cX11_addRule 274 = .ok (.iadd, 1) := by decide +kernel
theorem dX11_addRule_275 : decode cX11_addRule 275 = .ok (.iconst 0, 1) := by decide +kernel
theorem dX11_addRule_276 : decode cX11_addRule 276 = .ok (.iastore, 1) := by decide +kernel
theorem dX11_addRule_277 : decode cX11_addRule 277 = .ok (.aload_n 0, 1) := by decide +kernel
theorem dX11_addRule_278 : decode cX11_addRule 278 = .ok (.getfield 7, 3) := by decide +kernel
theorem dX11_addRule_281 : decode cX11_addRule 281 = .ok (.bipush 81, 2) := by decide +kernel
theorem dX11_addRule_283 : decode cX11_addRule 283 = .ok (.dup2, 1) := by decide +kernel
theorem dX11_addRule_284 : decode cX11_addRule 284 = .ok (.iaload, 1) := by decide +kernel
theorem dX11_addRule_285 : decode cX11_addRule 285 = .ok (.iconst 1, 1) := by decide +kernel
theorem dX11_addRule_286 : decode cX11_addRule 286 = .ok (.iadd, 1) := by decide +kernel
theorem dX11_addRule_287 : decode cX11_addRule 287 = .ok (.iastore, 1) := by decide +kernel
theorem dX11_addRule_288 : decode cX11_addRule 288 = .ok (.aload_n 0, 1) := by decide +kernel
theorem dX11_addRule_289 : decode cX11_addRule 289 = .ok (.getfield 7, 3) := by decide +kernel
theorem dX11_addRule_292 : decode cX11_addRule 292 = .ok (.bipush 81, 2) := by decide +kernel
theorem dX11_addRule_294 : decode cX11_addRule 294 = .ok (.iaload, 1) := by decide +kernel
theorem dX11_addRule_295 : decode cX11_addRule 295 = .ok (.iconst 1, 1) := by decide +kernel
theorem dX11_addRule_296 : decode cX11_addRule 296 = .ok (.isub, 1) := by decide +kernel
theorem dX11_addRule_297 : decode cX11_addRule 297 = .ok (.ireturn, 1) := by decide +kernel
theorem dX11_setCondition_0 : decode cX11_setCondition 0 = .ok (.aload_n 0, 1) := by decide +kernel
theorem dX11_setCondition_1 : decode cX11_setCondition 1 = .ok (.iload_n 1, 1) := by decide +kernel
theorem dX11_setCondition_2 : decode cX11_setCondition 2 = .ok (.invokevirtual 155, 3) := by decide +kernel
theorem dX11_setCondition_5 : decode cX11_setCondition 5 = .ok (.ifCond .ne 7, 3) := by decide +kernel
theorem dX11_setCondition_8 : decode cX11_setCondition 8 = .ok (.sipush (-1001), 3) := by decide +kernel
theorem dX11_setCondition_11 : decode cX11_setCondition 11 = .ok (.ireturn, 1) := by decide +kernel
theorem dX11_setCondition_12 : decode cX11_setCondition 12 = .ok (.iload_n 2, 1) := by decide +kernel
theorem dX11_setCondition_13 : decode cX11_setCondition 13 = .ok (.iconst 0, 1) := by decide +kernel
theorem dX11_setCondition_14 : decode cX11_setCondition 14 = .ok (.iconst 3, 1) := by decide +kernel
theorem dX11_setCondition_15 : decode cX11_setCondition 15 = .ok (.invokestatic 25, 3) := by decide +kernel
theorem dX11_setCondition_18 : decode cX11_setCondition 18 = .ok (.ifCond .eq 20, 3) := by decide +kernel
theorem dX11_setCondition_21 : decode cX11_setCondition 21 = .ok (.iload_n 3, 1) := by decide +kernel
theorem dX11_setCondition_22 : decode cX11_setCondition 22 = .ok (.iconst 0, 1) := by decide +kernel
theorem dX11_setCondition_23 : decode cX11_setCondition 23 = .ok (.iconst 5, 1) := by decide +kernel
theorem dX11_setCondition_24 : decode cX11_setCondition 24 = .ok (.invokestatic 25, 3) := by decide +kernel
theorem dX11_setCondition_27 : decode cX11_setCondition 27 = .ok (.ifCond .eq 11, 3) := by decide +kernel
theorem dX11_setCondition_30 : decode cX11_setCondition 30 = .ok (.iload 4, 2) := by decide +kernel
theorem dX11_setCondition_32 : decode cX11_setCondition 32 = .ok (.invokestatic 126, 3) := by decide +kernel
theorem dX11_setCondition_35 : decode cX11_setCondition 35 = .ok (.ifCond .ne 7, 3) := by decide +kernel
theorem dX11_setCondition_38 : decode cX11_setCondition 38 = .ok (.sipush (-1002), 3) := by decide +kernel
theorem dX11_setCondition_41 : decode cX11_setCondition 41 = .ok (.ireturn, 1) := by decide +kernel
theorem dX11_setCondition_42 : decode cX11_setCondition 42 = .ok (.aload_n 0, 1) := by decide +kernel
theorem dX11_setCondition_43 : decode cX11_setCondition 43 = .ok (.invokevirtual 33, 3) := by decide +kernel
theorem dX11_setCondition_46 : decode cX11_setCondition 46 = .ok (.aload_n 0, 1) := by decide +kernel
theorem dX11_setCondition_47 : decode cX11_setCondition 47 = .ok (.getfield 7, 3) := by decide +kernel
theorem dX11_setCondition_50 : decode cX11_setCondition 50 = .ok (.iconst 0, 1) := by decide +kernel
theorem dX11_setCondition_51 : decode cX11_setCondition 51 = .ok (.iload_n 1, 1) := by decide +kernel
theorem dX11_setCondition_52 : decode cX11_setCondition 52 = .ok (.invokestatic 40, 3) := by decide +kernel
theorem dX11_setCondition_55 : decode cX11_setCondition 55 = .ok (.bipush 7, 2) := by decide +kernel
theorem dX11_setCondition_57 : decode cX11_setCondition 57 = .ok (.iadd, 1) := by decide +kernel
theorem dX11_setCondition_58 : decode cX11_setCondition 58 = .ok (.iload_n 2, 1) := by decide +kernel
theorem dX11_setCondition_59 : decode cX11_setCondition 59 = .ok (.iastore, 1) := by decide +kernel
theorem dX11_setCondition_60 : decode cX11_setCondition 60 = .ok (.aload_n 0, 1) := by decide +kernel
theorem dX11_setCondition_61 : decode cX11_setCondition 61 = .ok (.getfield 7, 3) := by decide +kernel
theorem dX11_setCondition_64 : decode cX11_setCondition 64 = .ok (.iconst 0, 1) := by decide +kernel
theorem dX11_setCondition_65 : decode cX11_setCondition 65 = .ok (.iload_n 1, 1) := by decide +kernel
theorem dX11_setCondition_66 : decode cX11_setCondition 66 = .ok (.invokestatic 40, 3) := by decide +kernel
theorem dX11_setCondition_69 : decode cX11_setCondition 69 = .ok (.bipush 8, 2) := by decide +kernel
theorem dX11_setCondition_71 : decode cX11_setCondition 71 = .ok (.iadd, 1) := by decide +kernel
theorem dX11_setCondition_72 : decode cX11_setCondition 72 = .ok (.iload_n 3, 1) := by decide +kernel
theorem dX11_setCondition_73 : decode cX11_setCondition 73 = .ok (.iastore, 1) := by decide +kernel
theorem dX11_setCondition_74 : decode cX11_setCondition 74 = .ok (.aload_n 0, 1) := by decide +kernel
theorem dX11_setCondition_75 : decode cX11_setCondition 75 = .ok (.getfield 7, 3) := by decide +kernel
theorem dX11_setCondition_78 : decode cX11_setCondition 78 = .ok (.iconst 0, 1) := by decide +kernel
theorem dX11_setCondition_79 : decode cX11_setCondition 79 = .ok (.iload_n 1, 1) := by decide +kernel
theorem dX11_setCondition_80 : decode cX11_setCondition 80 = .ok (.invokestatic 40, 3) := by decide +kernel
theorem dX11_setCondition_83 : decode cX11_setCondition 83 = .ok (.bipush 9, 2) := by decide +kernel
theorem dX11_setCondition_85 : decode cX11_setCondition 85 = .ok (.iadd, 1) := by decide +kernel
theorem dX11_setCondition_86 : decode cX11_setCondition 86 = .ok (.iload 4, 2) := by decide +kernel
theorem dX11_setCondition_88 : decode cX11_setCondition 88 = .ok (.iastore, 1) := by decide +kernel
theorem dX11_setCondition_89 : decode cX11_setCondition 89 = .ok (.iload_n 1, 1) := by decide +kernel
theorem dX11_setCondition_90 : decode cX11_setCondition 90 = .ok (.ireturn, 1) := by decide +kernel
theorem dX11_rulesOn_0 : decode cX11_rulesOn 0 = .ok (.iconst 0, 1) := by decide +kernel
theorem dX11_rulesOn_1 : decode cX11_rulesOn 1 = .ok (.istore_n 1, 1) := by decide +kernel
theorem dX11_rulesOn_2 : decode cX11_rulesOn 2 = .ok (.iconst 0, 1) := by decide +kernel
theorem dX11_rulesOn_3 : decode cX11_rulesOn 3 = .ok (.istore_n 2, 1) := by decide +kernel
theorem dX11_rulesOn_4 : decode cX11_rulesOn 4 = .ok (.iload_n 2, 1) := by decide +kernel
theorem dX11_rulesOn_5 : decode cX11_rulesOn 5 = .ok (.aload_n 0, 1) := by decide +kernel
theorem dX11_rulesOn_6 : decode cX11_rulesOn 6 = .ok (.getfield 7, 3) := by decide +kernel
theorem dX11_rulesOn_9 : decode cX11_rulesOn 9 = .ok (.bipush 81, 2) := by decide +kernel
theorem dX11_rulesOn_11 : decode cX11_rulesOn 11 = .ok (.iaload, 1) := by decide +kernel
theorem dX11_rulesOn_12 : decode cX11_rulesOn 12 = .ok (.if_icmp .ge 25, 3) := by decide +kernel
theorem dX11_rulesOn_15 : decode cX11_rulesOn 15 = .ok (.iload_n 1, 1) := by decide +kernel
theorem dX11_rulesOn_16 : decode cX11_rulesOn 16 = .ok (.aload_n 0, 1) := by decide +kernel
theorem dX11_rulesOn_17 : decode cX11_rulesOn 17 = .ok (.getfield 7, 3) := by decide +kernel
theorem dX11_rulesOn_20 : decode cX11_rulesOn 20 = .ok (.iconst 0, 1) := by decide +kernel
theorem dX11_rulesOn_21 : decode cX11_rulesOn 21 = .ok (.iload_n 2, 1) := by decide +kernel
theorem dX11_rulesOn_22 : decode cX11_rulesOn 22 = .ok (.invokestatic 40, 3) := by decide +kernel
theorem dX11_rulesOn_25 : decode cX11_rulesOn 25 = .ok (.bipush 10, 2) := by decide +kernel
theorem dX11_rulesOn_27 : decode cX11_rulesOn 27 = .ok (.iadd, 1) := by decide +kernel
theorem dX11_rulesOn_28 : decode cX11_rulesOn 28 = .ok (.iaload, 1) := by decide +kernel
theorem dX11_rulesOn_29 : decode cX11_rulesOn 29 = .ok (.iadd, 1) := by decide +kernel
theorem dX11_rulesOn_30 : decode cX11_rulesOn 30 = .ok (.istore_n 1, 1) := by decide +kernel
theorem dX11_rulesOn_31 : decode cX11_rulesOn 31 = .ok (.iinc 2 1, 3) := by decide +kernel
theorem dX11_rulesOn_34 : decode cX11_rulesOn 34 = .ok (.goto (-30), 3) := by decide +kernel
theorem dX11_rulesOn_37 : decode cX11_rulesOn 37 = .ok (.iload_n 1, 1) := by decide +kernel
theorem dX11_rulesOn_38 : decode cX11_rulesOn 38 = .ok (.ireturn, 1) := by decide +kernel
theorem dX11_put_0 : decode cX11_put 0 = .ok (.aload_n 0, 1) := by decide +kernel
theorem dX11_put_1 : decode cX11_put 1 = .ok (.iload_n 1, 1) := by decide +kernel
theorem dX11_put_2 : decode cX11_put 2 = .ok (.invokevirtual 155, 3) := by decide +kernel
theorem dX11_put_5 : decode cX11_put 5 = .ok (.ifCond .ne 7, 3) := by decide +kernel
theorem dX11_put_8 : decode cX11_put 8 = .ok (.sipush (-1001), 3) := by decide +kernel
theorem dX11_put_11 : decode cX11_put 11 = .ok (.ireturn, 1) := by decide +kernel
theorem dX11_put_12 : decode cX11_put 12 = .ok (.iload_n 2, 1) := by decide +kernel
theorem dX11_put_13 : decode cX11_put 13 = .ok (.ifCond .eq 7, 3) := by decide +kernel
theorem dX11_put_16 : decode cX11_put 16 = .ok (.iconst 1, 1) := by decide +kernel
theorem dX11_put_17 : decode cX11_put 17 = .ok (.goto 4, 3) := by decide +kernel
theorem dX11_put_20 : decode cX11_put 20 = .ok (.iconst 0, 1) := by decide +kernel
theorem dX11_put_21 : decode cX11_put 21 = .ok (.istore_n 3, 1) := by decide +kernel
theorem dX11_put_22 : decode cX11_put 22 = .ok (.aload_n 0, 1) := by decide +kernel
theorem dX11_put_23 : decode cX11_put 23 = .ok (.getfield 7, 3) := by decide +kernel
theorem dX11_put_26 : decode cX11_put 26 = .ok (.iconst 0, 1) := by decide +kernel
theorem dX11_put_27 : decode cX11_put 27 = .ok (.iload_n 1, 1) := by decide +kernel
theorem dX11_put_28 : decode cX11_put 28 = .ok (.invokestatic 40, 3) := by decide +kernel
theorem dX11_put_31 : decode cX11_put 31 = .ok (.bipush 10, 2) := by decide +kernel
theorem dX11_put_33 : decode cX11_put 33 = .ok (.iadd, 1) := by decide +kernel
theorem dX11_put_34 : decode cX11_put 34 = .ok (.iaload, 1) := by decide +kernel
theorem dX11_put_35 : decode cX11_put 35 = .ok (.iload_n 3, 1) := by decide +kernel
theorem dX11_put_36 : decode cX11_put 36 = .ok (.if_icmp .ne 7, 3) := by decide +kernel
theorem dX11_put_39 : decode cX11_put 39 = .ok (.sipush (-1006), 3) := by decide +kernel
theorem dX11_put_42 : decode cX11_put 42 = .ok (.ireturn, 1) := by decide +kernel
theorem dX11_put_43 : decode cX11_put 43 = .ok (.aload_n 0, 1) := by decide +kernel
theorem dX11_put_44 : decode cX11_put 44 = .ok (.invokevirtual 33, 3) := by decide +kernel
theorem dX11_put_47 : decode cX11_put 47 = .ok (.aload_n 0, 1) := by decide +kernel
theorem dX11_put_48 : decode cX11_put 48 = .ok (.getfield 7, 3) := by decide +kernel
theorem dX11_put_51 : decode cX11_put 51 = .ok (.iconst 0, 1) := by decide +kernel
theorem dX11_put_52 : decode cX11_put 52 = .ok (.iload_n 1, 1) := by decide +kernel
theorem dX11_put_53 : decode cX11_put 53 = .ok (.invokestatic 40, 3) := by decide +kernel
theorem dX11_put_56 : decode cX11_put 56 = .ok (.bipush 10, 2) := by decide +kernel
theorem dX11_put_58 : decode cX11_put 58 = .ok (.iadd, 1) := by decide +kernel
theorem dX11_put_59 : decode cX11_put 59 = .ok (.iload_n 3, 1) := by decide +kernel
theorem dX11_put_60 : decode cX11_put 60 = .ok (.iastore, 1) := by decide +kernel
theorem dX11_put_61 : decode cX11_put 61 = .ok (.aload_n 0, 1) := by decide +kernel
theorem dX11_put_62 : decode cX11_put 62 = .ok (.invokevirtual 158, 3) := by decide +kernel
theorem dX11_put_65 : decode cX11_put 65 = .ok (.ireturn, 1) := by decide +kernel
theorem dX11_removeRule_0 : decode cX11_removeRule 0 = .ok (.aload_n 0, 1) := by decide +kernel
theorem dX11_removeRule_1 : decode cX11_removeRule 1 = .ok (.iload_n 1, 1) := by decide +kernel
theorem dX11_removeRule_2 : decode cX11_removeRule 2 = .ok (.invokevirtual 155, 3) := by decide +kernel
theorem dX11_removeRule_5 : decode cX11_removeRule 5 = .ok (.ifCond .ne 7, 3) := by decide +kernel
theorem dX11_removeRule_8 : decode cX11_removeRule 8 = .ok (.sipush (-1001), 3) := by decide +kernel
theorem dX11_removeRule_11 : decode cX11_removeRule 11 = .ok (.ireturn, 1) := by decide +kernel
theorem dX11_removeRule_12 : decode cX11_removeRule 12 = .ok (.aload_n 0, 1) := by decide +kernel
theorem dX11_removeRule_13 : decode cX11_removeRule 13 = .ok (.invokevirtual 33, 3) := by decide +kernel
theorem dX11_removeRule_16 : decode cX11_removeRule 16 = .ok (.aload_n 0, 1) := by decide +kernel
theorem dX11_removeRule_17 : decode cX11_removeRule 17 = .ok (.getfield 7, 3) := by decide +kernel
theorem dX11_removeRule_20 : decode cX11_removeRule 20 = .ok (.bipush 81, 2) := by decide +kernel
theorem dX11_removeRule_22 : decode cX11_removeRule 22 = .ok (.dup2, 1) := by decide +kernel
theorem dX11_removeRule_23 : decode cX11_removeRule 23 = .ok (.iaload, 1) := by decide +kernel
theorem dX11_removeRule_24 : decode cX11_removeRule 24 = .ok (.iconst 1, 1) := by decide +kernel
theorem dX11_removeRule_25 : decode cX11_removeRule 25 = .ok (.isub, 1) := by decide +kernel
theorem dX11_removeRule_26 : decode cX11_removeRule 26 = .ok (.iastore, 1) := by decide +kernel
theorem dX11_removeRule_27 : decode cX11_removeRule 27 = .ok (.iconst 0, 1) := by decide +kernel
theorem dX11_removeRule_28 : decode cX11_removeRule 28 = .ok (.iload_n 1, 1) := by decide +kernel
theorem dX11_removeRule_29 : decode cX11_removeRule 29 = .ok (.invokestatic 40, 3) := by decide +kernel
theorem dX11_removeRule_32 : decode cX11_removeRule 32 = .ok (.istore_n 2, 1) := by decide +kernel
theorem dX11_removeRule_33 : decode cX11_removeRule 33 = .ok (.iload_n 2, 1) := by decide +kernel
theorem dX11_removeRule_34 : decode cX11_removeRule 34 = .ok (.iconst 0, 1) := by decide +kernel
theorem dX11_removeRule_35 : decode cX11_removeRule 35 = .ok (.aload_n 0, 1) := by decide +kernel
theorem dX11_removeRule_36 : decode cX11_removeRule 36 = .ok (.getfield 7, 3) := by decide +kernel
theorem dX11_removeRule_39 : decode cX11_removeRule 39 = .ok (.bipush 81, 2) := by decide +kernel
theorem dX11_removeRule_41 : decode cX11_removeRule 41 = .ok (.iaload, 1) := by decide +kernel
theorem dX11_removeRule_42 : decode cX11_removeRule 42 = .ok (.invokestatic 40, 3) := by decide +kernel
theorem dX11_removeRule_45 : decode cX11_removeRule 45 = .ok (.if_icmp .ge 24, 3) := by decide +kernel
theorem dX11_removeRule_48 : decode cX11_removeRule 48 = .ok (.aload_n 0, 1) := by decide +kernel
theorem dX11_removeRule_49 : decode cX11_removeRule 49 = .ok (.getfield 7, 3) := by decide +kernel
theorem dX11_removeRule_52 : decode cX11_removeRule 52 = .ok (.iload_n 2, 1) := by decide +kernel
theorem dX11_removeRule_53 : decode cX11_removeRule 53 = .ok (.aload_n 0, 1) := by decide +kernel
theorem dX11_removeRule_54 : decode cX11_removeRule 54 = .ok (.getfield 7, 3) := by decide +kernel
theorem dX11_removeRule_57 : decode cX11_removeRule 57 = .ok (.iload_n 2, 1) := by decide +kernel
theorem dX11_removeRule_58 : decode cX11_removeRule 58 = .ok (.bipush 12, 2) := by decide +kernel
theorem dX11_removeRule_60 : decode cX11_removeRule 60 = .ok (.iadd, 1) := by decide +kernel
theorem dX11_removeRule_61 : decode cX11_removeRule 61 = .ok (.iaload, 1) := by decide +kernel
theorem dX11_removeRule_62 : decode cX11_removeRule 62 = .ok (.iastore, 1) := by decide +kernel
theorem dX11_removeRule_63 : decode cX11_removeRule 63 = .ok (.iinc 2 1, 3) := by decide +kernel
theorem dX11_removeRule_66 : decode cX11_removeRule 66 = .ok (.goto (-33), 3) := by decide +kernel
theorem dX11_removeRule_69 : decode cX11_removeRule 69 = .ok (.aload_n 0, 1) := by decide +kernel
theorem dX11_removeRule_70 : decode cX11_removeRule 70 = .ok (.getfield 7, 3) := by decide +kernel
theorem dX11_removeRule_73 : decode cX11_removeRule 73 = .ok (.bipush 81, 2) := by decide +kernel
theorem dX11_removeRule_75 : decode cX11_removeRule 75 = .ok (.iaload, 1) := by decide +kernel
theorem dX11_removeRule_76 : decode cX11_removeRule 76 = .ok (.ireturn, 1) := by decide +kernel
theorem dX11_set_0 : decode cX11_set 0 = .ok (.iload_n 1, 1) := by decide +kernel
theorem dX11_set_1 : decode cX11_set 1 = .ok (.iconst 0, 1) := by decide +kernel
theorem dX11_set_2 : decode cX11_set 2 = .ok (.iconst 1, 1) := by decide +kernel
theorem dX11_set_3 : decode cX11_set 3 = .ok (.invokestatic 25, 3) := by decide +kernel
theorem dX11_set_6 : decode cX11_set 6 = .ok (.ifCond .ne 7, 3) := by decide +kernel
theorem dX11_set_9 : decode cX11_set 9 = .ok (.sipush (-1001), 3) := by decide +kernel
theorem dX11_set_12 : decode cX11_set 12 = .ok (.ireturn, 1) := by decide +kernel
theorem dX11_set_13 : decode cX11_set 13 = .ok (.iload_n 2, 1) := by decide +kernel
theorem dX11_set_14 : decode cX11_set 14 = .ok (.iconst 1, 1) := by decide +kernel
theorem dX11_set_15 : decode cX11_set 15 = .ok (.iload_n 1, 1) := by decide +kernel
theorem dX11_set_16 : decode cX11_set 16 = .ok (.isub, 1) := by decide +kernel
theorem dX11_set_17 : decode cX11_set 17 = .ok (.iload_n 1, 1) := by decide +kernel
theorem dX11_set_18 : decode cX11_set 18 = .ok (.ifCond .ne 8, 3) := by decide +kernel
theorem dX11_set_21 : decode cX11_set 21 = .ok (.bipush 8, 2) := by decide +kernel
theorem dX11_set_23 : decode cX11_set 23 = .ok (.goto 4, 3) := by decide +kernel
theorem dX11_set_26 : decode cX11_set 26 = .ok (.iconst 1, 1) := by decide +kernel
theorem dX11_set_27 : decode cX11_set 27 = .ok (.invokestatic 25, 3) := by decide +kernel
theorem dX11_set_30 : decode cX11_set 30 = .ok (.ifCond .ne 7, 3) := by decide +kernel
theorem dX11_set_33 : decode cX11_set 33 = .ok (.sipush (-1002), 3) := by decide +kernel
theorem dX11_set_36 : decode cX11_set 36 = .ok (.ireturn, 1) := by decide +kernel
theorem dX11_set_37 : decode cX11_set 37 = .ok (.aload_n 0, 1) := by decide +kernel
theorem dX11_set_38 : decode cX11_set 38 = .ok (.getfield 7, 3) := by decide +kernel
theorem dX11_set_41 : decode cX11_set 41 = .ok (.sipush 226, 3) := by decide +kernel
theorem dX11_set_44 : decode cX11_set 44 = .ok (.iload_n 1, 1) := by decide +kernel
theorem dX11_set_45 : decode cX11_set 45 = .ok (.iadd, 1) := by decide +kernel
theorem dX11_set_46 : decode cX11_set 46 = .ok (.iaload, 1) := by decide +kernel
theorem dX11_set_47 : decode cX11_set 47 = .ok (.istore_n 3, 1) := by decide +kernel
theorem dX11_set_48 : decode cX11_set 48 = .ok (.iload_n 3, 1) := by decide +kernel
theorem dX11_set_49 : decode cX11_set 49 = .ok (.iload_n 2, 1) := by decide +kernel
theorem dX11_set_50 : decode cX11_set 50 = .ok (.if_icmp .ne 7, 3) := by decide +kernel
theorem dX11_set_53 : decode cX11_set 53 = .ok (.sipush (-1006), 3) := by decide +kernel
theorem dX11_set_56 : decode cX11_set 56 = .ok (.ireturn, 1) := by decide +kernel
theorem dX11_set_57 : decode cX11_set 57 = .ok (.aload_n 0, 1) := by decide +kernel
theorem dX11_set_58 : decode cX11_set 58 = .ok (.invokevirtual 33, 3) := by decide +kernel
theorem dX11_set_61 : decode cX11_set 61 = .ok (.aload_n 0, 1) := by decide +kernel
theorem dX11_set_62 : decode cX11_set 62 = .ok (.getfield 7, 3) := by decide +kernel
theorem dX11_set_65 : decode cX11_set 65 = .ok (.sipush 226, 3) := by decide +kernel
theorem dX11_set_68 : decode cX11_set 68 = .ok (.iload_n 1, 1) := by decide +kernel
theorem dX11_set_69 : decode cX11_set 69 = .ok (.iadd, 1) := by decide +kernel
theorem dX11_set_70 : decode cX11_set 70 = .ok (.iload_n 2, 1) := by decide +kernel
theorem dX11_set_71 : decode cX11_set 71 = .ok (.iastore, 1) := by decide +kernel
theorem dX11_set_72 : decode cX11_set 72 = .ok (.iload_n 3, 1) := by decide +kernel
theorem dX11_set_73 : decode cX11_set 73 = .ok (.ireturn, 1) := by decide +kernel
theorem dX11_type_0 : decode cX11_type 0 = .ok (.aload_n 0, 1) := by decide +kernel
theorem dX11_type_1 : decode cX11_type 1 = .ok (.getfield 161, 3) := by decide +kernel
theorem dX11_type_4 : decode cX11_type 4 = .ok (.bipush 80, 2) := by decide +kernel
theorem dX11_type_6 : decode cX11_type 6 = .ok (.if_icmp .ne 7, 3) := by decide +kernel
theorem dX11_type_9 : decode cX11_type 9 = .ok (.sipush (-1003), 3) := by decide +kernel
theorem dX11_type_12 : decode cX11_type 12 = .ok (.ireturn, 1) := by decide +kernel
theorem dX11_type_13 : decode cX11_type 13 = .ok (.aload_n 0, 1) := by decide +kernel
theorem dX11_type_14 : decode cX11_type 14 = .ok (.getfield 19, 3) := by decide +kernel
theorem dX11_type_17 : decode cX11_type 17 = .ok (.aload_n 0, 1) := by decide +kernel
theorem dX11_type_18 : decode cX11_type 18 = .ok (.getfield 161, 3) := by decide +kernel
theorem dX11_type_21 : decode cX11_type 21 = .ok (.iload_n 1, 1) := by decide +kernel
theorem dX11_type_22 : decode cX11_type 22 = .ok (.iastore, 1) := by decide +kernel
theorem dX11_type_23 : decode cX11_type 23 = .ok (.aload_n 0, 1) := by decide +kernel
theorem dX11_type_24 : decode cX11_type 24 = .ok (.dup, 1) := by decide +kernel
theorem dX11_type_25 : decode cX11_type 25 = .ok (.getfield 161, 3) := by decide +kernel
theorem dX11_type_28 : decode cX11_type 28 = .ok (.iconst 1, 1) := by decide +kernel
theorem dX11_type_29 : decode cX11_type 29 = .ok (.iadd, 1) := by decide +kernel
theorem dX11_type_30 : decode cX11_type 30 = .ok (.putfield 161, 3) := by decide +kernel
theorem dX11_type_33 : decode cX11_type 33 = .ok (.aload_n 0, 1) := by decide +kernel
theorem dX11_type_34 : decode cX11_type 34 = .ok (.getfield 161, 3) := by decide +kernel
theorem dX11_type_37 : decode cX11_type 37 = .ok (.ireturn, 1) := by decide +kernel
theorem dX11_clearText_0 : decode cX11_clearText 0 = .ok (.aload_n 0, 1) := by decide +kernel
theorem dX11_clearText_1 : decode cX11_clearText 1 = .ok (.getfield 161, 3) := by decide +kernel
theorem dX11_clearText_4 : decode cX11_clearText 4 = .ok (.istore_n 1, 1) := by decide +kernel
theorem dX11_clearText_5 : decode cX11_clearText 5 = .ok (.aload_n 0, 1) := by decide +kernel
theorem dX11_clearText_6 : decode cX11_clearText 6 = .ok (.iconst 0, 1) := by decide +kernel
theorem dX11_clearText_7 : decode cX11_clearText 7 = .ok (.putfield 161, 3) := by decide +kernel
theorem dX11_clearText_10 : decode cX11_clearText 10 = .ok (.iload_n 1, 1) := by decide +kernel
theorem dX11_clearText_11 : decode cX11_clearText 11 = .ok (.ireturn, 1) := by decide +kernel
theorem dX11_sign_0 : decode cX11_sign 0 = .ok (.iload_n 1, 1) := by decide +kernel
theorem dX11_sign_1 : decode cX11_sign 1 = .ok (.aload_n 0, 1) := by decide +kernel
theorem dX11_sign_2 : decode cX11_sign 2 = .ok (.getfield 161, 3) := by decide +kernel
theorem dX11_sign_5 : decode cX11_sign 5 = .ok (.if_icmp .ge 12, 3) := by decide +kernel
theorem dX11_sign_8 : decode cX11_sign 8 = .ok (.aload_n 0, 1) := by decide +kernel
theorem dX11_sign_9 : decode cX11_sign 9 = .ok (.getfield 19, 3) := by decide +kernel
theorem dX11_sign_12 : decode cX11_sign 12 = .ok (.iload_n 1, 1) := by decide +kernel
theorem dX11_sign_13 : decode cX11_sign 13 = .ok (.iaload, 1) := by decide +kernel
theorem dX11_sign_14 : decode cX11_sign 14 = .ok (.goto 4, 3) := by decide +kernel
theorem dX11_sign_17 : decode cX11_sign 17 = .ok (.iconst (-1), 1) := by decide +kernel
theorem dX11_sign_18 : decode cX11_sign 18 = .ok (.ireturn, 1) := by decide +kernel
theorem dX11_digit_0 : decode cX11_digit 0 = .ok (.aload_n 0, 1) := by decide +kernel
theorem dX11_digit_1 : decode cX11_digit 1 = .ok (.iload_n 1, 1) := by decide +kernel
theorem dX11_digit_2 : decode cX11_digit 2 = .ok (.invokevirtual 164, 3) := by decide +kernel
theorem dX11_digit_5 : decode cX11_digit 5 = .ok (.bipush 48, 2) := by decide +kernel
theorem dX11_digit_7 : decode cX11_digit 7 = .ok (.bipush 57, 2) := by decide +kernel
theorem dX11_digit_9 : decode cX11_digit 9 = .ok (.invokestatic 25, 3) := by decide +kernel
theorem dX11_digit_12 : decode cX11_digit 12 = .ok (.ifCond .eq 14, 3) := by decide +kernel
theorem dX11_digit_15 : decode cX11_digit 15 = .ok (.aload_n 0, 1) := by decide +kernel
theorem dX11_digit_16 : decode cX11_digit 16 = .ok (.iload_n 1, 1) := by decide +kernel
theorem dX11_digit_17 : decode cX11_digit 17 = .ok (.invokevirtual 164, 3) := by decide +kernel
theorem dX11_digit_20 : decode cX11_digit 20 = .ok (.bipush 48, 2) := by decide +kernel
theorem dX11_digit_22 : decode cX11_digit 22 = .ok (.isub, 1) := by decide +kernel
theorem dX11_digit_23 : decode cX11_digit 23 = .ok (.goto 4, 3) := by decide +kernel
theorem dX11_digit_26 : decode cX11_digit 26 = .ok (.iconst (-1), 1) := by decide +kernel
theorem dX11_digit_27 : decode cX11_digit 27 = .ok (.ireturn, 1) := by decide +kernel
theorem dX11_numberEnd_0 : decode cX11_numberEnd 0 = .ok (.aload_n 0, 1) := by decide +kernel
theorem dX11_numberEnd_1 : decode cX11_numberEnd 1 = .ok (.iload_n 1, 1) := by decide +kernel
theorem dX11_numberEnd_2 : decode cX11_numberEnd 2 = .ok (.invokevirtual 168, 3) := by decide +kernel
theorem dX11_numberEnd_5 : decode cX11_numberEnd 5 = .ok (.iconst 1, 1) := by decide +kernel
theorem dX11_numberEnd_6 : decode cX11_numberEnd 6 = .ok (.if_icmp .ge 21, 3) := by decide +kernel
theorem dX11_numberEnd_9 : decode cX11_numberEnd 9 = .ok (.aload_n 0, 1) := by decide +kernel
theorem dX11_numberEnd_10 : decode cX11_numberEnd 10 = .ok (.iload_n 1, 1) := by decide +kernel
theorem dX11_numberEnd_11 : decode cX11_numberEnd 11 = .ok (.invokevirtual 168, 3) := by decide +kernel
theorem dX11_numberEnd_14 : decode cX11_numberEnd 14 = .ok (.ifCond .ge 9, 3) := by decide +kernel
theorem dX11_numberEnd_17 : decode cX11_numberEnd 17 = .ok (.iconst (-1), 1) := by decide +kernel
theorem dX11_numberEnd_18 : decode cX11_numberEnd 18 = .ok (.iload_n 1, 1) := by decide +kernel
theorem dX11_numberEnd_19 : decode cX11_numberEnd 19 = .ok (.isub, 1) := by decide +kernel
theorem dX11_numberEnd_20 : decode cX11_numberEnd 20 = .ok (.goto 6, 3) := by decide +kernel
theorem dX11_numberEnd_23 : decode cX11_numberEnd 23 = .ok (.iload_n 1, 1) := by decide +kernel
theorem dX11_numberEnd_24 : decode cX11_numberEnd 24 = .ok (.iconst 1, 1) := by decide +kernel
theorem dX11_numberEnd_25 : decode cX11_numberEnd 25 = .ok (.iadd, 1) := by decide +kernel
theorem dX11_numberEnd_26 : decode cX11_numberEnd 26 = .ok (.ireturn, 1) := by decide +kernel
theorem dX11_numberEnd_27 : decode cX11_numberEnd 27 = .ok (.iload_n 1, 1) := by decide +kernel
theorem dX11_numberEnd_28 : decode cX11_numberEnd 28 = .ok (.iconst 1, 1) := by decide +kernel
theorem dX11_numberEnd_29 : decode cX11_numberEnd 29 = .ok (.iadd, 1) := by decide +kernel
theorem dX11_numberEnd_30 : decode cX11_numberEnd 30 = .ok (.istore_n 3, 1) := by decide +kernel
theorem dX11_numberEnd_31 : decode cX11_numberEnd 31 = .ok (.iload_n 3, 1) := by decide +kernel
theorem dX11_numberEnd_32 : decode cX11_numberEnd 32 = .ok (.iload_n 1, 1) := by decide +kernel
theorem dX11_numberEnd_33 : decode cX11_numberEnd 33 = .ok (.iload_n 2, 1) := by decide +kernel
theorem dX11_numberEnd_34 : decode cX11_numberEnd 34 = .ok (.iadd, 1) := by decide +kernel
theorem dX11_numberEnd_35 : decode cX11_numberEnd 35 = .ok (.if_icmp .ge 17, 3) := by decide +kernel
theorem dX11_numberEnd_38 : decode cX11_numberEnd 38 = .ok (.aload_n 0, 1) := by decide +kernel
theorem dX11_numberEnd_39 : decode cX11_numberEnd 39 = .ok (.iload_n 3, 1) := by decide +kernel
theorem dX11_numberEnd_40 : decode cX11_numberEnd 40 = .ok (.invokevirtual 168, 3) := by decide +kernel
theorem dX11_numberEnd_43 : decode cX11_numberEnd 43 = .ok (.ifCond .lt 9, 3) := by decide +kernel
theorem dX11_numberEnd_46 : decode cX11_numberEnd 46 = .ok (.iinc 3 1, 3) := by decide +kernel
theorem dX11_numberEnd_49 : decode cX11_numberEnd 49 = .ok (.goto (-18), 3) := by decide +kernel
theorem dX11_numberEnd_52 : decode cX11_numberEnd 52 = .ok (.iload_n 3, 1) := by decide +kernel
theorem dX11_numberEnd_53 : decode cX11_numberEnd 53 = .ok (.ireturn, 1) := by decide +kernel
theorem dX11_valueEnd_0 : decode cX11_valueEnd 0 = .ok (.aload_n 0, 1) := by decide +kernel
theorem dX11_valueEnd_1 : decode cX11_valueEnd 1 = .ok (.iload_n 1, 1) := by decide +kernel
theorem dX11_valueEnd_2 : decode cX11_valueEnd 2 = .ok (.invokevirtual 164, 3) := by decide +kernel
theorem dX11_valueEnd_5 : decode cX11_valueEnd 5 = .ok (.bipush 45, 2) := by decide +kernel
theorem dX11_valueEnd_7 : decode cX11_valueEnd 7 = .ok (.if_icmp .ne 14, 3) := by decide +kernel
theorem dX11_valueEnd_10 : decode cX11_valueEnd 10 = .ok (.aload_n 0, 1) := by decide +kernel
theorem dX11_valueEnd_11 : decode cX11_valueEnd 11 = .ok (.iload_n 1, 1) := by decide +kernel
theorem dX11_valueEnd_12 : decode cX11_valueEnd 12 = .ok (.iconst 1, 1) := by decide +kernel
theorem dX11_valueEnd_13 : decode cX11_valueEnd 13 = .ok (.iadd, 1) := by decide +kernel
theorem dX11_valueEnd_14 : decode cX11_valueEnd 14 = .ok (.iconst 3, 1) := by decide +kernel
theorem dX11_valueEnd_15 : decode cX11_valueEnd 15 = .ok (.invokevirtual 171, 3) := by decide +kernel
theorem dX11_valueEnd_18 : decode cX11_valueEnd 18 = .ok (.goto 9, 3) := by decide +kernel
theorem dX11_valueEnd_21 : decode cX11_valueEnd 21 = .ok (.aload_n 0, 1) := by decide +kernel
theorem dX11_valueEnd_22 : decode cX11_valueEnd 22 = .ok (.iload_n 1, 1) := by decide +kernel
theorem dX11_valueEnd_23 : decode cX11_valueEnd 23 = .ok (.iconst 3, 1) := by decide +kernel
theorem dX11_valueEnd_24 : decode cX11_valueEnd 24 = .ok (.invokevirtual 171, 3) := by decide +kernel
theorem dX11_valueEnd_27 : decode cX11_valueEnd 27 = .ok (.ireturn, 1) := by decide +kernel
end
section
theorem dX11_behind_0 : decode cX11_behind 0 = .ok (.iload_n 1, 1) := by decide +kernel
theorem dX11_behind_1 : decode cX11_behind 1 = .ok (.ifCond .ge 7, 3) := by decide +kernel
theorem dX11_behind_4 : decode cX11_behind 4 = .ok (.iload_n 1, 1) := by decide +kernel
theorem dX11_behind_5 : decode cX11_behind 5 = .ok (.goto 21, 3) := by decide +kernel
theorem dX11_behind_8 : decode cX11_behind 8 = .ok (.aload_n 0, 1) := by decide +kernel
theorem dX11_behind_9 : decode cX11_behind 9 = .ok (.iload_n 1, 1) := by decide +kernel
theorem dX11_behind_10 : decode cX11_behind 10 = .ok (.invokevirtual 164, 3) := by decide +kernel
theorem dX11_behind_13 : decode cX11_behind 13 = .ok (.iload_n 2, 1) := by decide +kernel
theorem dX11_behind_14 : decode cX11_behind 14 = .ok (.if_icmp .ne 9, 3) := by decide +kernel
theorem dX11_behind_17 : decode cX11_behind 17 = .ok (.iload_n 1, 1) := by decide +kernel
theorem dX11_behind_18 : decode cX11_behind 18 = .ok (.iconst 1, 1) := by decide +kernel
theorem dX11_behind_19 : decode cX11_behind 19 = .ok (.iadd, 1) := by decide +kernel
theorem dX11_behind_20 : decode cX11_behind 20 = .ok (.goto 6, 3) := by decide +kernel
theorem dX11_behind_23 : decode cX11_behind 23 = .ok (.iconst (-1), 1) := by decide +kernel
theorem dX11_behind_24 : decode cX11_behind 24 = .ok (.iload_n 1, 1) := by decide +kernel
theorem dX11_behind_25 : decode cX11_behind 25 = .ok (.isub, 1) := by decide +kernel
theorem dX11_behind_26 : decode cX11_behind 26 = .ok (.ireturn, 1) := by decide +kernel
theorem dX11_valueBehind_0 : decode cX11_valueBehind 0 = .ok (.aload_n 0, 1) := by decide +kernel
theorem dX11_valueBehind_1 : decode cX11_valueBehind 1 = .ok (.iload_n 1, 1) := by decide +kernel
theorem dX11_valueBehind_2 : decode cX11_valueBehind 2 = .ok (.iload_n 2, 1) := by decide +kernel
theorem dX11_valueBehind_3 : decode cX11_valueBehind 3 = .ok (.invokevirtual 174, 3) := by decide +kernel
theorem dX11_valueBehind_6 : decode cX11_valueBehind 6 = .ok (.istore_n 3, 1) := by decide +kernel
theorem dX11_valueBehind_7 : decode cX11_valueBehind 7 = .ok (.iload_n 3, 1) := by decide +kernel
theorem dX11_valueBehind_8 : decode cX11_valueBehind 8 = .ok (.ifCond .ge 7, 3) := by decide +kernel
theorem dX11_valueBehind_11 : decode cX11_valueBehind 11 = .ok (.iload_n 3, 1) := by decide +kernel
theorem dX11_valueBehind_12 : decode cX11_valueBehind 12 = .ok (.goto 8, 3) := by decide +kernel
theorem dX11_valueBehind_15 : decode cX11_valueBehind 15 = .ok (.aload_n 0, 1) := by decide +kernel
theorem dX11_valueBehind_16 : decode cX11_valueBehind 16 = .ok (.iload_n 3, 1) := by decide +kernel
theorem dX11_valueBehind_17 : decode cX11_valueBehind 17 = .ok (.invokevirtual 177, 3) := by decide +kernel
theorem dX11_valueBehind_20 : decode cX11_valueBehind 20 = .ok (.ireturn, 1) := by decide +kernel
theorem dX11_insertEnd_0 : decode cX11_insertEnd 0 = .ok (.aload_n 0, 1) := by decide +kernel
theorem dX11_insertEnd_1 : decode cX11_insertEnd 1 = .ok (.aload_n 0, 1) := by decide +kernel
theorem dX11_insertEnd_2 : decode cX11_insertEnd 2 = .ok (.iload_n 1, 1) := by decide +kernel
theorem dX11_insertEnd_3 : decode cX11_insertEnd 3 = .ok (.iconst 2, 1) := by decide +kernel
theorem dX11_insertEnd_4 : decode cX11_insertEnd 4 = .ok (.invokevirtual 171, 3) := by decide +kernel
theorem dX11_insertEnd_7 : decode cX11_insertEnd 7 = .ok (.bipush 61, 2) := by decide +kernel
theorem dX11_insertEnd_9 : decode cX11_insertEnd 9 = .ok (.invokevirtual 180, 3) := by decide +kernel
theorem dX11_insertEnd_12 : decode cX11_insertEnd 12 = .ok (.istore_n 2, 1) := by decide +kernel
theorem dX11_insertEnd_13 : decode cX11_insertEnd 13 = .ok (.aload_n 0, 1) := by decide +kernel
theorem dX11_insertEnd_14 : decode cX11_insertEnd 14 = .ok (.iload_n 2, 1) := by decide +kernel
theorem dX11_insertEnd_15 : decode cX11_insertEnd 15 = .ok (.bipush 44, 2) := by decide +kernel
theorem dX11_insertEnd_17 : decode cX11_insertEnd 17 = .ok (.invokevirtual 180, 3) := by decide +kernel
theorem dX11_insertEnd_20 : decode cX11_insertEnd 20 = .ok (.istore_n 2, 1) := by decide +kernel
theorem dX11_insertEnd_21 : decode cX11_insertEnd 21 = .ok (.aload_n 0, 1) := by decide +kernel
theorem dX11_insertEnd_22 : decode cX11_insertEnd 22 = .ok (.iload_n 2, 1) := by decide +kernel
theorem dX11_insertEnd_23 : decode cX11_insertEnd 23 = .ok (.bipush 44, 2) := by decide +kernel
theorem dX11_insertEnd_25 : decode cX11_insertEnd 25 = .ok (.invokevirtual 180, 3) := by decide +kernel
theorem dX11_insertEnd_28 : decode cX11_insertEnd 28 = .ok (.ireturn, 1) := by decide +kernel
theorem dX11_updateEnd_0 : decode cX11_updateEnd 0 = .ok (.aload_n 0, 1) := by decide +kernel
theorem dX11_updateEnd_1 : decode cX11_updateEnd 1 = .ok (.aload_n 0, 1) := by decide +kernel
theorem dX11_updateEnd_2 : decode cX11_updateEnd 2 = .ok (.iload_n 1, 1) := by decide +kernel
theorem dX11_updateEnd_3 : decode cX11_updateEnd 3 = .ok (.iconst 2, 1) := by decide +kernel
theorem dX11_updateEnd_4 : decode cX11_updateEnd 4 = .ok (.invokevirtual 171, 3) := by decide +kernel
theorem dX11_updateEnd_7 : decode cX11_updateEnd 7 = .ok (.bipush 46, 2) := by decide +kernel
theorem dX11_updateEnd_9 : decode cX11_updateEnd 9 = .ok (.invokevirtual 174, 3) := by decide +kernel
theorem dX11_updateEnd_12 : decode cX11_updateEnd 12 = .ok (.istore_n 2, 1) := by decide +kernel
theorem dX11_updateEnd_13 : decode cX11_updateEnd 13 = .ok (.iload_n 2, 1) := by decide +kernel
theorem dX11_updateEnd_14 : decode cX11_updateEnd 14 = .ok (.ifCond .lt 26, 3) := by decide +kernel
theorem dX11_updateEnd_17 : decode cX11_updateEnd 17 = .ok (.aload_n 0, 1) := by decide +kernel
theorem dX11_updateEnd_18 : decode cX11_updateEnd 18 = .ok (.iload_n 2, 1) := by decide +kernel
theorem dX11_updateEnd_19 : decode cX11_updateEnd 19 = .ok (.invokevirtual 168, 3) := by decide +kernel
theorem dX11_updateEnd_22 : decode cX11_updateEnd 22 = .ok (.iconst 0, 1) := by decide +kernel
theorem dX11_updateEnd_23 : decode cX11_updateEnd 23 = .ok (.iconst 2, 1) := by decide +kernel
theorem dX11_updateEnd_24 : decode cX11_updateEnd 24 = .ok (.invokestatic 25, 3) := by decide +kernel
theorem dX11_updateEnd_27 : decode cX11_updateEnd 27 = .ok (.ifCond .eq 9, 3) := by decide +kernel
theorem dX11_updateEnd_30 : decode cX11_updateEnd 30 = .ok (.iload_n 2, 1) := by decide +kernel
theorem dX11_updateEnd_31 : decode cX11_updateEnd 31 = .ok (.iconst 1, 1) := by decide +kernel
theorem dX11_updateEnd_32 : decode cX11_updateEnd 32 = .ok (.iadd, 1) := by decide +kernel
theorem dX11_updateEnd_33 : decode cX11_updateEnd 33 = .ok (.goto 6, 3) := by decide +kernel
theorem dX11_updateEnd_36 : decode cX11_updateEnd 36 = .ok (.iconst (-1), 1) := by decide +kernel
theorem dX11_updateEnd_37 : decode cX11_updateEnd 37 = .ok (.iload_n 2, 1) := by decide +kernel
theorem dX11_updateEnd_38 : decode cX11_updateEnd 38 = .ok (.isub, 1) := by decide +kernel
theorem dX11_updateEnd_39 : decode cX11_updateEnd 39 = .ok (.istore_n 2, 1) := by decide +kernel
theorem dX11_updateEnd_40 : decode cX11_updateEnd 40 = .ok (.aload_n 0, 1) := by decide +kernel
theorem dX11_updateEnd_41 : decode cX11_updateEnd 41 = .ok (.iload_n 2, 1) := by decide +kernel
theorem dX11_updateEnd_42 : decode cX11_updateEnd 42 = .ok (.bipush 61, 2) := by decide +kernel
theorem dX11_updateEnd_44 : decode cX11_updateEnd 44 = .ok (.invokevirtual 180, 3) := by decide +kernel
theorem dX11_updateEnd_47 : decode cX11_updateEnd 47 = .ok (.ireturn, 1) := by decide +kernel
theorem dX11_statementEnd_0 : decode cX11_statementEnd 0 = .ok (.aload_n 0, 1) := by decide +kernel
theorem dX11_statementEnd_1 : decode cX11_statementEnd 1 = .ok (.iload_n 1, 1) := by decide +kernel
theorem dX11_statementEnd_2 : decode cX11_statementEnd 2 = .ok (.invokevirtual 164, 3) := by decide +kernel
theorem dX11_statementEnd_5 : decode cX11_statementEnd 5 = .ok (.lookupswitch 60 #[(100, 51), (105, 35), (117, 43)], 35) := by decide +kernel
theorem dX11_statementEnd_40 : decode cX11_statementEnd 40 = .ok (.aload_n 0, 1) := by decide +kernel
theorem dX11_statementEnd_41 : decode cX11_statementEnd 41 = .ok (.iload_n 1, 1) := by decide +kernel
theorem dX11_statementEnd_42 : decode cX11_statementEnd 42 = .ok (.iconst 1, 1) := by decide +kernel
theorem dX11_statementEnd_43 : decode cX11_statementEnd 43 = .ok (.iadd, 1) := by decide +kernel
theorem dX11_statementEnd_44 : decode cX11_statementEnd 44 = .ok (.invokevirtual 183, 3) := by decide +kernel
theorem dX11_statementEnd_47 : decode cX11_statementEnd 47 = .ok (.ireturn, 1) := by decide +kernel
theorem dX11_statementEnd_48 : decode cX11_statementEnd 48 = .ok (.aload_n 0, 1) := by decide +kernel
theorem dX11_statementEnd_49 : decode cX11_statementEnd 49 = .ok (.iload_n 1, 1) := by decide +kernel
theorem dX11_statementEnd_50 : decode cX11_statementEnd 50 = .ok (.iconst 1, 1) := by decide +kernel
theorem dX11_statementEnd_51 : decode cX11_statementEnd 51 = .ok (.iadd, 1) := by decide +kernel
theorem dX11_statementEnd_52 : decode cX11_statementEnd 52 = .ok (.invokevirtual 186, 3) := by decide +kernel
theorem dX11_statementEnd_55 : decode cX11_statementEnd 55 = .ok (.ireturn, 1) := by decide +kernel
theorem dX11_statementEnd_56 : decode cX11_statementEnd 56 = .ok (.aload_n 0, 1) := by decide +kernel
theorem dX11_statementEnd_57 : decode cX11_statementEnd 57 = .ok (.iload_n 1, 1) := by decide +kernel
theorem dX11_statementEnd_58 : decode cX11_statementEnd 58 = .ok (.iconst 1, 1) := by decide +kernel
theorem dX11_statementEnd_59 : decode cX11_statementEnd 59 = .ok (.iadd, 1) := by decide +kernel
theorem dX11_statementEnd_60 : decode cX11_statementEnd 60 = .ok (.iconst 2, 1) := by decide +kernel
theorem dX11_statementEnd_61 : decode cX11_statementEnd 61 = .ok (.invokevirtual 171, 3) := by decide +kernel
theorem dX11_statementEnd_64 : decode cX11_statementEnd 64 = .ok (.ireturn, 1) := by decide +kernel
theorem dX11_statementEnd_65 : decode cX11_statementEnd 65 = .ok (.iconst (-1), 1) := by decide +kernel
theorem dX11_statementEnd_66 : decode cX11_statementEnd 66 = .ok (.iload_n 1, 1) := by decide +kernel
theorem dX11_statementEnd_67 : decode cX11_statementEnd 67 = .ok (.isub, 1) := by decide +kernel
theorem dX11_statementEnd_68 : decode cX11_statementEnd 68 = .ok (.ireturn, 1) := by decide +kernel
theorem dX11_fault_0 : decode cX11_fault 0 = .ok (.iconst 0, 1) := by decide +kernel
theorem dX11_fault_1 : decode cX11_fault 1 = .ok (.istore_n 1, 1) := by decide +kernel
theorem dX11_fault_2 : decode cX11_fault 2 = .ok (.iconst 0, 1) := by decide +kernel
theorem dX11_fault_3 : decode cX11_fault 3 = .ok (.istore_n 2, 1) := by decide +kernel
theorem dX11_fault_4 : decode cX11_fault 4 = .ok (.iload_n 2, 1) := by decide +kernel
theorem dX11_fault_5 : decode cX11_fault 5 = .ok (.bipush 80, 2) := by decide +kernel
theorem dX11_fault_7 : decode cX11_fault 7 = .ok (.if_icmp .ge 51, 3) := by decide +kernel
theorem dX11_fault_10 : decode cX11_fault 10 = .ok (.aload_n 0, 1) := by decide +kernel
theorem dX11_fault_11 : decode cX11_fault 11 = .ok (.iload_n 1, 1) := by decide +kernel
theorem dX11_fault_12 : decode cX11_fault 12 = .ok (.invokevirtual 189, 3) := by decide +kernel
theorem dX11_fault_15 : decode cX11_fault 15 = .ok (.istore_n 3, 1) := by decide +kernel
theorem dX11_fault_16 : decode cX11_fault 16 = .ok (.iload_n 3, 1) := by decide +kernel
theorem dX11_fault_17 : decode cX11_fault 17 = .ok (.ifCond .ge 7, 3) := by decide +kernel
theorem dX11_fault_20 : decode cX11_fault 20 = .ok (.iconst (-1), 1) := by decide +kernel
theorem dX11_fault_21 : decode cX11_fault 21 = .ok (.iload_n 3, 1) := by decide +kernel
theorem dX11_fault_22 : decode cX11_fault 22 = .ok (.isub, 1) := by decide +kernel
theorem dX11_fault_23 : decode cX11_fault 23 = .ok (.ireturn, 1) := by decide +kernel
theorem dX11_fault_24 : decode cX11_fault 24 = .ok (.iload_n 3, 1) := by decide +kernel
theorem dX11_fault_25 : decode cX11_fault 25 = .ok (.aload_n 0, 1) := by decide +kernel
theorem dX11_fault_26 : decode cX11_fault 26 = .ok (.getfield 161, 3) := by decide +kernel
theorem dX11_fault_29 : decode cX11_fault 29 = .ok (.if_icmp .ne 7, 3) := by decide +kernel
theorem dX11_fault_32 : decode cX11_fault 32 = .ok (.sipush (-1006), 3) := by decide +kernel
theorem dX11_fault_35 : decode cX11_fault 35 = .ok (.ireturn, 1) := by decide +kernel
theorem dX11_fault_36 : decode cX11_fault 36 = .ok (.aload_n 0, 1) := by decide +kernel
theorem dX11_fault_37 : decode cX11_fault 37 = .ok (.iload_n 3, 1) := by decide +kernel
theorem dX11_fault_38 : decode cX11_fault 38 = .ok (.invokevirtual 164, 3) := by decide +kernel
theorem dX11_fault_41 : decode cX11_fault 41 = .ok (.bipush 59, 2) := by decide +kernel
theorem dX11_fault_43 : decode cX11_fault 43 = .ok (.if_icmp .eq 5, 3) := by decide +kernel
theorem dX11_fault_46 : decode cX11_fault 46 = .ok (.iload_n 3, 1) := by decide +kernel
theorem dX11_fault_47 : decode cX11_fault 47 = .ok (.ireturn, 1) := by decide +kernel
theorem dX11_fault_48 : decode cX11_fault 48 = .ok (.iload_n 3, 1) := by decide +kernel
theorem dX11_fault_49 : decode cX11_fault 49 = .ok (.iconst 1, 1) := by decide +kernel
theorem dX11_fault_50 : decode cX11_fault 50 = .ok (.iadd, 1) := by decide +kernel
theorem dX11_fault_51 : decode cX11_fault 51 = .ok (.istore_n 1, 1) := by decide +kernel
theorem dX11_fault_52 : decode cX11_fault 52 = .ok (.iinc 2 1, 3) := by decide +kernel
theorem dX11_fault_55 : decode cX11_fault 55 = .ok (.goto (-51), 3) := by decide +kernel
theorem dX11_fault_58 : decode cX11_fault 58 = .ok (.sipush (-1006), 3) := by decide +kernel
theorem dX11_fault_61 : decode cX11_fault 61 = .ok (.ireturn, 1) := by decide +kernel
theorem dX11_numberAt_0 : decode cX11_numberAt 0 = .ok (.aload_n 0, 1) := by decide +kernel
theorem dX11_numberAt_1 : decode cX11_numberAt 1 = .ok (.iload_n 1, 1) := by decide +kernel
theorem dX11_numberAt_2 : decode cX11_numberAt 2 = .ok (.invokevirtual 164, 3) := by decide +kernel
theorem dX11_numberAt_5 : decode cX11_numberAt 5 = .ok (.bipush 45, 2) := by decide +kernel
theorem dX11_numberAt_7 : decode cX11_numberAt 7 = .ok (.if_icmp .ne 7, 3) := by decide +kernel
theorem dX11_numberAt_10 : decode cX11_numberAt 10 = .ok (.iconst 1, 1) := by decide +kernel
theorem dX11_numberAt_11 : decode cX11_numberAt 11 = .ok (.goto 4, 3) := by decide +kernel
theorem dX11_numberAt_14 : decode cX11_numberAt 14 = .ok (.iconst 0, 1) := by decide +kernel
theorem dX11_numberAt_15 : decode cX11_numberAt 15 = .ok (.istore_n 2, 1) := by decide +kernel
theorem dX11_numberAt_16 : decode cX11_numberAt 16 = .ok (.iconst 0, 1) := by decide +kernel
theorem dX11_numberAt_17 : decode cX11_numberAt 17 = .ok (.istore_n 3, 1) := by decide +kernel
theorem dX11_numberAt_18 : decode cX11_numberAt 18 = .ok (.iload_n 2, 1) := by decide +kernel
theorem dX11_numberAt_19 : decode cX11_numberAt 19 = .ok (.ifCond .eq 9, 3) := by decide +kernel
theorem dX11_numberAt_22 : decode cX11_numberAt 22 = .ok (.iload_n 1, 1) := by decide +kernel
theorem dX11_numberAt_23 : decode cX11_numberAt 23 = .ok (.iconst 1, 1) := by decide +kernel
theorem dX11_numberAt_24 : decode cX11_numberAt 24 = .ok (.iadd, 1) := by decide +kernel
theorem dX11_numberAt_25 : decode cX11_numberAt 25 = .ok (.goto 4, 3) := by decide +kernel
theorem dX11_numberAt_28 : decode cX11_numberAt 28 = .ok (.iload_n 1, 1) := by decide +kernel
theorem dX11_numberAt_29 : decode cX11_numberAt 29 = .ok (.istore 4, 2) := by decide +kernel
theorem dX11_numberAt_31 : decode cX11_numberAt 31 = .ok (.aload_n 0, 1) := by decide +kernel
theorem dX11_numberAt_32 : decode cX11_numberAt 32 = .ok (.iload 4, 2) := by decide +kernel
theorem dX11_numberAt_34 : decode cX11_numberAt 34 = .ok (.invokevirtual 168, 3) := by decide +kernel
theorem dX11_numberAt_37 : decode cX11_numberAt 37 = .ok (.ifCond .lt 21, 3) := by decide +kernel
theorem dX11_numberAt_40 : decode cX11_numberAt 40 = .ok (.bipush 10, 2) := by decide +kernel
theorem dX11_numberAt_42 : decode cX11_numberAt 42 = .ok (.iload_n 3, 1) := by decide +kernel
theorem dX11_numberAt_43 : decode cX11_numberAt 43 = .ok (.imul, 1) := by decide +kernel
theorem dX11_numberAt_44 : decode cX11_numberAt 44 = .ok (.aload_n 0, 1) := by decide +kernel
theorem dX11_numberAt_45 : decode cX11_numberAt 45 = .ok (.iload 4, 2) := by decide +kernel
theorem dX11_numberAt_47 : decode cX11_numberAt 47 = .ok (.invokevirtual 168, 3) := by decide +kernel
theorem dX11_numberAt_50 : decode cX11_numberAt 50 = .ok (.iadd, 1) := by decide +kernel
theorem dX11_numberAt_51 : decode cX11_numberAt 51 = .ok (.istore_n 3, 1) := by decide +kernel
theorem dX11_numberAt_52 : decode cX11_numberAt 52 = .ok (.iinc 4 1, 3) := by decide +kernel
theorem dX11_numberAt_55 : decode cX11_numberAt 55 = .ok (.goto (-24), 3) := by decide +kernel
theorem dX11_numberAt_58 : decode cX11_numberAt 58 = .ok (.iload_n 2, 1) := by decide +kernel
theorem dX11_numberAt_59 : decode cX11_numberAt 59 = .ok (.ifCond .eq 8, 3) := by decide +kernel
theorem dX11_numberAt_62 : decode cX11_numberAt 62 = .ok (.iload_n 3, 1) := by decide +kernel
theorem dX11_numberAt_63 : decode cX11_numberAt 63 = .ok (.ineg, 1) := by decide +kernel
theorem dX11_numberAt_64 : decode cX11_numberAt 64 = .ok (.goto 4, 3) := by decide +kernel
theorem dX11_numberAt_67 : decode cX11_numberAt 67 = .ok (.iload_n 3, 1) := by decide +kernel
theorem dX11_numberAt_68 : decode cX11_numberAt 68 = .ok (.ireturn, 1) := by decide +kernel
theorem dX11_does_0 : decode cX11_does 0 = .ok (.aload_n 0, 1) := by decide +kernel
theorem dX11_does_1 : decode cX11_does 1 = .ok (.iload_n 1, 1) := by decide +kernel
theorem dX11_does_2 : decode cX11_does 2 = .ok (.iconst 1, 1) := by decide +kernel
theorem dX11_does_3 : decode cX11_does 3 = .ok (.iadd, 1) := by decide +kernel
theorem dX11_does_4 : decode cX11_does 4 = .ok (.invokevirtual 192, 3) := by decide +kernel
theorem dX11_does_7 : decode cX11_does 7 = .ok (.istore_n 2, 1) := by decide +kernel
theorem dX11_does_8 : decode cX11_does 8 = .ok (.aload_n 0, 1) := by decide +kernel
theorem dX11_does_9 : decode cX11_does 9 = .ok (.iload_n 1, 1) := by decide +kernel
theorem dX11_does_10 : decode cX11_does 10 = .ok (.iconst 1, 1) := by decide +kernel
theorem dX11_does_11 : decode cX11_does 11 = .ok (.iadd, 1) := by decide +kernel
theorem dX11_does_12 : decode cX11_does 12 = .ok (.iconst 2, 1) := by decide +kernel
theorem dX11_does_13 : decode cX11_does 13 = .ok (.invokevirtual 171, 3) := by decide +kernel
theorem dX11_does_16 : decode cX11_does 16 = .ok (.istore_n 3, 1) := by decide +kernel
theorem dX11_does_17 : decode cX11_does 17 = .ok (.aload_n 0, 1) := by decide +kernel
theorem dX11_does_18 : decode cX11_does 18 = .ok (.sipush 413, 3) := by decide +kernel
theorem dX11_does_21 : decode cX11_does 21 = .ok (.iload_n 2, 1) := by decide +kernel
theorem dX11_does_22 : decode cX11_does 22 = .ok (.invokevirtual 54, 3) := by decide +kernel
theorem dX11_does_25 : decode cX11_does 25 = .ok (.ifCond .ge 9, 3) := by decide +kernel
theorem dX11_does_28 : decode cX11_does 28 = .ok (.sipush (-1001), 3) := by decide +kernel
theorem dX11_does_31 : decode cX11_does 31 = .ok (.goto 4, 3) := by decide +kernel
theorem dX11_does_34 : decode cX11_does 34 = .ok (.iconst 0, 1) := by decide +kernel
theorem dX11_does_35 : decode cX11_does 35 = .ok (.istore 4, 2) := by decide +kernel
theorem dX11_does_37 : decode cX11_does 37 = .ok (.aload_n 0, 1) := by decide +kernel
theorem dX11_does_38 : decode cX11_does 38 = .ok (.iload_n 1, 1) := by decide +kernel
theorem dX11_does_39 : decode cX11_does 39 = .ok (.invokevirtual 164, 3) := by decide +kernel
theorem dX11_does_42 : decode cX11_does 42 = .ok (.bipush 105, 2) := by decide +kernel
theorem dX11_does_44 : decode cX11_does 44 = .ok (.if_icmp .ne 69, 3) := by decide +kernel
theorem dX11_does_47 : decode cX11_does 47 = .ok (.aload_n 0, 1) := by decide +kernel
theorem dX11_does_48 : decode cX11_does 48 = .ok (.iload_n 3, 1) := by decide +kernel
theorem dX11_does_49 : decode cX11_does 49 = .ok (.iconst 1, 1) := by decide +kernel
theorem dX11_does_50 : decode cX11_does 50 = .ok (.iadd, 1) := by decide +kernel
theorem dX11_does_51 : decode cX11_does 51 = .ok (.invokevirtual 177, 3) := by decide +kernel
theorem dX11_does_54 : decode cX11_does 54 = .ok (.iconst 1, 1) := by decide +kernel
theorem dX11_does_55 : decode cX11_does 55 = .ok (.iadd, 1) := by decide +kernel
theorem dX11_does_56 : decode cX11_does 56 = .ok (.istore 5, 2) := by decide +kernel
theorem dX11_does_58 : decode cX11_does 58 = .ok (.aload_n 0, 1) := by decide +kernel
theorem dX11_does_59 : decode cX11_does 59 = .ok (.iload 5, 2) := by decide +kernel
theorem dX11_does_61 : decode cX11_does 61 = .ok (.invokevirtual 177, 3) := by decide +kernel
theorem dX11_does_64 : decode cX11_does 64 = .ok (.iconst 1, 1) := by decide +kernel
theorem dX11_does_65 : decode cX11_does 65 = .ok (.iadd, 1) := by decide +kernel
theorem dX11_does_66 : decode cX11_does 66 = .ok (.istore 6, 2) := by decide +kernel
theorem dX11_does_68 : decode cX11_does 68 = .ok (.aload_n 0, 1) := by decide +kernel
theorem dX11_does_69 : decode cX11_does 69 = .ok (.sipush 413, 3) := by decide +kernel
theorem dX11_does_72 : decode cX11_does 72 = .ok (.iload_n 2, 1) := by decide +kernel
theorem dX11_does_73 : decode cX11_does 73 = .ok (.invokevirtual 129, 3) := by decide +kernel
theorem dX11_does_76 : decode cX11_does 76 = .ok (.istore 4, 2) := by decide +kernel
theorem dX11_does_78 : decode cX11_does 78 = .ok (.iload 4, 2) := by decide +kernel
theorem dX11_does_80 : decode cX11_does 80 = .ok (.ifCond .ne 30, 3) := by decide +kernel
theorem dX11_does_83 : decode cX11_does 83 = .ok (.aload_n 0, 1) := by decide +kernel
theorem dX11_does_84 : decode cX11_does 84 = .ok (.sipush 413, 3) := by decide +kernel
theorem dX11_does_87 : decode cX11_does 87 = .ok (.iload_n 2, 1) := by decide +kernel
theorem dX11_does_88 : decode cX11_does 88 = .ok (.aload_n 0, 1) := by decide +kernel
theorem dX11_does_89 : decode cX11_does 89 = .ok (.iload_n 3, 1) := by decide +kernel
theorem dX11_does_90 : decode cX11_does 90 = .ok (.iconst 1, 1) := by decide +kernel
theorem dX11_does_91 : decode cX11_does 91 = .ok (.iadd, 1) := by decide +kernel
theorem dX11_does_92 : decode cX11_does 92 = .ok (.invokevirtual 192, 3) := by decide +kernel
theorem dX11_does_95 : decode cX11_does 95 = .ok (.aload_n 0, 1) := by decide +kernel
theorem dX11_does_96 : decode cX11_does 96 = .ok (.iload 5, 2) := by decide +kernel
theorem dX11_does_98 : decode cX11_does 98 = .ok (.invokevirtual 192, 3) := by decide +kernel
theorem dX11_does_101 : decode cX11_does 101 = .ok (.aload_n 0, 1) := by decide +kernel
theorem dX11_does_102 : decode cX11_does 102 = .ok (.iload 6, 2) := by decide +kernel
theorem dX11_does_104 : decode cX11_does 104 = .ok (.invokevirtual 192, 3) := by decide +kernel
theorem dX11_does_107 : decode cX11_does 107 = .ok (.invokevirtual 138, 3) := by decide +kernel
theorem dX11_does_110 : decode cX11_does 110 = .ok (.goto 79, 3) := by decide +kernel
theorem dX11_does_113 : decode cX11_does 113 = .ok (.aload_n 0, 1) := by decide +kernel
theorem dX11_does_114 : decode cX11_does 114 = .ok (.iload_n 1, 1) := by decide +kernel
theorem dX11_does_115 : decode cX11_does 115 = .ok (.invokevirtual 164, 3) := by decide +kernel
theorem dX11_does_118 : decode cX11_does 118 = .ok (.bipush 117, 2) := by decide +kernel
theorem dX11_does_120 : decode cX11_does 120 = .ok (.if_icmp .ne 56, 3) := by decide +kernel
theorem dX11_does_123 : decode cX11_does 123 = .ok (.aload_n 0, 1) := by decide +kernel
theorem dX11_does_124 : decode cX11_does 124 = .ok (.iload_n 3, 1) := by decide +kernel
theorem dX11_does_125 : decode cX11_does 125 = .ok (.iconst 3, 1) := by decide +kernel
theorem dX11_does_126 : decode cX11_does 126 = .ok (.iadd, 1) := by decide +kernel
theorem dX11_does_127 : decode cX11_does 127 = .ok (.invokevirtual 192, 3) := by decide +kernel
theorem dX11_does_130 : decode cX11_does 130 = .ok (.istore 5, 2) := by decide +kernel
theorem dX11_does_132 : decode cX11_does 132 = .ok (.aload_n 0, 1) := by decide +kernel
theorem dX11_does_133 : decode cX11_does 133 = .ok (.sipush 413, 3) := by decide +kernel
theorem dX11_does_136 : decode cX11_does 136 = .ok (.iload_n 2, 1) := by decide +kernel
theorem dX11_does_137 : decode cX11_does 137 = .ok (.aload_n 0, 1) := by decide +kernel
theorem dX11_does_138 : decode cX11_does 138 = .ok (.iload_n 3, 1) := by decide +kernel
theorem dX11_does_139 : decode cX11_does 139 = .ok (.iconst 1, 1) := by decide +kernel
theorem dX11_does_140 : decode cX11_does 140 = .ok (.iadd, 1) := by decide +kernel
theorem dX11_does_141 : decode cX11_does 141 = .ok (.invokevirtual 168, 3) := by decide +kernel
theorem dX11_does_144 : decode cX11_does 144 = .ok (.iload 5, 2) := by decide +kernel
theorem dX11_does_146 : decode cX11_does 146 = .ok (.invokevirtual 132, 3) := by decide +kernel
theorem dX11_does_149 : decode cX11_does 149 = .ok (.istore 4, 2) := by decide +kernel
theorem dX11_does_151 : decode cX11_does 151 = .ok (.iload 4, 2) := by decide +kernel
theorem dX11_does_153 : decode cX11_does 153 = .ok (.ifCond .ne 20, 3) := by decide +kernel
theorem dX11_does_156 : decode cX11_does 156 = .ok (.aload_n 0, 1) := by decide +kernel
theorem dX11_does_157 : decode cX11_does 157 = .ok (.sipush 413, 3) := by decide +kernel
theorem dX11_does_160 : decode cX11_does 160 = .ok (.iload_n 2, 1) := by decide +kernel
theorem dX11_does_161 : decode cX11_does 161 = .ok (.aload_n 0, 1) := by decide +kernel
theorem dX11_does_162 : decode cX11_does 162 = .ok (.iload_n 3, 1) := by decide +kernel
theorem dX11_does_163 : decode cX11_does 163 = .ok (.iconst 1, 1) := by decide +kernel
theorem dX11_does_164 : decode cX11_does 164 = .ok (.iadd, 1) := by decide +kernel
theorem dX11_does_165 : decode cX11_does 165 = .ok (.invokevirtual 168, 3) := by decide +kernel
theorem dX11_does_168 : decode cX11_does 168 = .ok (.iload 5, 2) := by decide +kernel
theorem dX11_does_170 : decode cX11_does 170 = .ok (.invokevirtual 149, 3) := by decide +kernel
theorem dX11_does_173 : decode cX11_does 173 = .ok (.goto 16, 3) := by decide +kernel
theorem dX11_does_176 : decode cX11_does 176 = .ok (.iload 4, 2) := by decide +kernel
theorem dX11_does_178 : decode cX11_does 178 = .ok (.ifCond .ne 11, 3) := by decide +kernel
theorem dX11_does_181 : decode cX11_does 181 = .ok (.aload_n 0, 1) := by decide +kernel
theorem dX11_does_182 : decode cX11_does 182 = .ok (.sipush 413, 3) := by decide +kernel
theorem dX11_does_185 : decode cX11_does 185 = .ok (.iload_n 2, 1) := by decide +kernel
theorem dX11_does_186 : decode cX11_does 186 = .ok (.invokevirtual 152, 3) := by decide +kernel
theorem dX11_does_189 : decode cX11_does 189 = .ok (.iload 4, 2) := by decide +kernel
theorem dX11_does_191 : decode cX11_does 191 = .ok (.ifCond .ne 16, 3) := by decide +kernel
theorem dX11_does_194 : decode cX11_does 194 = .ok (.aload_n 0, 1) := by decide +kernel
theorem dX11_does_195 : decode cX11_does 195 = .ok (.getfield 48, 3) := by decide +kernel
theorem dX11_does_198 : decode cX11_does 198 = .ok (.ifCond .le 9, 3) := by decide +kernel
theorem dX11_does_201 : decode cX11_does 201 = .ok (.sipush (-1005), 3) := by decide +kernel
theorem dX11_does_204 : decode cX11_does 204 = .ok (.goto 5, 3) := by decide +kernel
theorem dX11_does_207 : decode cX11_does 207 = .ok (.iload 4, 2) := by decide +kernel
theorem dX11_does_209 : decode cX11_does 209 = .ok (.ireturn, 1) := by decide +kernel
theorem dX11_perform_0 : decode cX11_perform 0 = .ok (.aload_n 0, 1) := by decide +kernel
theorem dX11_perform_1 : decode cX11_perform 1 = .ok (.invokevirtual 195, 3) := by decide +kernel
theorem dX11_perform_4 : decode cX11_perform 4 = .ok (.istore_n 1, 1) := by decide +kernel
theorem dX11_perform_5 : decode cX11_perform 5 = .ok (.iload_n 1, 1) := by decide +kernel
theorem dX11_perform_6 : decode cX11_perform 6 = .ok (.sipush (-1006), 3) := by decide +kernel
theorem dX11_perform_9 : decode cX11_perform 9 = .ok (.if_icmp .eq 9, 3) := by decide +kernel
theorem dX11_perform_12 : decode cX11_perform 12 = .ok (.sipush (-2000), 3) := by decide +kernel
theorem dX11_perform_15 : decode cX11_perform 15 = .ok (.iload_n 1, 1) := by decide +kernel
theorem dX11_perform_16 : decode cX11_perform 16 = .ok (.isub, 1) := by decide +kernel
theorem dX11_perform_17 : decode cX11_perform 17 = .ok (.ireturn, 1) := by decide +kernel
theorem dX11_perform_18 : decode cX11_perform 18 = .ok (.aload_n 0, 1) := by decide +kernel
theorem dX11_perform_19 : decode cX11_perform 19 = .ok (.iconst 0, 1) := by decide +kernel
theorem dX11_perform_20 : decode cX11_perform 20 = .ok (.sipush 413, 3) := by decide +kernel
theorem dX11_perform_23 : decode cX11_perform 23 = .ok (.invokevirtual 36, 3) := by decide +kernel
theorem dX11_perform_26 : decode cX11_perform 26 = .ok (.iconst 0, 1) := by decide +kernel
theorem dX11_perform_27 : decode cX11_perform 27 = .ok (.istore_n 2, 1) := by decide +kernel
theorem dX11_perform_28 : decode cX11_perform 28 = .ok (.iconst 0, 1) := by decide +kernel
theorem dX11_perform_29 : decode cX11_perform 29 = .ok (.istore_n 3, 1) := by decide +kernel
theorem dX11_perform_30 : decode cX11_perform 30 = .ok (.iload_n 3, 1) := by decide +kernel
theorem dX11_perform_31 : decode cX11_perform 31 = .ok (.aload_n 0, 1) := by decide +kernel
theorem dX11_perform_32 : decode cX11_perform 32 = .ok (.getfield 161, 3) := by decide +kernel
theorem dX11_perform_35 : decode cX11_perform 35 = .ok (.if_icmp .ge 40, 3) := by decide +kernel
theorem dX11_perform_38 : decode cX11_perform 38 = .ok (.aload_n 0, 1) := by decide +kernel
theorem dX11_perform_39 : decode cX11_perform 39 = .ok (.iload_n 3, 1) := by decide +kernel
theorem dX11_perform_40 : decode cX11_perform 40 = .ok (.invokevirtual 198, 3) := by decide +kernel
theorem dX11_perform_43 : decode cX11_perform 43 = .ok (.istore 4, 2) := by decide +kernel
theorem dX11_perform_45 : decode cX11_perform 45 = .ok (.iload 4, 2) := by decide +kernel
theorem dX11_perform_47 : decode cX11_perform 47 = .ok (.ifCond .eq 14, 3) := by decide +kernel
theorem dX11_perform_50 : decode cX11_perform 50 = .ok (.iload 4, 2) := by decide +kernel
theorem dX11_perform_52 : decode cX11_perform 52 = .ok (.sipush (-1006), 3) := by decide +kernel
theorem dX11_perform_55 : decode cX11_perform 55 = .ok (.if_icmp .eq 6, 3) := by decide +kernel
theorem dX11_perform_58 : decode cX11_perform 58 = .ok (.iload 4, 2) := by decide +kernel
theorem dX11_perform_60 : decode cX11_perform 60 = .ok (.ireturn, 1) := by decide +kernel
theorem dX11_perform_61 : decode cX11_perform 61 = .ok (.iinc 2 1, 3) := by decide +kernel
theorem dX11_perform_64 : decode cX11_perform 64 = .ok (.aload_n 0, 1) := by decide +kernel
theorem dX11_perform_65 : decode cX11_perform 65 = .ok (.iload_n 3, 1) := by decide +kernel
theorem dX11_perform_66 : decode cX11_perform 66 = .ok (.invokevirtual 189, 3) := by decide +kernel
theorem dX11_perform_69 : decode cX11_perform 69 = .ok (.iconst 1, 1) := by decide +kernel
theorem dX11_perform_70 : decode cX11_perform 70 = .ok (.iadd, 1) := by decide +kernel
theorem dX11_perform_71 : decode cX11_perform 71 = .ok (.istore_n 3, 1) := by decide +kernel
theorem dX11_perform_72 : decode cX11_perform 72 = .ok (.goto (-42), 3) := by decide +kernel
theorem dX11_perform_75 : decode cX11_perform 75 = .ok (.aload_n 0, 1) := by decide +kernel
theorem dX11_perform_76 : decode cX11_perform 76 = .ok (.invokevirtual 123, 3) := by decide +kernel
theorem dX11_perform_79 : decode cX11_perform 79 = .ok (.iload_n 2, 1) := by decide +kernel
theorem dX11_perform_80 : decode cX11_perform 80 = .ok (.ireturn, 1) := by decide +kernel
theorem dX11_undo_0 : decode cX11_undo 0 = .ok (.aload_n 0, 1) := by decide +kernel
theorem dX11_undo_1 : decode cX11_undo 1 = .ok (.getfield 29, 3) := by decide +kernel
theorem dX11_undo_4 : decode cX11_undo 4 = .ok (.ifCond .ne 7, 3) := by decide +kernel
theorem dX11_undo_7 : decode cX11_undo 7 = .ok (.sipush (-1006), 3) := by decide +kernel
theorem dX11_undo_10 : decode cX11_undo 10 = .ok (.ireturn, 1) := by decide +kernel
theorem dX11_undo_11 : decode cX11_undo 11 = .ok (.aload_n 0, 1) := by decide +kernel
theorem dX11_undo_12 : decode cX11_undo 12 = .ok (.dup, 1) := by decide +kernel
theorem dX11_undo_13 : decode cX11_undo 13 = .ok (.getfield 29, 3) := by decide +kernel
theorem dX11_undo_16 : decode cX11_undo 16 = .ok (.iconst 1, 1) := by decide +kernel
theorem dX11_undo_17 : decode cX11_undo 17 = .ok (.isub, 1) := by decide +kernel
theorem dX11_undo_18 : decode cX11_undo 18 = .ok (.putfield 29, 3) := by decide +kernel
theorem dX11_undo_21 : decode cX11_undo 21 = .ok (.iconst 0, 1) := by decide +kernel
theorem dX11_undo_22 : decode cX11_undo 22 = .ok (.istore_n 1, 1) := by decide +kernel
theorem dX11_undo_23 : decode cX11_undo 23 = .ok (.iload_n 1, 1) := by decide +kernel
theorem dX11_undo_24 : decode cX11_undo 24 = .ok (.sipush 413, 3) := by decide +kernel
theorem dX11_undo_27 : decode cX11_undo 27 = .ok (.if_icmp .ge 30, 3) := by decide +kernel
theorem dX11_undo_30 : decode cX11_undo 30 = .ok (.aload_n 0, 1) := by decide +kernel
theorem dX11_undo_31 : decode cX11_undo 31 = .ok (.getfield 7, 3) := by decide +kernel
theorem dX11_undo_34 : decode cX11_undo 34 = .ok (.iload_n 1, 1) := by decide +kernel
theorem dX11_undo_35 : decode cX11_undo 35 = .ok (.aload_n 0, 1) := by decide +kernel
theorem dX11_undo_36 : decode cX11_undo 36 = .ok (.getfield 13, 3) := by decide +kernel
theorem dX11_undo_39 : decode cX11_undo 39 = .ok (.sipush 413, 3) := by decide +kernel
theorem dX11_undo_42 : decode cX11_undo 42 = .ok (.aload_n 0, 1) := by decide +kernel
theorem dX11_undo_43 : decode cX11_undo 43 = .ok (.getfield 29, 3) := by decide +kernel
theorem dX11_undo_46 : decode cX11_undo 46 = .ok (.imul, 1) := by decide +kernel
theorem dX11_undo_47 : decode cX11_undo 47 = .ok (.iload_n 1, 1) := by decide +kernel
theorem dX11_undo_48 : decode cX11_undo 48 = .ok (.iadd, 1) := by decide +kernel
theorem dX11_undo_49 : decode cX11_undo 49 = .ok (.iaload, 1) := by decide +kernel
theorem dX11_undo_50 : decode cX11_undo 50 = .ok (.iastore, 1) := by decide +kernel
theorem dX11_undo_51 : decode cX11_undo 51 = .ok (.iinc 1 1, 3) := by decide +kernel
theorem dX11_undo_54 : decode cX11_undo 54 = .ok (.goto (-31), 3) := by decide +kernel
theorem dX11_undo_57 : decode cX11_undo 57 = .ok (.aload_n 0, 1) := by decide +kernel
theorem dX11_undo_58 : decode cX11_undo 58 = .ok (.getfield 29, 3) := by decide +kernel
theorem dX11_undo_61 : decode cX11_undo 61 = .ok (.ireturn, 1) := by decide +kernel
theorem dX11_keep_0 : decode cX11_keep 0 = .ok (.iconst 0, 1) := by decide +kernel
theorem dX11_keep_1 : decode cX11_keep 1 = .ok (.istore_n 1, 1) := by decide +kernel
theorem dX11_keep_2 : decode cX11_keep 2 = .ok (.iload_n 1, 1) := by decide +kernel
theorem dX11_keep_3 : decode cX11_keep 3 = .ok (.sipush 413, 3) := by decide +kernel
theorem dX11_keep_6 : decode cX11_keep 6 = .ok (.if_icmp .ge 21, 3) := by decide +kernel
theorem dX11_keep_9 : decode cX11_keep 9 = .ok (.aload_n 0, 1) := by decide +kernel
theorem dX11_keep_10 : decode cX11_keep 10 = .ok (.getfield 16, 3) := by decide +kernel
theorem dX11_keep_13 : decode cX11_keep 13 = .ok (.iload_n 1, 1) := by decide +kernel
theorem dX11_keep_14 : decode cX11_keep 14 = .ok (.aload_n 0, 1) := by decide +kernel
theorem dX11_keep_15 : decode cX11_keep 15 = .ok (.getfield 7, 3) := by decide +kernel
theorem dX11_keep_18 : decode cX11_keep 18 = .ok (.iload_n 1, 1) := by decide +kernel
theorem dX11_keep_19 : decode cX11_keep 19 = .ok (.iaload, 1) := by decide +kernel
theorem dX11_keep_20 : decode cX11_keep 20 = .ok (.iastore, 1) := by decide +kernel
theorem dX11_keep_21 : decode cX11_keep 21 = .ok (.iinc 1 1, 3) := by decide +kernel
theorem dX11_keep_24 : decode cX11_keep 24 = .ok (.goto (-22), 3) := by decide +kernel
theorem dX11_keep_27 : decode cX11_keep 27 = .ok (.aload_n 0, 1) := by decide +kernel
theorem dX11_keep_28 : decode cX11_keep 28 = .ok (.iconst 1, 1) := by decide +kernel
theorem dX11_keep_29 : decode cX11_keep 29 = .ok (.putfield 201, 3) := by decide +kernel
theorem dX11_keep_32 : decode cX11_keep 32 = .ok (.aload_n 0, 1) := by decide +kernel
theorem dX11_keep_33 : decode cX11_keep 33 = .ok (.getfield 7, 3) := by decide +kernel
theorem dX11_keep_36 : decode cX11_keep 36 = .ok (.iconst 0, 1) := by decide +kernel
theorem dX11_keep_37 : decode cX11_keep 37 = .ok (.iaload, 1) := by decide +kernel
theorem dX11_keep_38 : decode cX11_keep 38 = .ok (.ireturn, 1) := by decide +kernel
theorem dX11_restore_0 : decode cX11_restore 0 = .ok (.aload_n 0, 1) := by decide +kernel
theorem dX11_restore_1 : decode cX11_restore 1 = .ok (.getfield 201, 3) := by decide +kernel
theorem dX11_restore_4 : decode cX11_restore 4 = .ok (.ifCond .ne 7, 3) := by decide +kernel
theorem dX11_restore_7 : decode cX11_restore 7 = .ok (.sipush (-1006), 3) := by decide +kernel
theorem dX11_restore_10 : decode cX11_restore 10 = .ok (.ireturn, 1) := by decide +kernel
theorem dX11_restore_11 : decode cX11_restore 11 = .ok (.aload_n 0, 1) := by decide +kernel
theorem dX11_restore_12 : decode cX11_restore 12 = .ok (.invokevirtual 33, 3) := by decide +kernel
theorem dX11_restore_15 : decode cX11_restore 15 = .ok (.iconst 0, 1) := by decide +kernel
theorem dX11_restore_16 : decode cX11_restore 16 = .ok (.istore_n 1, 1) := by decide +kernel
theorem dX11_restore_17 : decode cX11_restore 17 = .ok (.iload_n 1, 1) := by decide +kernel
theorem dX11_restore_18 : decode cX11_restore 18 = .ok (.sipush 413, 3) := by decide +kernel
theorem dX11_restore_21 : decode cX11_restore 21 = .ok (.if_icmp .ge 21, 3) := by decide +kernel
theorem dX11_restore_24 : decode cX11_restore 24 = .ok (.aload_n 0, 1) := by decide +kernel
theorem dX11_restore_25 : decode cX11_restore 25 = .ok (.getfield 7, 3) := by decide +kernel
theorem dX11_restore_28 : decode cX11_restore 28 = .ok (.iload_n 1, 1) := by decide +kernel
theorem dX11_restore_29 : decode cX11_restore 29 = .ok (.aload_n 0, 1) := by decide +kernel
theorem dX11_restore_30 : decode cX11_restore 30 = .ok (.getfield 16, 3) := by decide +kernel
theorem dX11_restore_33 : decode cX11_restore 33 = .ok (.iload_n 1, 1) := by decide +kernel
theorem dX11_restore_34 : decode cX11_restore 34 = .ok (.iaload, 1) := by decide +kernel
theorem dX11_restore_35 : decode cX11_restore 35 = .ok (.iastore, 1) := by decide +kernel
theorem dX11_restore_36 : decode cX11_restore 36 = .ok (.iinc 1 1, 3) := by decide +kernel
theorem dX11_restore_39 : decode cX11_restore 39 = .ok (.goto (-22), 3) := by decide +kernel
theorem dX11_restore_42 : decode cX11_restore 42 = .ok (.aload_n 0, 1) := by decide +kernel
theorem dX11_restore_43 : decode cX11_restore 43 = .ok (.getfield 7, 3) := by decide +kernel
theorem dX11_restore_46 : decode cX11_restore 46 = .ok (.iconst 0, 1) := by decide +kernel
theorem dX11_restore_47 : decode cX11_restore 47 = .ok (.iaload, 1) := by decide +kernel
theorem dX11_restore_48 : decode cX11_restore 48 = .ok (.ireturn, 1) := by decide +kernel
theorem dX11_field_0 : decode cX11_field 0 = .ok (.aload_n 0, 1) := by decide +kernel
theorem dX11_field_1 : decode cX11_field 1 = .ok (.iconst 0, 1) := by decide +kernel
theorem dX11_field_2 : decode cX11_field 2 = .ok (.iload_n 1, 1) := by decide +kernel
theorem dX11_field_3 : decode cX11_field 3 = .ok (.invokevirtual 54, 3) := by decide +kernel
theorem dX11_field_6 : decode cX11_field 6 = .ok (.istore_n 3, 1) := by decide +kernel
theorem dX11_field_7 : decode cX11_field 7 = .ok (.iload_n 3, 1) := by decide +kernel
theorem dX11_field_8 : decode cX11_field 8 = .ok (.ifCond .ge 7, 3) := by decide +kernel
theorem dX11_field_11 : decode cX11_field 11 = .ok (.sipush (-1001), 3) := by decide +kernel
theorem dX11_field_14 : decode cX11_field 14 = .ok (.ireturn, 1) := by decide +kernel
theorem dX11_field_15 : decode cX11_field 15 = .ok (.iload_n 2, 1) := by decide +kernel
theorem dX11_field_16 : decode cX11_field 16 = .ok (.iconst 0, 1) := by decide +kernel
theorem dX11_field_17 : decode cX11_field 17 = .ok (.iconst 2, 1) := by decide +kernel
theorem dX11_field_18 : decode cX11_field 18 = .ok (.invokestatic 25, 3) := by decide +kernel
theorem dX11_field_21 : decode cX11_field 21 = .ok (.ifCond .eq 16, 3) := by decide +kernel
theorem dX11_field_24 : decode cX11_field 24 = .ok (.aload_n 0, 1) := by decide +kernel
theorem dX11_field_25 : decode cX11_field 25 = .ok (.getfield 7, 3) := by decide +kernel
theorem dX11_field_28 : decode cX11_field 28 = .ok (.iload_n 3, 1) := by decide +kernel
theorem dX11_field_29 : decode cX11_field 29 = .ok (.iconst 1, 1) := by decide +kernel
theorem dX11_field_30 : decode cX11_field 30 = .ok (.iadd, 1) := by decide +kernel
theorem dX11_field_31 : decode cX11_field 31 = .ok (.iload_n 2, 1) := by decide +kernel
theorem dX11_field_32 : decode cX11_field 32 = .ok (.iadd, 1) := by decide +kernel
theorem dX11_field_33 : decode cX11_field 33 = .ok (.iaload, 1) := by decide +kernel
theorem dX11_field_34 : decode cX11_field 34 = .ok (.goto 6, 3) := by decide +kernel
theorem dX11_field_37 : decode cX11_field 37 = .ok (.sipush (-1002), 3) := by decide +kernel
theorem dX11_field_40 : decode cX11_field 40 = .ok (.ireturn, 1) := by decide +kernel
theorem dX11_keyAt_0 : decode cX11_keyAt 0 = .ok (.iload_n 1, 1) := by decide +kernel
theorem dX11_keyAt_1 : decode cX11_keyAt 1 = .ok (.ifCond .ge 7, 3) := by decide +kernel
theorem dX11_keyAt_4 : decode cX11_keyAt 4 = .ok (.sipush (-1002), 3) := by decide +kernel
theorem dX11_keyAt_7 : decode cX11_keyAt 7 = .ok (.ireturn, 1) := by decide +kernel
theorem dX11_keyAt_8 : decode cX11_keyAt 8 = .ok (.iload_n 1, 1) := by decide +kernel
theorem dX11_keyAt_9 : decode cX11_keyAt 9 = .ok (.istore_n 2, 1) := by decide +kernel
theorem dX11_keyAt_10 : decode cX11_keyAt 10 = .ok (.iconst 0, 1) := by decide +kernel
theorem dX11_keyAt_11 : decode cX11_keyAt 11 = .ok (.istore_n 3, 1) := by decide +kernel
theorem dX11_keyAt_12 : decode cX11_keyAt 12 = .ok (.iload_n 3, 1) := by decide +kernel
theorem dX11_keyAt_13 : decode cX11_keyAt 13 = .ok (.bipush 100, 2) := by decide +kernel
theorem dX11_keyAt_15 : decode cX11_keyAt 15 = .ok (.if_icmp .ge 27, 3) := by decide +kernel
theorem dX11_keyAt_18 : decode cX11_keyAt 18 = .ok (.aload_n 0, 1) := by decide +kernel
theorem dX11_keyAt_19 : decode cX11_keyAt 19 = .ok (.iconst 0, 1) := by decide +kernel
theorem dX11_keyAt_20 : decode cX11_keyAt 20 = .ok (.iload_n 3, 1) := by decide +kernel
theorem dX11_keyAt_21 : decode cX11_keyAt 21 = .ok (.invokevirtual 54, 3) := by decide +kernel
theorem dX11_keyAt_24 : decode cX11_keyAt 24 = .ok (.ifCond .lt 12, 3) := by decide +kernel
theorem dX11_keyAt_27 : decode cX11_keyAt 27 = .ok (.iload_n 2, 1) := by decide +kernel
theorem dX11_keyAt_28 : decode cX11_keyAt 28 = .ok (.ifCond .ne 5, 3) := by decide +kernel
theorem dX11_keyAt_31 : decode cX11_keyAt 31 = .ok (.iload_n 3, 1) := by decide +kernel
theorem dX11_keyAt_32 : decode cX11_keyAt 32 = .ok (.ireturn, 1) := by decide +kernel
theorem dX11_keyAt_33 : decode cX11_keyAt 33 = .ok (.iinc 2 (-1), 3) := by decide +kernel
theorem dX11_keyAt_36 : decode cX11_keyAt 36 = .ok (.iinc 3 1, 3) := by decide +kernel
theorem dX11_keyAt_39 : decode cX11_keyAt 39 = .ok (.goto (-27), 3) := by decide +kernel
theorem dX11_keyAt_42 : decode cX11_keyAt 42 = .ok (.sipush (-1006), 3) := by decide +kernel
theorem dX11_keyAt_45 : decode cX11_keyAt 45 = .ok (.ireturn, 1) := by decide +kernel
theorem dX11_rule_0 : decode cX11_rule 0 = .ok (.aload_n 0, 1) := by decide +kernel
theorem dX11_rule_1 : decode cX11_rule 1 = .ok (.iload_n 1, 1) := by decide +kernel
theorem dX11_rule_2 : decode cX11_rule 2 = .ok (.invokevirtual 155, 3) := by decide +kernel
theorem dX11_rule_5 : decode cX11_rule 5 = .ok (.ifCond .ne 7, 3) := by decide +kernel
theorem dX11_rule_8 : decode cX11_rule 8 = .ok (.sipush (-1001), 3) := by decide +kernel
theorem dX11_rule_11 : decode cX11_rule 11 = .ok (.ireturn, 1) := by decide +kernel
theorem dX11_rule_12 : decode cX11_rule 12 = .ok (.iload_n 2, 1) := by decide +kernel
theorem dX11_rule_13 : decode cX11_rule 13 = .ok (.iconst 0, 1) := by decide +kernel
theorem dX11_rule_14 : decode cX11_rule 14 = .ok (.bipush 11, 2) := by decide +kernel
theorem dX11_rule_16 : decode cX11_rule 16 = .ok (.invokestatic 25, 3) := by decide +kernel
theorem dX11_rule_19 : decode cX11_rule 19 = .ok (.ifCond .eq 18, 3) := by decide +kernel
theorem dX11_rule_22 : decode cX11_rule 22 = .ok (.aload_n 0, 1) := by decide +kernel
theorem dX11_rule_23 : decode cX11_rule 23 = .ok (.getfield 7, 3) := by decide +kernel
theorem dX11_rule_26 : decode cX11_rule 26 = .ok (.iconst 0, 1) := by decide +kernel
theorem dX11_rule_27 : decode cX11_rule 27 = .ok (.iload_n 1, 1) := by decide +kernel
theorem dX11_rule_28 : decode cX11_rule 28 = .ok (.invokestatic 40, 3) := by decide +kernel
theorem dX11_rule_31 : decode cX11_rule 31 = .ok (.iload_n 2, 1) := by decide +kernel
theorem dX11_rule_32 : decode cX11_rule 32 = .ok (.iadd, 1) := by decide +kernel
theorem dX11_rule_33 : decode cX11_rule 33 = .ok (.iaload, 1) := by decide +kernel
theorem dX11_rule_34 : decode cX11_rule 34 = .ok (.goto 6, 3) := by decide +kernel
theorem dX11_rule_37 : decode cX11_rule 37 = .ok (.sipush (-1002), 3) := by decide +kernel
theorem dX11_rule_40 : decode cX11_rule 40 = .ok (.ireturn, 1) := by decide +kernel
theorem dX11_order_0 : decode cX11_order 0 = .ok (.iload_n 1, 1) := by decide +kernel
theorem dX11_order_1 : decode cX11_order 1 = .ok (.iconst 0, 1) := by decide +kernel
theorem dX11_order_2 : decode cX11_order 2 = .ok (.iconst 2, 1) := by decide +kernel
theorem dX11_order_3 : decode cX11_order 3 = .ok (.invokestatic 25, 3) := by decide +kernel
theorem dX11_order_6 : decode cX11_order 6 = .ok (.ifCond .eq 20, 3) := by decide +kernel
theorem dX11_order_9 : decode cX11_order 9 = .ok (.iload_n 2, 1) := by decide +kernel
theorem dX11_order_10 : decode cX11_order 10 = .ok (.iconst 0, 1) := by decide +kernel
theorem dX11_order_11 : decode cX11_order 11 = .ok (.iconst 1, 1) := by decide +kernel
theorem dX11_order_12 : decode cX11_order 12 = .ok (.invokestatic 25, 3) := by decide +kernel
theorem dX11_order_15 : decode cX11_order 15 = .ok (.ifCond .eq 11, 3) := by decide +kernel
theorem dX11_order_18 : decode cX11_order 18 = .ok (.iload_n 3, 1) := by decide +kernel
theorem dX11_order_19 : decode cX11_order 19 = .ok (.ifCond .lt 7, 3) := by decide +kernel
theorem dX11_order_22 : decode cX11_order 22 = .ok (.iconst 1, 1) := by decide +kernel
theorem dX11_order_23 : decode cX11_order 23 = .ok (.goto 4, 3) := by decide +kernel
theorem dX11_order_26 : decode cX11_order 26 = .ok (.iconst 0, 1) := by decide +kernel
theorem dX11_order_27 : decode cX11_order 27 = .ok (.istore 4, 2) := by decide +kernel
theorem dX11_order_29 : decode cX11_order 29 = .ok (.iload 4, 2) := by decide +kernel
theorem dX11_order_31 : decode cX11_order 31 = .ok (.ifCond .eq 14, 3) := by decide +kernel
theorem dX11_order_34 : decode cX11_order 34 = .ok (.aload_n 0, 1) := by decide +kernel
theorem dX11_order_35 : decode cX11_order 35 = .ok (.iconst 0, 1) := by decide +kernel
theorem dX11_order_36 : decode cX11_order 36 = .ok (.iload_n 1, 1) := by decide +kernel
theorem dX11_order_37 : decode cX11_order 37 = .ok (.iload_n 2, 1) := by decide +kernel
theorem dX11_order_38 : decode cX11_order 38 = .ok (.iload_n 3, 1) := by decide +kernel
theorem dX11_order_39 : decode cX11_order 39 = .ok (.invokevirtual 104, 3) := by decide +kernel
theorem dX11_order_42 : decode cX11_order 42 = .ok (.goto 6, 3) := by decide +kernel
theorem dX11_order_45 : decode cX11_order 45 = .ok (.sipush (-1002), 3) := by decide +kernel
theorem dX11_order_48 : decode cX11_order 48 = .ok (.ireturn, 1) := by decide +kernel
theorem dX11_firing_0 : decode cX11_firing 0 = .ok (.iload_n 1, 1) := by decide +kernel
theorem dX11_firing_1 : decode cX11_firing 1 = .ok (.ifCond .lt 12, 3) := by decide +kernel
theorem dX11_firing_4 : decode cX11_firing 4 = .ok (.iload_n 2, 1) := by decide +kernel
theorem dX11_firing_5 : decode cX11_firing 5 = .ok (.iconst 0, 1) := by decide +kernel
theorem dX11_firing_6 : decode cX11_firing 6 = .ok (.iconst 2, 1) := by decide +kernel
theorem dX11_firing_7 : decode cX11_firing 7 = .ok (.invokestatic 25, 3) := by decide +kernel
theorem dX11_firing_10 : decode cX11_firing 10 = .ok (.ifCond .ne 7, 3) := by decide +kernel
theorem dX11_firing_13 : decode cX11_firing 13 = .ok (.sipush (-1002), 3) := by decide +kernel
theorem dX11_firing_16 : decode cX11_firing 16 = .ok (.ireturn, 1) := by decide +kernel
theorem dX11_firing_17 : decode cX11_firing 17 = .ok (.iload_n 1, 1) := by decide +kernel
theorem dX11_firing_18 : decode cX11_firing 18 = .ok (.aload_n 0, 1) := by decide +kernel
theorem dX11_firing_19 : decode cX11_firing 19 = .ok (.getfield 7, 3) := by decide +kernel
theorem dX11_firing_22 : decode cX11_firing 22 = .ok (.sipush 232, 3) := by decide +kernel
theorem dX11_firing_25 : decode cX11_firing 25 = .ok (.iaload, 1) := by decide +kernel
theorem dX11_firing_26 : decode cX11_firing 26 = .ok (.if_icmp .ge 20, 3) := by decide +kernel
theorem dX11_firing_29 : decode cX11_firing 29 = .ok (.aload_n 0, 1) := by decide +kernel
theorem dX11_firing_30 : decode cX11_firing 30 = .ok (.getfield 7, 3) := by decide +kernel
theorem dX11_firing_33 : decode cX11_firing 33 = .ok (.sipush 233, 3) := by decide +kernel
theorem dX11_firing_36 : decode cX11_firing 36 = .ok (.iconst 3, 1) := by decide +kernel
theorem dX11_firing_37 : decode cX11_firing 37 = .ok (.iload_n 1, 1) := by decide +kernel
theorem dX11_firing_38 : decode cX11_firing 38 = .ok (.imul, 1) := by decide +kernel
theorem dX11_firing_39 : decode cX11_firing 39 = .ok (.iadd, 1) := by decide +kernel
theorem dX11_firing_40 : decode cX11_firing 40 = .ok (.iload_n 2, 1) := by decide +kernel
theorem dX11_firing_41 : decode cX11_firing 41 = .ok (.iadd, 1) := by decide +kernel
theorem dX11_firing_42 : decode cX11_firing 42 = .ok (.iaload, 1) := by decide +kernel
theorem dX11_firing_43 : decode cX11_firing 43 = .ok (.goto 6, 3) := by decide +kernel
theorem dX11_firing_46 : decode cX11_firing 46 = .ok (.sipush (-1006), 3) := by decide +kernel
theorem dX11_firing_49 : decode cX11_firing 49 = .ok (.ireturn, 1) := by decide +kernel
theorem dX11_total_0 : decode cX11_total 0 = .ok (.iload_n 1, 1) := by decide +kernel
theorem dX11_total_1 : decode cX11_total 1 = .ok (.tableswitch 119 0 11 #[63, 70, 78, 83, 83, 96, 96, 96, 96, 96, 109, 114], 63) := by decide +kernel
theorem dX11_total_64 : decode cX11_total 64 = .ok (.aload_n 0, 1) := by decide +kernel
theorem dX11_total_65 : decode cX11_total 65 = .ok (.getfield 7, 3) := by decide +kernel
theorem dX11_total_68 : decode cX11_total 68 = .ok (.iconst 0, 1) := by decide +kernel
theorem dX11_total_69 : decode cX11_total 69 = .ok (.iaload, 1) := by decide +kernel
theorem dX11_total_70 : decode cX11_total 70 = .ok (.ireturn, 1) := by decide +kernel
theorem dX11_total_71 : decode cX11_total 71 = .ok (.aload_n 0, 1) := by decide +kernel
theorem dX11_total_72 : decode cX11_total 72 = .ok (.getfield 7, 3) := by decide +kernel
theorem dX11_total_75 : decode cX11_total 75 = .ok (.bipush 81, 2) := by decide +kernel
theorem dX11_total_77 : decode cX11_total 77 = .ok (.iaload, 1) := by decide +kernel
theorem dX11_total_78 : decode cX11_total 78 = .ok (.ireturn, 1) := by decide +kernel
theorem dX11_total_79 : decode cX11_total 79 = .ok (.aload_n 0, 1) := by decide +kernel
theorem dX11_total_80 : decode cX11_total 80 = .ok (.invokevirtual 158, 3) := by decide +kernel
theorem dX11_total_83 : decode cX11_total 83 = .ok (.ireturn, 1) := by decide +kernel
theorem dX11_total_84 : decode cX11_total 84 = .ok (.aload_n 0, 1) := by decide +kernel
theorem dX11_total_85 : decode cX11_total 85 = .ok (.getfield 7, 3) := by decide +kernel
theorem dX11_total_88 : decode cX11_total 88 = .ok (.sipush 226, 3) := by decide +kernel
theorem dX11_total_91 : decode cX11_total 91 = .ok (.iload_n 1, 1) := by decide +kernel
theorem dX11_total_92 : decode cX11_total 92 = .ok (.iadd, 1) := by decide +kernel
theorem dX11_total_93 : decode cX11_total 93 = .ok (.iconst 3, 1) := by decide +kernel
theorem dX11_total_94 : decode cX11_total 94 = .ok (.isub, 1) := by decide +kernel
theorem dX11_total_95 : decode cX11_total 95 = .ok (.iaload, 1) := by decide +kernel
theorem dX11_total_96 : decode cX11_total 96 = .ok (.ireturn, 1) := by decide +kernel
theorem dX11_total_97 : decode cX11_total 97 = .ok (.aload_n 0, 1) := by decide +kernel
theorem dX11_total_98 : decode cX11_total 98 = .ok (.getfield 7, 3) := by decide +kernel
theorem dX11_total_101 : decode cX11_total 101 = .ok (.sipush 228, 3) := by decide +kernel
theorem dX11_total_104 : decode cX11_total 104 = .ok (.iload_n 1, 1) := by decide +kernel
theorem dX11_total_105 : decode cX11_total 105 = .ok (.iadd, 1) := by decide +kernel
theorem dX11_total_106 : decode cX11_total 106 = .ok (.iconst 5, 1) := by decide +kernel
theorem dX11_total_107 : decode cX11_total 107 = .ok (.isub, 1) := by decide +kernel
theorem dX11_total_108 : decode cX11_total 108 = .ok (.iaload, 1) := by decide +kernel
theorem dX11_total_109 : decode cX11_total 109 = .ok (.ireturn, 1) := by decide +kernel
theorem dX11_total_110 : decode cX11_total 110 = .ok (.aload_n 0, 1) := by decide +kernel
theorem dX11_total_111 : decode cX11_total 111 = .ok (.getfield 29, 3) := by decide +kernel
theorem dX11_total_114 : decode cX11_total 114 = .ok (.ireturn, 1) := by decide +kernel
theorem dX11_total_115 : decode cX11_total 115 = .ok (.aload_n 0, 1) := by decide +kernel
theorem dX11_total_116 : decode cX11_total 116 = .ok (.getfield 161, 3) := by decide +kernel
theorem dX11_total_119 : decode cX11_total 119 = .ok (.ireturn, 1) := by decide +kernel
theorem dX11_total_120 : decode cX11_total 120 = .ok (.sipush (-1002), 3) := by decide +kernel
theorem dX11_total_123 : decode cX11_total 123 = .ok (.ireturn, 1) := by decide +kernel
theorem dX11_told_0 : decode cX11_told 0 = .ok (.iload_n 1, 1) := by decide +kernel
theorem dX11_told_1 : decode cX11_told 1 = .ok (.ifCond .ne 10, 3) := by decide +kernel
theorem dX11_told_4 : decode cX11_told 4 = .ok (.aload_n 0, 1) := by decide +kernel
theorem dX11_told_5 : decode cX11_told 5 = .ok (.getfield 48, 3) := by decide +kernel
theorem dX11_told_8 : decode cX11_told 8 = .ok (.goto 43, 3) := by decide +kernel
theorem dX11_told_11 : decode cX11_told 11 = .ok (.iload_n 1, 1) := by decide +kernel
theorem dX11_told_12 : decode cX11_told 12 = .ok (.iconst 1, 1) := by decide +kernel
theorem dX11_told_13 : decode cX11_told 13 = .ok (.if_icmp .ne 10, 3) := by decide +kernel
theorem dX11_told_16 : decode cX11_told 16 = .ok (.aload_n 0, 1) := by decide +kernel
theorem dX11_told_17 : decode cX11_told 17 = .ok (.getfield 51, 3) := by decide +kernel
theorem dX11_told_20 : decode cX11_told 20 = .ok (.goto 31, 3) := by decide +kernel
theorem dX11_told_23 : decode cX11_told 23 = .ok (.iload_n 1, 1) := by decide +kernel
theorem dX11_told_24 : decode cX11_told 24 = .ok (.iconst 2, 1) := by decide +kernel
theorem dX11_told_25 : decode cX11_told 25 = .ok (.if_icmp .ne 10, 3) := by decide +kernel
theorem dX11_told_28 : decode cX11_told 28 = .ok (.aload_n 0, 1) := by decide +kernel
theorem dX11_told_29 : decode cX11_told 29 = .ok (.getfield 64, 3) := by decide +kernel
theorem dX11_told_32 : decode cX11_told 32 = .ok (.goto 19, 3) := by decide +kernel
theorem dX11_told_35 : decode cX11_told 35 = .ok (.iload_n 1, 1) := by decide +kernel
theorem dX11_told_36 : decode cX11_told 36 = .ok (.iconst 3, 1) := by decide +kernel
theorem dX11_told_37 : decode cX11_told 37 = .ok (.if_icmp .ne 10, 3) := by decide +kernel
theorem dX11_told_40 : decode cX11_told 40 = .ok (.aload_n 0, 1) := by decide +kernel
theorem dX11_told_41 : decode cX11_told 41 = .ok (.getfield 83, 3) := by decide +kernel
theorem dX11_told_44 : decode cX11_told 44 = .ok (.goto 7, 3) := by decide +kernel
theorem dX11_told_47 : decode cX11_told 47 = .ok (.aload_n 0, 1) := by decide +kernel
theorem dX11_told_48 : decode cX11_told 48 = .ok (.getfield 70, 3) := by decide +kernel
theorem dX11_told_51 : decode cX11_told 51 = .ok (.ireturn, 1) := by decide +kernel
theorem dX11_ifInserted_0 : decode cX11_ifInserted 0 = .ok (.aload_n 0, 1) := by decide +kernel
theorem dX11_ifInserted_1 : decode cX11_ifInserted 1 = .ok (.iload_n 1, 1) := by decide +kernel
theorem dX11_ifInserted_2 : decode cX11_ifInserted 2 = .ok (.iload_n 2, 1) := by decide +kernel
theorem dX11_ifInserted_3 : decode cX11_ifInserted 3 = .ok (.iload_n 3, 1) := by decide +kernel
theorem dX11_ifInserted_4 : decode cX11_ifInserted 4 = .ok (.iload 4, 2) := by decide +kernel
theorem dX11_ifInserted_6 : decode cX11_ifInserted 6 = .ok (.invokevirtual 135, 3) := by decide +kernel
theorem dX11_ifInserted_9 : decode cX11_ifInserted 9 = .ok (.istore 6, 2) := by decide +kernel
theorem dX11_ifInserted_11 : decode cX11_ifInserted 11 = .ok (.iload 6, 2) := by decide +kernel
theorem dX11_ifInserted_13 : decode cX11_ifInserted 13 = .ok (.ifCond .eq 6, 3) := by decide +kernel
theorem dX11_ifInserted_16 : decode cX11_ifInserted 16 = .ok (.iload 6, 2) := by decide +kernel
theorem dX11_ifInserted_18 : decode cX11_ifInserted 18 = .ok (.ireturn, 1) := by decide +kernel
theorem dX11_ifInserted_19 : decode cX11_ifInserted 19 = .ok (.iload 5, 2) := by decide +kernel
theorem dX11_ifInserted_21 : decode cX11_ifInserted 21 = .ok (.iconst 0, 1) := by decide +kernel
theorem dX11_ifInserted_22 : decode cX11_ifInserted 22 = .ok (.iconst 4, 1) := by decide +kernel
theorem dX11_ifInserted_23 : decode cX11_ifInserted 23 = .ok (.invokestatic 25, 3) := by decide +kernel
theorem dX11_ifInserted_26 : decode cX11_ifInserted 26 = .ok (.ifCond .ne 7, 3) := by decide +kernel
theorem dX11_ifInserted_29 : decode cX11_ifInserted 29 = .ok (.sipush (-1002), 3) := by decide +kernel
theorem dX11_ifInserted_32 : decode cX11_ifInserted 32 = .ok (.ireturn, 1) := by decide +kernel
theorem dX11_ifInserted_33 : decode cX11_ifInserted 33 = .ok (.aload_n 0, 1) := by decide +kernel
theorem dX11_ifInserted_34 : decode cX11_ifInserted 34 = .ok (.iconst 0, 1) := by decide +kernel
theorem dX11_ifInserted_35 : decode cX11_ifInserted 35 = .ok (.sipush 413, 3) := by decide +kernel
theorem dX11_ifInserted_38 : decode cX11_ifInserted 38 = .ok (.invokevirtual 36, 3) := by decide +kernel
theorem dX11_ifInserted_41 : decode cX11_ifInserted 41 = .ok (.aload_n 0, 1) := by decide +kernel
theorem dX11_ifInserted_42 : decode cX11_ifInserted 42 = .ok (.sipush 413, 3) := by decide +kernel
theorem dX11_ifInserted_45 : decode cX11_ifInserted 45 = .ok (.iload_n 1, 1) := by decide +kernel
theorem dX11_ifInserted_46 : decode cX11_ifInserted 46 = .ok (.iload_n 2, 1) := by decide +kernel
theorem dX11_ifInserted_47 : decode cX11_ifInserted 47 = .ok (.iload_n 3, 1) := by decide +kernel
theorem dX11_ifInserted_48 : decode cX11_ifInserted 48 = .ok (.iload 4, 2) := by decide +kernel
theorem dX11_ifInserted_50 : decode cX11_ifInserted 50 = .ok (.invokevirtual 138, 3) := by decide +kernel
theorem dX11_ifInserted_53 : decode cX11_ifInserted 53 = .ok (.aload_n 0, 1) := by decide +kernel
theorem dX11_ifInserted_54 : decode cX11_ifInserted 54 = .ok (.iload 5, 2) := by decide +kernel
theorem dX11_ifInserted_56 : decode cX11_ifInserted 56 = .ok (.invokevirtual 205, 3) := by decide +kernel
theorem dX11_ifInserted_59 : decode cX11_ifInserted 59 = .ok (.ireturn, 1) := by decide +kernel
theorem dX11_ifUpdated_0 : decode cX11_ifUpdated 0 = .ok (.aload_n 0, 1) := by decide +kernel
theorem dX11_ifUpdated_1 : decode cX11_ifUpdated 1 = .ok (.iload_n 1, 1) := by decide +kernel
theorem dX11_ifUpdated_2 : decode cX11_ifUpdated 2 = .ok (.iload_n 2, 1) := by decide +kernel
theorem dX11_ifUpdated_3 : decode cX11_ifUpdated 3 = .ok (.iload_n 3, 1) := by decide +kernel
theorem dX11_ifUpdated_4 : decode cX11_ifUpdated 4 = .ok (.invokevirtual 146, 3) := by decide +kernel
theorem dX11_ifUpdated_7 : decode cX11_ifUpdated 7 = .ok (.istore 5, 2) := by decide +kernel
theorem dX11_ifUpdated_9 : decode cX11_ifUpdated 9 = .ok (.iload 5, 2) := by decide +kernel
theorem dX11_ifUpdated_11 : decode cX11_ifUpdated 11 = .ok (.ifCond .eq 14, 3) := by decide +kernel
theorem dX11_ifUpdated_14 : decode cX11_ifUpdated 14 = .ok (.iload 5, 2) := by decide +kernel
theorem dX11_ifUpdated_16 : decode cX11_ifUpdated 16 = .ok (.sipush (-1006), 3) := by decide +kernel
theorem dX11_ifUpdated_19 : decode cX11_ifUpdated 19 = .ok (.if_icmp .eq 6, 3) := by decide +kernel
theorem dX11_ifUpdated_22 : decode cX11_ifUpdated 22 = .ok (.iload 5, 2) := by decide +kernel
theorem dX11_ifUpdated_24 : decode cX11_ifUpdated 24 = .ok (.ireturn, 1) := by decide +kernel
theorem dX11_ifUpdated_25 : decode cX11_ifUpdated 25 = .ok (.iload 4, 2) := by decide +kernel
theorem dX11_ifUpdated_27 : decode cX11_ifUpdated 27 = .ok (.iconst 0, 1) := by decide +kernel
theorem dX11_ifUpdated_28 : decode cX11_ifUpdated 28 = .ok (.iconst 4, 1) := by decide +kernel
theorem dX11_ifUpdated_29 : decode cX11_ifUpdated 29 = .ok (.invokestatic 25, 3) := by decide +kernel
theorem dX11_ifUpdated_32 : decode cX11_ifUpdated 32 = .ok (.ifCond .eq 11, 3) := by decide +kernel
theorem dX11_ifUpdated_35 : decode cX11_ifUpdated 35 = .ok (.iload 5, 2) := by decide +kernel
theorem dX11_ifUpdated_37 : decode cX11_ifUpdated 37 = .ok (.sipush (-1006), 3) := by decide +kernel
theorem dX11_ifUpdated_40 : decode cX11_ifUpdated 40 = .ok (.if_icmp .ne 23, 3) := by decide +kernel
theorem dX11_ifUpdated_43 : decode cX11_ifUpdated 43 = .ok (.iload 4, 2) := by decide +kernel
theorem dX11_ifUpdated_45 : decode cX11_ifUpdated 45 = .ok (.iconst 0, 1) := by decide +kernel
theorem dX11_ifUpdated_46 : decode cX11_ifUpdated 46 = .ok (.iconst 4, 1) := by decide +kernel
theorem dX11_ifUpdated_47 : decode cX11_ifUpdated 47 = .ok (.invokestatic 25, 3) := by decide +kernel
theorem dX11_ifUpdated_50 : decode cX11_ifUpdated 50 = .ok (.ifCond .eq 9, 3) := by decide +kernel
theorem dX11_ifUpdated_53 : decode cX11_ifUpdated 53 = .ok (.sipush (-1006), 3) := by decide +kernel
theorem dX11_ifUpdated_56 : decode cX11_ifUpdated 56 = .ok (.goto 6, 3) := by decide +kernel
theorem dX11_ifUpdated_59 : decode cX11_ifUpdated 59 = .ok (.sipush (-1002), 3) := by decide +kernel
theorem dX11_ifUpdated_62 : decode cX11_ifUpdated 62 = .ok (.ireturn, 1) := by decide +kernel
theorem dX11_ifUpdated_63 : decode cX11_ifUpdated 63 = .ok (.aload_n 0, 1) := by decide +kernel
theorem dX11_ifUpdated_64 : decode cX11_ifUpdated 64 = .ok (.iconst 0, 1) := by decide +kernel
theorem dX11_ifUpdated_65 : decode cX11_ifUpdated 65 = .ok (.sipush 413, 3) := by decide +kernel
theorem dX11_ifUpdated_68 : decode cX11_ifUpdated 68 = .ok (.invokevirtual 36, 3) := by decide +kernel
theorem dX11_ifUpdated_71 : decode cX11_ifUpdated 71 = .ok (.aload_n 0, 1) := by decide +kernel
theorem dX11_ifUpdated_72 : decode cX11_ifUpdated 72 = .ok (.sipush 413, 3) := by decide +kernel
theorem dX11_ifUpdated_75 : decode cX11_ifUpdated 75 = .ok (.iload_n 1, 1) := by decide +kernel
theorem dX11_ifUpdated_76 : decode cX11_ifUpdated 76 = .ok (.iload_n 2, 1) := by decide +kernel
theorem dX11_ifUpdated_77 : decode cX11_ifUpdated 77 = .ok (.iload_n 3, 1) := by decide +kernel
theorem dX11_ifUpdated_78 : decode cX11_ifUpdated 78 = .ok (.invokevirtual 149, 3) := by decide +kernel
theorem dX11_ifUpdated_81 : decode cX11_ifUpdated 81 = .ok (.aload_n 0, 1) := by decide +kernel
theorem dX11_ifUpdated_82 : decode cX11_ifUpdated 82 = .ok (.iload 4, 2) := by decide +kernel
theorem dX11_ifUpdated_84 : decode cX11_ifUpdated 84 = .ok (.invokevirtual 205, 3) := by decide +kernel
theorem dX11_ifUpdated_87 : decode cX11_ifUpdated 87 = .ok (.ireturn, 1) := by decide +kernel
theorem dX11_ifDeleted_0 : decode cX11_ifDeleted 0 = .ok (.aload_n 0, 1) := by decide +kernel
theorem dX11_ifDeleted_1 : decode cX11_ifDeleted 1 = .ok (.iconst 0, 1) := by decide +kernel
theorem dX11_ifDeleted_2 : decode cX11_ifDeleted 2 = .ok (.iload_n 1, 1) := by decide +kernel
theorem dX11_ifDeleted_3 : decode cX11_ifDeleted 3 = .ok (.invokevirtual 54, 3) := by decide +kernel
theorem dX11_ifDeleted_6 : decode cX11_ifDeleted 6 = .ok (.ifCond .ge 7, 3) := by decide +kernel
theorem dX11_ifDeleted_9 : decode cX11_ifDeleted 9 = .ok (.sipush (-1001), 3) := by decide +kernel
theorem dX11_ifDeleted_12 : decode cX11_ifDeleted 12 = .ok (.ireturn, 1) := by decide +kernel
theorem dX11_ifDeleted_13 : decode cX11_ifDeleted 13 = .ok (.iload_n 2, 1) := by decide +kernel
theorem dX11_ifDeleted_14 : decode cX11_ifDeleted 14 = .ok (.iconst 0, 1) := by decide +kernel
theorem dX11_ifDeleted_15 : decode cX11_ifDeleted 15 = .ok (.iconst 4, 1) := by decide +kernel
theorem dX11_ifDeleted_16 : decode cX11_ifDeleted 16 = .ok (.invokestatic 25, 3) := by decide +kernel
theorem dX11_ifDeleted_19 : decode cX11_ifDeleted 19 = .ok (.ifCond .ne 7, 3) := by decide +kernel
theorem dX11_ifDeleted_22 : decode cX11_ifDeleted 22 = .ok (.sipush (-1002), 3) := by decide +kernel
theorem dX11_ifDeleted_25 : decode cX11_ifDeleted 25 = .ok (.ireturn, 1) := by decide +kernel
theorem dX11_ifDeleted_26 : decode cX11_ifDeleted 26 = .ok (.aload_n 0, 1) := by decide +kernel
theorem dX11_ifDeleted_27 : decode cX11_ifDeleted 27 = .ok (.iconst 0, 1) := by decide +kernel
theorem dX11_ifDeleted_28 : decode cX11_ifDeleted 28 = .ok (.sipush 413, 3) := by decide +kernel
theorem dX11_ifDeleted_31 : decode cX11_ifDeleted 31 = .ok (.invokevirtual 36, 3) := by decide +kernel
theorem dX11_ifDeleted_34 : decode cX11_ifDeleted 34 = .ok (.aload_n 0, 1) := by decide +kernel
theorem dX11_ifDeleted_35 : decode cX11_ifDeleted 35 = .ok (.sipush 413, 3) := by decide +kernel
theorem dX11_ifDeleted_38 : decode cX11_ifDeleted 38 = .ok (.iload_n 1, 1) := by decide +kernel
theorem dX11_ifDeleted_39 : decode cX11_ifDeleted 39 = .ok (.invokevirtual 152, 3) := by decide +kernel
theorem dX11_ifDeleted_42 : decode cX11_ifDeleted 42 = .ok (.aload_n 0, 1) := by decide +kernel
theorem dX11_ifDeleted_43 : decode cX11_ifDeleted 43 = .ok (.iload_n 2, 1) := by decide +kernel
theorem dX11_ifDeleted_44 : decode cX11_ifDeleted 44 = .ok (.invokevirtual 205, 3) := by decide +kernel
theorem dX11_ifDeleted_47 : decode cX11_ifDeleted 47 = .ok (.ireturn, 1) := by decide +kernel
theorem dX11_depthFor_0 : decode cX11_depthFor 0 = .ok (.aload_n 0, 1) := by decide +kernel
theorem dX11_depthFor_1 : decode cX11_depthFor 1 = .ok (.iload_n 1, 1) := by decide +kernel
theorem dX11_depthFor_2 : decode cX11_depthFor 2 = .ok (.iload_n 2, 1) := by decide +kernel
theorem dX11_depthFor_3 : decode cX11_depthFor 3 = .ok (.iload_n 3, 1) := by decide +kernel
theorem dX11_depthFor_4 : decode cX11_depthFor 4 = .ok (.invokevirtual 146, 3) := by decide +kernel
theorem dX11_depthFor_7 : decode cX11_depthFor 7 = .ok (.istore 4, 2) := by decide +kernel
theorem dX11_depthFor_9 : decode cX11_depthFor 9 = .ok (.iconst 1, 1) := by decide +kernel
theorem dX11_depthFor_10 : decode cX11_depthFor 10 = .ok (.istore 5, 2) := by decide +kernel
theorem dX11_depthFor_12 : decode cX11_depthFor 12 = .ok (.iload 5, 2) := by decide +kernel
theorem dX11_depthFor_14 : decode cX11_depthFor 14 = .ok (.bipush 9, 2) := by decide +kernel
theorem dX11_depthFor_16 : decode cX11_depthFor 16 = .ok (.if_icmp .ge 52, 3) := by decide +kernel
theorem dX11_depthFor_19 : decode cX11_depthFor 19 = .ok (.iload 4, 2) := by decide +kernel
theorem dX11_depthFor_21 : decode cX11_depthFor 21 = .ok (.ifCond .ne 47, 3) := by decide +kernel
theorem dX11_depthFor_24 : decode cX11_depthFor 24 = .ok (.aload_n 0, 1) := by decide +kernel
theorem dX11_depthFor_25 : decode cX11_depthFor 25 = .ok (.iconst 0, 1) := by decide +kernel
theorem dX11_depthFor_26 : decode cX11_depthFor 26 = .ok (.sipush 413, 3) := by decide +kernel
theorem dX11_depthFor_29 : decode cX11_depthFor 29 = .ok (.invokevirtual 36, 3) := by decide +kernel
theorem dX11_depthFor_32 : decode cX11_depthFor 32 = .ok (.aload_n 0, 1) := by decide +kernel
theorem dX11_depthFor_33 : decode cX11_depthFor 33 = .ok (.getfield 7, 3) := by decide +kernel
theorem dX11_depthFor_36 : decode cX11_depthFor 36 = .ok (.sipush 639, 3) := by decide +kernel
theorem dX11_depthFor_39 : decode cX11_depthFor 39 = .ok (.iload 5, 2) := by decide +kernel
theorem dX11_depthFor_41 : decode cX11_depthFor 41 = .ok (.iastore, 1) := by decide +kernel
theorem dX11_depthFor_42 : decode cX11_depthFor 42 = .ok (.aload_n 0, 1) := by decide +kernel
theorem dX11_depthFor_43 : decode cX11_depthFor 43 = .ok (.sipush 413, 3) := by decide +kernel
theorem dX11_depthFor_46 : decode cX11_depthFor 46 = .ok (.iload_n 1, 1) := by decide +kernel
theorem dX11_depthFor_47 : decode cX11_depthFor 47 = .ok (.iload_n 2, 1) := by decide +kernel
theorem dX11_depthFor_48 : decode cX11_depthFor 48 = .ok (.iload_n 3, 1) := by decide +kernel
theorem dX11_depthFor_49 : decode cX11_depthFor 49 = .ok (.invokevirtual 149, 3) := by decide +kernel
theorem dX11_depthFor_52 : decode cX11_depthFor 52 = .ok (.aload_n 0, 1) := by decide +kernel
theorem dX11_depthFor_53 : decode cX11_depthFor 53 = .ok (.getfield 48, 3) := by decide +kernel
theorem dX11_depthFor_56 : decode cX11_depthFor 56 = .ok (.ifCond .ne 6, 3) := by decide +kernel
theorem dX11_depthFor_59 : decode cX11_depthFor 59 = .ok (.iload 5, 2) := by decide +kernel
theorem dX11_depthFor_61 : decode cX11_depthFor 61 = .ok (.ireturn, 1) := by decide +kernel
theorem dX11_depthFor_62 : decode cX11_depthFor 62 = .ok (.iinc 5 1, 3) := by decide +kernel
theorem dX11_depthFor_65 : decode cX11_depthFor 65 = .ok (.goto (-53), 3) := by decide +kernel
theorem dX11_depthFor_68 : decode cX11_depthFor 68 = .ok (.iload 4, 2) := by decide +kernel
theorem dX11_depthFor_70 : decode cX11_depthFor 70 = .ok (.ifCond .ne 9, 3) := by decide +kernel
theorem dX11_depthFor_73 : decode cX11_depthFor 73 = .ok (.sipush (-1006), 3) := by decide +kernel
theorem dX11_depthFor_76 : decode cX11_depthFor 76 = .ok (.goto 5, 3) := by decide +kernel
theorem dX11_depthFor_79 : decode cX11_depthFor 79 = .ok (.iload 4, 2) := by decide +kernel
theorem dX11_depthFor_81 : decode cX11_depthFor 81 = .ok (.ireturn, 1) := by decide +kernel
theorem dL_law_0 : decode cL_law 0 = .ok (.new 7, 3) := by decide +kernel
theorem dL_law_3 : decode cL_law 3 = .ok (.dup, 1) := by decide +kernel
theorem dL_law_4 : decode cL_law 4 = .ok (.invokespecial 9, 3) := by decide +kernel
theorem dL_law_7 : decode cL_law 7 = .ok (.astore_n 1, 1) := by decide +kernel
theorem dL_law_8 : decode cL_law 8 = .ok (.new 10, 3) := by decide +kernel
theorem dL_law_11 : decode cL_law 11 = .ok (.dup, 1) := by decide +kernel
theorem dL_law_12 : decode cL_law 12 = .ok (.invokespecial 12, 3) := by decide +kernel
theorem dL_law_15 : decode cL_law 15 = .ok (.astore_n 2, 1) := by decide +kernel
theorem dL_law_16 : decode cL_law 16 = .ok (.iconst 0, 1) := by decide +kernel
theorem dL_law_17 : decode cL_law 17 = .ok (.istore_n 3, 1) := by decide +kernel
theorem dL_law_18 : decode cL_law 18 = .ok (.iload_n 3, 1) := by decide +kernel
theorem dL_law_19 : decode cL_law 19 = .ok (.aload_n 0, 1) := by decide +kernel
theorem dL_law_20 : decode cL_law 20 = .ok (.arraylength, 1) := by decide +kernel
theorem dL_law_21 : decode cL_law 21 = .ok (.bipush 8, 2) := by decide +kernel
theorem dL_law_23 : decode cL_law 23 = .ok (.isub, 1) := by decide +kernel
theorem dL_law_24 : decode cL_law 24 = .ok (.if_icmp .gt 960, 3) := by decide +kernel
theorem dL_law_27 : decode cL_law 27 = .ok (.aload_n 0, 1) := by decide +kernel
theorem dL_law_28 : decode cL_law 28 = .ok (.iload_n 3, 1) := by decide +kernel
theorem dL_law_29 : decode cL_law 29 = .ok (.iaload, 1) := by decide +kernel
theorem dL_law_30 : decode cL_law 30 = .ok (.bipush 31, 2) := by decide +kernel
theorem dL_law_32 : decode cL_law 32 = .ok (.iand, 1) := by decide +kernel
theorem dL_law_33 : decode cL_law 33 = .ok (.tableswitch 945 0 23 #[111, 198, 251, 300, 323, 356, 409, 452, 475, 500, 513, 526, 539, 552, 565, 598, 621, 654, 697, 730, 753, 816, 869, 902], 111) := by decide +kernel
theorem dL_law_144 : decode cL_law 144 = .ok (.aload_n 1, 1) := by decide +kernel
theorem dL_law_145 : decode cL_law 145 = .ok (.aload_n 0, 1) := by decide +kernel
theorem dL_law_146 : decode cL_law 146 = .ok (.iload_n 3, 1) := by decide +kernel
theorem dL_law_147 : decode cL_law 147 = .ok (.iconst 1, 1) := by decide +kernel
theorem dL_law_148 : decode cL_law 148 = .ok (.iadd, 1) := by decide +kernel
theorem dL_law_149 : decode cL_law 149 = .ok (.iaload, 1) := by decide +kernel
theorem dL_law_150 : decode cL_law 150 = .ok (.aload_n 0, 1) := by decide +kernel
theorem dL_law_151 : decode cL_law 151 = .ok (.iload_n 3, 1) := by decide +kernel
theorem dL_law_152 : decode cL_law 152 = .ok (.iconst 2, 1) := by decide +kernel
theorem dL_law_153 : decode cL_law 153 = .ok (.iadd, 1) := by decide +kernel
theorem dL_law_154 : decode cL_law 154 = .ok (.iaload, 1) := by decide +kernel
theorem dL_law_155 : decode cL_law 155 = .ok (.aload_n 0, 1) := by decide +kernel
theorem dL_law_156 : decode cL_law 156 = .ok (.iload_n 3, 1) := by decide +kernel
theorem dL_law_157 : decode cL_law 157 = .ok (.iconst 3, 1) := by decide +kernel
theorem dL_law_158 : decode cL_law 158 = .ok (.iadd, 1) := by decide +kernel
theorem dL_law_159 : decode cL_law 159 = .ok (.iaload, 1) := by decide +kernel
theorem dL_law_160 : decode cL_law 160 = .ok (.aload_n 0, 1) := by decide +kernel
theorem dL_law_161 : decode cL_law 161 = .ok (.iload_n 3, 1) := by decide +kernel
theorem dL_law_162 : decode cL_law 162 = .ok (.iconst 4, 1) := by decide +kernel
theorem dL_law_163 : decode cL_law 163 = .ok (.iadd, 1) := by decide +kernel
theorem dL_law_164 : decode cL_law 164 = .ok (.iaload, 1) := by decide +kernel
theorem dL_law_165 : decode cL_law 165 = .ok (.aload_n 0, 1) := by decide +kernel
theorem dL_law_166 : decode cL_law 166 = .ok (.iload_n 3, 1) := by decide +kernel
theorem dL_law_167 : decode cL_law 167 = .ok (.iconst 5, 1) := by decide +kernel
theorem dL_law_168 : decode cL_law 168 = .ok (.iadd, 1) := by decide +kernel
theorem dL_law_169 : decode cL_law 169 = .ok (.iaload, 1) := by decide +kernel
theorem dL_law_170 : decode cL_law 170 = .ok (.aload_n 0, 1) := by decide +kernel
theorem dL_law_171 : decode cL_law 171 = .ok (.iload_n 3, 1) := by decide +kernel
theorem dL_law_172 : decode cL_law 172 = .ok (.bipush 6, 2) := by decide +kernel
theorem dL_law_174 : decode cL_law 174 = .ok (.iadd, 1) := by decide +kernel
theorem dL_law_175 : decode cL_law 175 = .ok (.iaload, 1) := by decide +kernel
theorem dL_law_176 : decode cL_law 176 = .ok (.aload_n 0, 1) := by decide +kernel
theorem dL_law_177 : decode cL_law 177 = .ok (.iload_n 3, 1) := by decide +kernel
theorem dL_law_178 : decode cL_law 178 = .ok (.bipush 7, 2) := by decide +kernel
theorem dL_law_180 : decode cL_law 180 = .ok (.iadd, 1) := by decide +kernel
theorem dL_law_181 : decode cL_law 181 = .ok (.iaload, 1) := by decide +kernel
theorem dL_law_182 : decode cL_law 182 = .ok (.invokevirtual 13, 3) := by decide +kernel
theorem dL_law_185 : decode cL_law 185 = .ok (.aload_n 2, 1) := by decide +kernel
theorem dL_law_186 : decode cL_law 186 = .ok (.aload_n 0, 1) := by decide +kernel
theorem dL_law_187 : decode cL_law 187 = .ok (.iload_n 3, 1) := by decide +kernel
theorem dL_law_188 : decode cL_law 188 = .ok (.iconst 1, 1) := by decide +kernel
theorem dL_law_189 : decode cL_law 189 = .ok (.iadd, 1) := by decide +kernel
theorem dL_law_190 : decode cL_law 190 = .ok (.iaload, 1) := by decide +kernel
theorem dL_law_191 : decode cL_law 191 = .ok (.aload_n 0, 1) := by decide +kernel
theorem dL_law_192 : decode cL_law 192 = .ok (.iload_n 3, 1) := by decide +kernel
theorem dL_law_193 : decode cL_law 193 = .ok (.iconst 2, 1) := by decide +kernel
theorem dL_law_194 : decode cL_law 194 = .ok (.iadd, 1) := by decide +kernel
theorem dL_law_195 : decode cL_law 195 = .ok (.iaload, 1) := by decide +kernel
theorem dL_law_196 : decode cL_law 196 = .ok (.aload_n 0, 1) := by decide +kernel
theorem dL_law_197 : decode cL_law 197 = .ok (.iload_n 3, 1) := by decide +kernel
theorem dL_law_198 : decode cL_law 198 = .ok (.iconst 3, 1) := by decide +kernel
theorem dL_law_199 : decode cL_law 199 = .ok (.iadd, 1) := by decide +kernel
theorem dL_law_200 : decode cL_law 200 = .ok (.iaload, 1) := by decide +kernel
theorem dL_law_201 : decode cL_law 201 = .ok (.aload_n 0, 1) := by decide +kernel
theorem dL_law_202 : decode cL_law 202 = .ok (.iload_n 3, 1) := by decide +kernel
theorem dL_law_203 : decode cL_law 203 = .ok (.iconst 4, 1) := by decide +kernel
theorem dL_law_204 : decode cL_law 204 = .ok (.iadd, 1) := by decide +kernel
theorem dL_law_205 : decode cL_law 205 = .ok (.iaload, 1) := by decide +kernel
theorem dL_law_206 : decode cL_law 206 = .ok (.aload_n 0, 1) := by decide +kernel
theorem dL_law_207 : decode cL_law 207 = .ok (.iload_n 3, 1) := by decide +kernel
theorem dL_law_208 : decode cL_law 208 = .ok (.iconst 5, 1) := by decide +kernel
theorem dL_law_209 : decode cL_law 209 = .ok (.iadd, 1) := by decide +kernel
theorem dL_law_210 : decode cL_law 210 = .ok (.iaload, 1) := by decide +kernel
theorem dL_law_211 : decode cL_law 211 = .ok (.aload_n 0, 1) := by decide +kernel
theorem dL_law_212 : decode cL_law 212 = .ok (.iload_n 3, 1) := by decide +kernel
theorem dL_law_213 : decode cL_law 213 = .ok (.bipush 6, 2) := by decide +kernel
theorem dL_law_215 : decode cL_law 215 = .ok (.iadd, 1) := by decide +kernel
theorem dL_law_216 : decode cL_law 216 = .ok (.iaload, 1) := by decide +kernel
theorem dL_law_217 : decode cL_law 217 = .ok (.aload_n 0, 1) := by decide +kernel
theorem dL_law_218 : decode cL_law 218 = .ok (.iload_n 3, 1) := by decide +kernel
theorem dL_law_219 : decode cL_law 219 = .ok (.bipush 7, 2) := by decide +kernel
theorem dL_law_221 : decode cL_law 221 = .ok (.iadd, 1) := by decide +kernel
theorem dL_law_222 : decode cL_law 222 = .ok (.iaload, 1) := by decide +kernel
theorem dL_law_223 : decode cL_law 223 = .ok (.invokevirtual 17, 3) := by decide +kernel
theorem dL_law_226 : decode cL_law 226 = .ok (.if_icmp .eq 752, 3) := by decide +kernel
theorem dL_law_229 : decode cL_law 229 = .ok (.iconst 0, 1) := by decide +kernel
theorem dL_law_230 : decode cL_law 230 = .ok (.ireturn, 1) := by decide +kernel
theorem dL_law_231 : decode cL_law 231 = .ok (.aload_n 1, 1) := by decide +kernel
theorem dL_law_232 : decode cL_law 232 = .ok (.aload_n 0, 1) := by decide +kernel
theorem dL_law_233 : decode cL_law 233 = .ok (.iload_n 3, 1) := by decide +kernel
theorem dL_law_234 : decode cL_law 234 = .ok (.iconst 1, 1) := by decide +kernel
theorem dL_law_235 : decode cL_law 235 = .ok (.iadd, 1) := by decide +kernel
theorem dL_law_236 : decode cL_law 236 = .ok (.iaload, 1) := by decide +kernel
theorem dL_law_237 : decode cL_law 237 = .ok (.aload_n 0, 1) := by decide +kernel
theorem dL_law_238 : decode cL_law 238 = .ok (.iload_n 3, 1) := by decide +kernel
theorem dL_law_239 : decode cL_law 239 = .ok (.iconst 2, 1) := by decide +kernel
theorem dL_law_240 : decode cL_law 240 = .ok (.iadd, 1) := by decide +kernel
theorem dL_law_241 : decode cL_law 241 = .ok (.iaload, 1) := by decide +kernel
theorem dL_law_242 : decode cL_law 242 = .ok (.aload_n 0, 1) := by decide +kernel
theorem dL_law_243 : decode cL_law 243 = .ok (.iload_n 3, 1) := by decide +kernel
theorem dL_law_244 : decode cL_law 244 = .ok (.iconst 3, 1) := by decide +kernel
theorem dL_law_245 : decode cL_law 245 = .ok (.iadd, 1) := by decide +kernel
theorem dL_law_246 : decode cL_law 246 = .ok (.iaload, 1) := by decide +kernel
theorem dL_law_247 : decode cL_law 247 = .ok (.aload_n 0, 1) := by decide +kernel
theorem dL_law_248 : decode cL_law 248 = .ok (.iload_n 3, 1) := by decide +kernel
theorem dL_law_249 : decode cL_law 249 = .ok (.iconst 4, 1) := by decide +kernel
theorem dL_law_250 : decode cL_law 250 = .ok (.iadd, 1) := by decide +kernel
theorem dL_law_251 : decode cL_law 251 = .ok (.iaload, 1) := by decide +kernel
theorem dL_law_252 : decode cL_law 252 = .ok (.invokevirtual 18, 3) := by decide +kernel
theorem dL_law_255 : decode cL_law 255 = .ok (.aload_n 2, 1) := by decide +kernel
theorem dL_law_256 : decode cL_law 256 = .ok (.aload_n 0, 1) := by decide +kernel
theorem dL_law_257 : decode cL_law 257 = .ok (.iload_n 3, 1) := by decide +kernel
theorem dL_law_258 : decode cL_law 258 = .ok (.iconst 1, 1) := by decide +kernel
theorem dL_law_259 : decode cL_law 259 = .ok (.iadd, 1) := by decide +kernel
theorem dL_law_260 : decode cL_law 260 = .ok (.iaload, 1) := by decide +kernel
theorem dL_law_261 : decode cL_law 261 = .ok (.aload_n 0, 1) := by decide +kernel
theorem dL_law_262 : decode cL_law 262 = .ok (.iload_n 3, 1) := by decide +kernel
theorem dL_law_263 : decode cL_law 263 = .ok (.iconst 2, 1) := by decide +kernel
theorem dL_law_264 : decode cL_law 264 = .ok (.iadd, 1) := by decide +kernel
theorem dL_law_265 : decode cL_law 265 = .ok (.iaload, 1) := by decide +kernel
theorem dL_law_266 : decode cL_law 266 = .ok (.aload_n 0, 1) := by decide +kernel
theorem dL_law_267 : decode cL_law 267 = .ok (.iload_n 3, 1) := by decide +kernel
theorem dL_law_268 : decode cL_law 268 = .ok (.iconst 3, 1) := by decide +kernel
theorem dL_law_269 : decode cL_law 269 = .ok (.iadd, 1) := by decide +kernel
theorem dL_law_270 : decode cL_law 270 = .ok (.iaload, 1) := by decide +kernel
theorem dL_law_271 : decode cL_law 271 = .ok (.aload_n 0, 1) := by decide +kernel
theorem dL_law_272 : decode cL_law 272 = .ok (.iload_n 3, 1) := by decide +kernel
theorem dL_law_273 : decode cL_law 273 = .ok (.iconst 4, 1) := by decide +kernel
theorem dL_law_274 : decode cL_law 274 = .ok (.iadd, 1) := by decide +kernel
theorem dL_law_275 : decode cL_law 275 = .ok (.iaload, 1) := by decide +kernel
theorem dL_law_276 : decode cL_law 276 = .ok (.invokevirtual 22, 3) := by decide +kernel
theorem dL_law_279 : decode cL_law 279 = .ok (.if_icmp .eq 699, 3) := by decide +kernel
theorem dL_law_282 : decode cL_law 282 = .ok (.iconst 0, 1) := by decide +kernel
theorem dL_law_283 : decode cL_law 283 = .ok (.ireturn, 1) := by decide +kernel
theorem dL_law_284 : decode cL_law 284 = .ok (.aload_n 1, 1) := by decide +kernel
theorem dL_law_285 : decode cL_law 285 = .ok (.aload_n 0, 1) := by decide +kernel
theorem dL_law_286 : decode cL_law 286 = .ok (.iload_n 3, 1) := by decide +kernel
theorem dL_law_287 : decode cL_law 287 = .ok (.iconst 1, 1) := by decide +kernel
theorem dL_law_288 : decode cL_law 288 = .ok (.iadd, 1) := by decide +kernel
theorem dL_law_289 : decode cL_law 289 = .ok (.iaload, 1) := by decide +kernel
theorem dL_law_290 : decode cL_law 290 = .ok (.aload_n 0, 1) := by decide +kernel
theorem dL_law_291 : decode cL_law 291 = .ok (.iload_n 3, 1) := by decide +kernel
theorem dL_law_292 : decode cL_law 292 = .ok (.iconst 2, 1) := by decide +kernel
theorem dL_law_293 : decode cL_law 293 = .ok (.iadd, 1) := by decide +kernel
theorem dL_law_294 : decode cL_law 294 = .ok (.iaload, 1) := by decide +kernel
theorem dL_law_295 : decode cL_law 295 = .ok (.ifCond .eq 7, 3) := by decide +kernel
theorem dL_law_298 : decode cL_law 298 = .ok (.iconst 1, 1) := by decide +kernel
theorem dL_law_299 : decode cL_law 299 = .ok (.goto 4, 3) := by decide +kernel
theorem dL_law_302 : decode cL_law 302 = .ok (.iconst 0, 1) := by decide +kernel
theorem dL_law_303 : decode cL_law 303 = .ok (.invokevirtual 23, 3) := by decide +kernel
theorem dL_law_306 : decode cL_law 306 = .ok (.aload_n 2, 1) := by decide +kernel
theorem dL_law_307 : decode cL_law 307 = .ok (.aload_n 0, 1) := by decide +kernel
theorem dL_law_308 : decode cL_law 308 = .ok (.iload_n 3, 1) := by decide +kernel
theorem dL_law_309 : decode cL_law 309 = .ok (.iconst 1, 1) := by decide +kernel
theorem dL_law_310 : decode cL_law 310 = .ok (.iadd, 1) := by decide +kernel
theorem dL_law_311 : decode cL_law 311 = .ok (.iaload, 1) := by decide +kernel
theorem dL_law_312 : decode cL_law 312 = .ok (.aload_n 0, 1) := by decide +kernel
theorem dL_law_313 : decode cL_law 313 = .ok (.iload_n 3, 1) := by decide +kernel
theorem dL_law_314 : decode cL_law 314 = .ok (.iconst 2, 1) := by decide +kernel
theorem dL_law_315 : decode cL_law 315 = .ok (.iadd, 1) := by decide +kernel
theorem dL_law_316 : decode cL_law 316 = .ok (.iaload, 1) := by decide +kernel
theorem dL_law_317 : decode cL_law 317 = .ok (.ifCond .eq 7, 3) := by decide +kernel
theorem dL_law_320 : decode cL_law 320 = .ok (.iconst 1, 1) := by decide +kernel
theorem dL_law_321 : decode cL_law 321 = .ok (.goto 4, 3) := by decide +kernel
theorem dL_law_324 : decode cL_law 324 = .ok (.iconst 0, 1) := by decide +kernel
theorem dL_law_325 : decode cL_law 325 = .ok (.invokevirtual 27, 3) := by decide +kernel
theorem dL_law_328 : decode cL_law 328 = .ok (.if_icmp .eq 650, 3) := by decide +kernel
theorem dL_law_331 : decode cL_law 331 = .ok (.iconst 0, 1) := by decide +kernel
theorem dL_law_332 : decode cL_law 332 = .ok (.ireturn, 1) := by decide +kernel
theorem dL_law_333 : decode cL_law 333 = .ok (.aload_n 1, 1) := by decide +kernel
theorem dL_law_334 : decode cL_law 334 = .ok (.aload_n 0, 1) := by decide +kernel
theorem dL_law_335 : decode cL_law 335 = .ok (.iload_n 3, 1) := by decide +kernel
theorem dL_law_336 : decode cL_law 336 = .ok (.iconst 1, 1) := by decide +kernel
theorem dL_law_337 : decode cL_law 337 = .ok (.iadd, 1) := by decide +kernel
theorem dL_law_338 : decode cL_law 338 = .ok (.iaload, 1) := by decide +kernel
theorem dL_law_339 : decode cL_law 339 = .ok (.invokevirtual 28, 3) := by decide +kernel
theorem dL_law_342 : decode cL_law 342 = .ok (.aload_n 2, 1) := by decide +kernel
theorem dL_law_343 : decode cL_law 343 = .ok (.aload_n 0, 1) := by decide +kernel
theorem dL_law_344 : decode cL_law 344 = .ok (.iload_n 3, 1) := by decide +kernel
theorem dL_law_345 : decode cL_law 345 = .ok (.iconst 1, 1) := by decide +kernel
theorem dL_law_346 : decode cL_law 346 = .ok (.iadd, 1) := by decide +kernel
theorem dL_law_347 : decode cL_law 347 = .ok (.iaload, 1) := by decide +kernel
theorem dL_law_348 : decode cL_law 348 = .ok (.invokevirtual 32, 3) := by decide +kernel
theorem dL_law_351 : decode cL_law 351 = .ok (.if_icmp .eq 627, 3) := by decide +kernel
theorem dL_law_354 : decode cL_law 354 = .ok (.iconst 0, 1) := by decide +kernel
theorem dL_law_355 : decode cL_law 355 = .ok (.ireturn, 1) := by decide +kernel
theorem dL_law_356 : decode cL_law 356 = .ok (.aload_n 1, 1) := by decide +kernel
theorem dL_law_357 : decode cL_law 357 = .ok (.aload_n 0, 1) := by decide +kernel
theorem dL_law_358 : decode cL_law 358 = .ok (.iload_n 3, 1) := by decide +kernel
theorem dL_law_359 : decode cL_law 359 = .ok (.iconst 1, 1) := by decide +kernel
theorem dL_law_360 : decode cL_law 360 = .ok (.iadd, 1) := by decide +kernel
theorem dL_law_361 : decode cL_law 361 = .ok (.iaload, 1) := by decide +kernel
theorem dL_law_362 : decode cL_law 362 = .ok (.aload_n 0, 1) := by decide +kernel
theorem dL_law_363 : decode cL_law 363 = .ok (.iload_n 3, 1) := by decide +kernel
theorem dL_law_364 : decode cL_law 364 = .ok (.iconst 2, 1) := by decide +kernel
theorem dL_law_365 : decode cL_law 365 = .ok (.iadd, 1) := by decide +kernel
theorem dL_law_366 : decode cL_law 366 = .ok (.iaload, 1) := by decide +kernel
theorem dL_law_367 : decode cL_law 367 = .ok (.invokevirtual 33, 3) := by decide +kernel
theorem dL_law_370 : decode cL_law 370 = .ok (.aload_n 2, 1) := by decide +kernel
theorem dL_law_371 : decode cL_law 371 = .ok (.aload_n 0, 1) := by decide +kernel
theorem dL_law_372 : decode cL_law 372 = .ok (.iload_n 3, 1) := by decide +kernel
theorem dL_law_373 : decode cL_law 373 = .ok (.iconst 1, 1) := by decide +kernel
theorem dL_law_374 : decode cL_law 374 = .ok (.iadd, 1) := by decide +kernel
theorem dL_law_375 : decode cL_law 375 = .ok (.iaload, 1) := by decide +kernel
theorem dL_law_376 : decode cL_law 376 = .ok (.aload_n 0, 1) := by decide +kernel
theorem dL_law_377 : decode cL_law 377 = .ok (.iload_n 3, 1) := by decide +kernel
theorem dL_law_378 : decode cL_law 378 = .ok (.iconst 2, 1) := by decide +kernel
theorem dL_law_379 : decode cL_law 379 = .ok (.iadd, 1) := by decide +kernel
theorem dL_law_380 : decode cL_law 380 = .ok (.iaload, 1) := by decide +kernel
theorem dL_law_381 : decode cL_law 381 = .ok (.invokevirtual 37, 3) := by decide +kernel
theorem dL_law_384 : decode cL_law 384 = .ok (.if_icmp .eq 594, 3) := by decide +kernel
theorem dL_law_387 : decode cL_law 387 = .ok (.iconst 0, 1) := by decide +kernel
theorem dL_law_388 : decode cL_law 388 = .ok (.ireturn, 1) := by decide +kernel
theorem dL_law_389 : decode cL_law 389 = .ok (.aload_n 1, 1) := by decide +kernel
theorem dL_law_390 : decode cL_law 390 = .ok (.aload_n 0, 1) := by decide +kernel
theorem dL_law_391 : decode cL_law 391 = .ok (.iload_n 3, 1) := by decide +kernel
theorem dL_law_392 : decode cL_law 392 = .ok (.iconst 1, 1) := by decide +kernel
theorem dL_law_393 : decode cL_law 393 = .ok (.iadd, 1) := by decide +kernel
theorem dL_law_394 : decode cL_law 394 = .ok (.iaload, 1) := by decide +kernel
theorem dL_law_395 : decode cL_law 395 = .ok (.aload_n 0, 1) := by decide +kernel
theorem dL_law_396 : decode cL_law 396 = .ok (.iload_n 3, 1) := by decide +kernel
theorem dL_law_397 : decode cL_law 397 = .ok (.iconst 2, 1) := by decide +kernel
theorem dL_law_398 : decode cL_law 398 = .ok (.iadd, 1) := by decide +kernel
theorem dL_law_399 : decode cL_law 399 = .ok (.iaload, 1) := by decide +kernel
theorem dL_law_400 : decode cL_law 400 = .ok (.aload_n 0, 1) := by decide +kernel
theorem dL_law_401 : decode cL_law 401 = .ok (.iload_n 3, 1) := by decide +kernel
theorem dL_law_402 : decode cL_law 402 = .ok (.iconst 3, 1) := by decide +kernel
theorem dL_law_403 : decode cL_law 403 = .ok (.iadd, 1) := by decide +kernel
theorem dL_law_404 : decode cL_law 404 = .ok (.iaload, 1) := by decide +kernel
theorem dL_law_405 : decode cL_law 405 = .ok (.aload_n 0, 1) := by decide +kernel
theorem dL_law_406 : decode cL_law 406 = .ok (.iload_n 3, 1) := by decide +kernel
theorem dL_law_407 : decode cL_law 407 = .ok (.iconst 4, 1) := by decide +kernel
theorem dL_law_408 : decode cL_law 408 = .ok (.iadd, 1) := by decide +kernel
theorem dL_law_409 : decode cL_law 409 = .ok (.iaload, 1) := by decide +kernel
theorem dL_law_410 : decode cL_law 410 = .ok (.invokevirtual 38, 3) := by decide +kernel
theorem dL_law_413 : decode cL_law 413 = .ok (.aload_n 2, 1) := by decide +kernel
theorem dL_law_414 : decode cL_law 414 = .ok (.aload_n 0, 1) := by decide +kernel
theorem dL_law_415 : decode cL_law 415 = .ok (.iload_n 3, 1) := by decide +kernel
theorem dL_law_416 : decode cL_law 416 = .ok (.iconst 1, 1) := by decide +kernel
theorem dL_law_417 : decode cL_law 417 = .ok (.iadd, 1) := by decide +kernel
theorem dL_law_418 : decode cL_law 418 = .ok (.iaload, 1) := by decide +kernel
theorem dL_law_419 : decode cL_law 419 = .ok (.aload_n 0, 1) := by decide +kernel
theorem dL_law_420 : decode cL_law 420 = .ok (.iload_n 3, 1) := by decide +kernel
theorem dL_law_421 : decode cL_law 421 = .ok (.iconst 2, 1) := by decide +kernel
theorem dL_law_422 : decode cL_law 422 = .ok (.iadd, 1) := by decide +kernel
theorem dL_law_423 : decode cL_law 423 = .ok (.iaload, 1) := by decide +kernel
theorem dL_law_424 : decode cL_law 424 = .ok (.aload_n 0, 1) := by decide +kernel
theorem dL_law_425 : decode cL_law 425 = .ok (.iload_n 3, 1) := by decide +kernel
theorem dL_law_426 : decode cL_law 426 = .ok (.iconst 3, 1) := by decide +kernel
theorem dL_law_427 : decode cL_law 427 = .ok (.iadd, 1) := by decide +kernel
theorem dL_law_428 : decode cL_law 428 = .ok (.iaload, 1) := by decide +kernel
theorem dL_law_429 : decode cL_law 429 = .ok (.aload_n 0, 1) := by decide +kernel
theorem dL_law_430 : decode cL_law 430 = .ok (.iload_n 3, 1) := by decide +kernel
theorem dL_law_431 : decode cL_law 431 = .ok (.iconst 4, 1) := by decide +kernel
theorem dL_law_432 : decode cL_law 432 = .ok (.iadd, 1) := by decide +kernel
theorem dL_law_433 : decode cL_law 433 = .ok (.iaload, 1) := by decide +kernel
theorem dL_law_434 : decode cL_law 434 = .ok (.invokevirtual 41, 3) := by decide +kernel
theorem dL_law_437 : decode cL_law 437 = .ok (.if_icmp .eq 541, 3) := by decide +kernel
theorem dL_law_440 : decode cL_law 440 = .ok (.iconst 0, 1) := by decide +kernel
theorem dL_law_441 : decode cL_law 441 = .ok (.ireturn, 1) := by decide +kernel
theorem dL_law_442 : decode cL_law 442 = .ok (.aload_n 1, 1) := by decide +kernel
theorem dL_law_443 : decode cL_law 443 = .ok (.aload_n 0, 1) := by decide +kernel
theorem dL_law_444 : decode cL_law 444 = .ok (.iload_n 3, 1) := by decide +kernel
theorem dL_law_445 : decode cL_law 445 = .ok (.iconst 1, 1) := by decide +kernel
theorem dL_law_446 : decode cL_law 446 = .ok (.iadd, 1) := by decide +kernel
theorem dL_law_447 : decode cL_law 447 = .ok (.iaload, 1) := by decide +kernel
theorem dL_law_448 : decode cL_law 448 = .ok (.aload_n 0, 1) := by decide +kernel
theorem dL_law_449 : decode cL_law 449 = .ok (.iload_n 3, 1) := by decide +kernel
theorem dL_law_450 : decode cL_law 450 = .ok (.iconst 2, 1) := by decide +kernel
theorem dL_law_451 : decode cL_law 451 = .ok (.iadd, 1) := by decide +kernel
theorem dL_law_452 : decode cL_law 452 = .ok (.iaload, 1) := by decide +kernel
theorem dL_law_453 : decode cL_law 453 = .ok (.aload_n 0, 1) := by decide +kernel
theorem dL_law_454 : decode cL_law 454 = .ok (.iload_n 3, 1) := by decide +kernel
theorem dL_law_455 : decode cL_law 455 = .ok (.iconst 3, 1) := by decide +kernel
theorem dL_law_456 : decode cL_law 456 = .ok (.iadd, 1) := by decide +kernel
theorem dL_law_457 : decode cL_law 457 = .ok (.iaload, 1) := by decide +kernel
theorem dL_law_458 : decode cL_law 458 = .ok (.invokevirtual 42, 3) := by decide +kernel
theorem dL_law_461 : decode cL_law 461 = .ok (.aload_n 2, 1) := by decide +kernel
theorem dL_law_462 : decode cL_law 462 = .ok (.aload_n 0, 1) := by decide +kernel
theorem dL_law_463 : decode cL_law 463 = .ok (.iload_n 3, 1) := by decide +kernel
theorem dL_law_464 : decode cL_law 464 = .ok (.iconst 1, 1) := by decide +kernel
theorem dL_law_465 : decode cL_law 465 = .ok (.iadd, 1) := by decide +kernel
theorem dL_law_466 : decode cL_law 466 = .ok (.iaload, 1) := by decide +kernel
theorem dL_law_467 : decode cL_law 467 = .ok (.aload_n 0, 1) := by decide +kernel
theorem dL_law_468 : decode cL_law 468 = .ok (.iload_n 3, 1) := by decide +kernel
theorem dL_law_469 : decode cL_law 469 = .ok (.iconst 2, 1) := by decide +kernel
theorem dL_law_470 : decode cL_law 470 = .ok (.iadd, 1) := by decide +kernel
theorem dL_law_471 : decode cL_law 471 = .ok (.iaload, 1) := by decide +kernel
theorem dL_law_472 : decode cL_law 472 = .ok (.aload_n 0, 1) := by decide +kernel
theorem dL_law_473 : decode cL_law 473 = .ok (.iload_n 3, 1) := by decide +kernel
theorem dL_law_474 : decode cL_law 474 = .ok (.iconst 3, 1) := by decide +kernel
theorem dL_law_475 : decode cL_law 475 = .ok (.iadd, 1) := by decide +kernel
theorem dL_law_476 : decode cL_law 476 = .ok (.iaload, 1) := by decide +kernel
theorem dL_law_477 : decode cL_law 477 = .ok (.invokevirtual 46, 3) := by decide +kernel
theorem dL_law_480 : decode cL_law 480 = .ok (.if_icmp .eq 498, 3) := by decide +kernel
theorem dL_law_483 : decode cL_law 483 = .ok (.iconst 0, 1) := by decide +kernel
theorem dL_law_484 : decode cL_law 484 = .ok (.ireturn, 1) := by decide +kernel
theorem dL_law_485 : decode cL_law 485 = .ok (.aload_n 1, 1) := by decide +kernel
theorem dL_law_486 : decode cL_law 486 = .ok (.aload_n 0, 1) := by decide +kernel
theorem dL_law_487 : decode cL_law 487 = .ok (.iload_n 3, 1) := by decide +kernel
theorem dL_law_488 : decode cL_law 488 = .ok (.iconst 1, 1) := by decide +kernel
theorem dL_law_489 : decode cL_law 489 = .ok (.iadd, 1) := by decide +kernel
theorem dL_law_490 : decode cL_law 490 = .ok (.iaload, 1) := by decide +kernel
theorem dL_law_491 : decode cL_law 491 = .ok (.invokevirtual 47, 3) := by decide +kernel
theorem dL_law_494 : decode cL_law 494 = .ok (.aload_n 2, 1) := by decide +kernel
theorem dL_law_495 : decode cL_law 495 = .ok (.aload_n 0, 1) := by decide +kernel
theorem dL_law_496 : decode cL_law 496 = .ok (.iload_n 3, 1) := by decide +kernel
theorem dL_law_497 : decode cL_law 497 = .ok (.iconst 1, 1) := by decide +kernel
theorem dL_law_498 : decode cL_law 498 = .ok (.iadd, 1) := by decide +kernel
theorem dL_law_499 : decode cL_law 499 = .ok (.iaload, 1) := by decide +kernel
theorem dL_law_500 : decode cL_law 500 = .ok (.invokevirtual 50, 3) := by decide +kernel
theorem dL_law_503 : decode cL_law 503 = .ok (.if_icmp .eq 475, 3) := by decide +kernel
theorem dL_law_506 : decode cL_law 506 = .ok (.iconst 0, 1) := by decide +kernel
theorem dL_law_507 : decode cL_law 507 = .ok (.ireturn, 1) := by decide +kernel
theorem dL_law_508 : decode cL_law 508 = .ok (.aload_n 1, 1) := by decide +kernel
theorem dL_law_509 : decode cL_law 509 = .ok (.aload_n 0, 1) := by decide +kernel
theorem dL_law_510 : decode cL_law 510 = .ok (.iload_n 3, 1) := by decide +kernel
theorem dL_law_511 : decode cL_law 511 = .ok (.iconst 1, 1) := by decide +kernel
theorem dL_law_512 : decode cL_law 512 = .ok (.iadd, 1) := by decide +kernel
theorem dL_law_513 : decode cL_law 513 = .ok (.iaload, 1) := by decide +kernel
theorem dL_law_514 : decode cL_law 514 = .ok (.i2c, 1) := by decide +kernel
theorem dL_law_515 : decode cL_law 515 = .ok (.invokevirtual 51, 3) := by decide +kernel
theorem dL_law_518 : decode cL_law 518 = .ok (.aload_n 2, 1) := by decide +kernel
theorem dL_law_519 : decode cL_law 519 = .ok (.aload_n 0, 1) := by decide +kernel
theorem dL_law_520 : decode cL_law 520 = .ok (.iload_n 3, 1) := by decide +kernel
theorem dL_law_521 : decode cL_law 521 = .ok (.iconst 1, 1) := by decide +kernel
theorem dL_law_522 : decode cL_law 522 = .ok (.iadd, 1) := by decide +kernel
theorem dL_law_523 : decode cL_law 523 = .ok (.iaload, 1) := by decide +kernel
theorem dL_law_524 : decode cL_law 524 = .ok (.i2c, 1) := by decide +kernel
theorem dL_law_525 : decode cL_law 525 = .ok (.invokevirtual 55, 3) := by decide +kernel
theorem dL_law_528 : decode cL_law 528 = .ok (.if_icmp .eq 450, 3) := by decide +kernel
theorem dL_law_531 : decode cL_law 531 = .ok (.iconst 0, 1) := by decide +kernel
theorem dL_law_532 : decode cL_law 532 = .ok (.ireturn, 1) := by decide +kernel
theorem dL_law_533 : decode cL_law 533 = .ok (.aload_n 1, 1) := by decide +kernel
theorem dL_law_534 : decode cL_law 534 = .ok (.invokevirtual 56, 3) := by decide +kernel
theorem dL_law_537 : decode cL_law 537 = .ok (.aload_n 2, 1) := by decide +kernel
theorem dL_law_538 : decode cL_law 538 = .ok (.invokevirtual 60, 3) := by decide +kernel
theorem dL_law_541 : decode cL_law 541 = .ok (.if_icmp .eq 437, 3) := by decide +kernel
theorem dL_law_544 : decode cL_law 544 = .ok (.iconst 0, 1) := by decide +kernel
theorem dL_law_545 : decode cL_law 545 = .ok (.ireturn, 1) := by decide +kernel
theorem dL_law_546 : decode cL_law 546 = .ok (.aload_n 1, 1) := by decide +kernel
theorem dL_law_547 : decode cL_law 547 = .ok (.invokevirtual 61, 3) := by decide +kernel
theorem dL_law_550 : decode cL_law 550 = .ok (.aload_n 2, 1) := by decide +kernel
theorem dL_law_551 : decode cL_law 551 = .ok (.invokevirtual 64, 3) := by decide +kernel
theorem dL_law_554 : decode cL_law 554 = .ok (.if_icmp .eq 424, 3) := by decide +kernel
theorem dL_law_557 : decode cL_law 557 = .ok (.iconst 0, 1) := by decide +kernel
theorem dL_law_558 : decode cL_law 558 = .ok (.ireturn, 1) := by decide +kernel
theorem dL_law_559 : decode cL_law 559 = .ok (.aload_n 1, 1) := by decide +kernel
theorem dL_law_560 : decode cL_law 560 = .ok (.invokevirtual 65, 3) := by decide +kernel
theorem dL_law_563 : decode cL_law 563 = .ok (.aload_n 2, 1) := by decide +kernel
theorem dL_law_564 : decode cL_law 564 = .ok (.invokevirtual 68, 3) := by decide +kernel
theorem dL_law_567 : decode cL_law 567 = .ok (.if_icmp .eq 411, 3) := by decide +kernel
theorem dL_law_570 : decode cL_law 570 = .ok (.iconst 0, 1) := by decide +kernel
theorem dL_law_571 : decode cL_law 571 = .ok (.ireturn, 1) := by decide +kernel
theorem dL_law_572 : decode cL_law 572 = .ok (.aload_n 1, 1) := by decide +kernel
theorem dL_law_573 : decode cL_law 573 = .ok (.invokevirtual 69, 3) := by decide +kernel
theorem dL_law_576 : decode cL_law 576 = .ok (.aload_n 2, 1) := by decide +kernel
theorem dL_law_577 : decode cL_law 577 = .ok (.invokevirtual 72, 3) := by decide +kernel
theorem dL_law_580 : decode cL_law 580 = .ok (.if_icmp .eq 398, 3) := by decide +kernel
theorem dL_law_583 : decode cL_law 583 = .ok (.iconst 0, 1) := by decide +kernel
theorem dL_law_584 : decode cL_law 584 = .ok (.ireturn, 1) := by decide +kernel
theorem dL_law_585 : decode cL_law 585 = .ok (.aload_n 1, 1) := by decide +kernel
theorem dL_law_586 : decode cL_law 586 = .ok (.invokevirtual 73, 3) := by decide +kernel
theorem dL_law_589 : decode cL_law 589 = .ok (.aload_n 2, 1) := by decide +kernel
theorem dL_law_590 : decode cL_law 590 = .ok (.invokevirtual 76, 3) := by decide +kernel
theorem dL_law_593 : decode cL_law 593 = .ok (.if_icmp .eq 385, 3) := by decide +kernel
theorem dL_law_596 : decode cL_law 596 = .ok (.iconst 0, 1) := by decide +kernel
theorem dL_law_597 : decode cL_law 597 = .ok (.ireturn, 1) := by decide +kernel
theorem dL_law_598 : decode cL_law 598 = .ok (.aload_n 1, 1) := by decide +kernel
theorem dL_law_599 : decode cL_law 599 = .ok (.aload_n 0, 1) := by decide +kernel
theorem dL_law_600 : decode cL_law 600 = .ok (.iload_n 3, 1) := by decide +kernel
theorem dL_law_601 : decode cL_law 601 = .ok (.iconst 1, 1) := by decide +kernel
theorem dL_law_602 : decode cL_law 602 = .ok (.iadd, 1) := by decide +kernel
theorem dL_law_603 : decode cL_law 603 = .ok (.iaload, 1) := by decide +kernel
theorem dL_law_604 : decode cL_law 604 = .ok (.aload_n 0, 1) := by decide +kernel
theorem dL_law_605 : decode cL_law 605 = .ok (.iload_n 3, 1) := by decide +kernel
theorem dL_law_606 : decode cL_law 606 = .ok (.iconst 2, 1) := by decide +kernel
theorem dL_law_607 : decode cL_law 607 = .ok (.iadd, 1) := by decide +kernel
theorem dL_law_608 : decode cL_law 608 = .ok (.iaload, 1) := by decide +kernel
theorem dL_law_609 : decode cL_law 609 = .ok (.invokevirtual 77, 3) := by decide +kernel
theorem dL_law_612 : decode cL_law 612 = .ok (.aload_n 2, 1) := by decide +kernel
theorem dL_law_613 : decode cL_law 613 = .ok (.aload_n 0, 1) := by decide +kernel
theorem dL_law_614 : decode cL_law 614 = .ok (.iload_n 3, 1) := by decide +kernel
theorem dL_law_615 : decode cL_law 615 = .ok (.iconst 1, 1) := by decide +kernel
theorem dL_law_616 : decode cL_law 616 = .ok (.iadd, 1) := by decide +kernel
theorem dL_law_617 : decode cL_law 617 = .ok (.iaload, 1) := by decide +kernel
theorem dL_law_618 : decode cL_law 618 = .ok (.aload_n 0, 1) := by decide +kernel
theorem dL_law_619 : decode cL_law 619 = .ok (.iload_n 3, 1) := by decide +kernel
theorem dL_law_620 : decode cL_law 620 = .ok (.iconst 2, 1) := by decide +kernel
theorem dL_law_621 : decode cL_law 621 = .ok (.iadd, 1) := by decide +kernel
theorem dL_law_622 : decode cL_law 622 = .ok (.iaload, 1) := by decide +kernel
theorem dL_law_623 : decode cL_law 623 = .ok (.invokevirtual 80, 3) := by decide +kernel
theorem dL_law_626 : decode cL_law 626 = .ok (.if_icmp .eq 352, 3) := by decide +kernel
theorem dL_law_629 : decode cL_law 629 = .ok (.iconst 0, 1) := by decide +kernel
theorem dL_law_630 : decode cL_law 630 = .ok (.ireturn, 1) := by decide +kernel
theorem dL_law_631 : decode cL_law 631 = .ok (.aload_n 1, 1) := by decide +kernel
theorem dL_law_632 : decode cL_law 632 = .ok (.aload_n 0, 1) := by decide +kernel
theorem dL_law_633 : decode cL_law 633 = .ok (.iload_n 3, 1) := by decide +kernel
theorem dL_law_634 : decode cL_law 634 = .ok (.iconst 1, 1) := by decide +kernel
theorem dL_law_635 : decode cL_law 635 = .ok (.iadd, 1) := by decide +kernel
theorem dL_law_636 : decode cL_law 636 = .ok (.iaload, 1) := by decide +kernel
theorem dL_law_637 : decode cL_law 637 = .ok (.invokevirtual 81, 3) := by decide +kernel
theorem dL_law_640 : decode cL_law 640 = .ok (.aload_n 2, 1) := by decide +kernel
theorem dL_law_641 : decode cL_law 641 = .ok (.aload_n 0, 1) := by decide +kernel
theorem dL_law_642 : decode cL_law 642 = .ok (.iload_n 3, 1) := by decide +kernel
theorem dL_law_643 : decode cL_law 643 = .ok (.iconst 1, 1) := by decide +kernel
theorem dL_law_644 : decode cL_law 644 = .ok (.iadd, 1) := by decide +kernel
theorem dL_law_645 : decode cL_law 645 = .ok (.iaload, 1) := by decide +kernel
theorem dL_law_646 : decode cL_law 646 = .ok (.invokevirtual 84, 3) := by decide +kernel
theorem dL_law_649 : decode cL_law 649 = .ok (.if_icmp .eq 329, 3) := by decide +kernel
theorem dL_law_652 : decode cL_law 652 = .ok (.iconst 0, 1) := by decide +kernel
theorem dL_law_653 : decode cL_law 653 = .ok (.ireturn, 1) := by decide +kernel
theorem dL_law_654 : decode cL_law 654 = .ok (.aload_n 1, 1) := by decide +kernel
theorem dL_law_655 : decode cL_law 655 = .ok (.aload_n 0, 1) := by decide +kernel
theorem dL_law_656 : decode cL_law 656 = .ok (.iload_n 3, 1) := by decide +kernel
theorem dL_law_657 : decode cL_law 657 = .ok (.iconst 1, 1) := by decide +kernel
theorem dL_law_658 : decode cL_law 658 = .ok (.iadd, 1) := by decide +kernel
theorem dL_law_659 : decode cL_law 659 = .ok (.iaload, 1) := by decide +kernel
theorem dL_law_660 : decode cL_law 660 = .ok (.aload_n 0, 1) := by decide +kernel
theorem dL_law_661 : decode cL_law 661 = .ok (.iload_n 3, 1) := by decide +kernel
theorem dL_law_662 : decode cL_law 662 = .ok (.iconst 2, 1) := by decide +kernel
theorem dL_law_663 : decode cL_law 663 = .ok (.iadd, 1) := by decide +kernel
theorem dL_law_664 : decode cL_law 664 = .ok (.iaload, 1) := by decide +kernel
theorem dL_law_665 : decode cL_law 665 = .ok (.invokevirtual 85, 3) := by decide +kernel
theorem dL_law_668 : decode cL_law 668 = .ok (.aload_n 2, 1) := by decide +kernel
theorem dL_law_669 : decode cL_law 669 = .ok (.aload_n 0, 1) := by decide +kernel
theorem dL_law_670 : decode cL_law 670 = .ok (.iload_n 3, 1) := by decide +kernel
theorem dL_law_671 : decode cL_law 671 = .ok (.iconst 1, 1) := by decide +kernel
theorem dL_law_672 : decode cL_law 672 = .ok (.iadd, 1) := by decide +kernel
theorem dL_law_673 : decode cL_law 673 = .ok (.iaload, 1) := by decide +kernel
theorem dL_law_674 : decode cL_law 674 = .ok (.aload_n 0, 1) := by decide +kernel
theorem dL_law_675 : decode cL_law 675 = .ok (.iload_n 3, 1) := by decide +kernel
theorem dL_law_676 : decode cL_law 676 = .ok (.iconst 2, 1) := by decide +kernel
theorem dL_law_677 : decode cL_law 677 = .ok (.iadd, 1) := by decide +kernel
theorem dL_law_678 : decode cL_law 678 = .ok (.iaload, 1) := by decide +kernel
theorem dL_law_679 : decode cL_law 679 = .ok (.invokevirtual 88, 3) := by decide +kernel
theorem dL_law_682 : decode cL_law 682 = .ok (.if_icmp .eq 296, 3) := by decide +kernel
theorem dL_law_685 : decode cL_law 685 = .ok (.iconst 0, 1) := by decide +kernel
theorem dL_law_686 : decode cL_law 686 = .ok (.ireturn, 1) := by decide +kernel
theorem dL_law_687 : decode cL_law 687 = .ok (.aload_n 1, 1) := by decide +kernel
theorem dL_law_688 : decode cL_law 688 = .ok (.aload_n 0, 1) := by decide +kernel
theorem dL_law_689 : decode cL_law 689 = .ok (.iload_n 3, 1) := by decide +kernel
theorem dL_law_690 : decode cL_law 690 = .ok (.iconst 1, 1) := by decide +kernel
theorem dL_law_691 : decode cL_law 691 = .ok (.iadd, 1) := by decide +kernel
theorem dL_law_692 : decode cL_law 692 = .ok (.iaload, 1) := by decide +kernel
theorem dL_law_693 : decode cL_law 693 = .ok (.aload_n 0, 1) := by decide +kernel
theorem dL_law_694 : decode cL_law 694 = .ok (.iload_n 3, 1) := by decide +kernel
theorem dL_law_695 : decode cL_law 695 = .ok (.iconst 2, 1) := by decide +kernel
theorem dL_law_696 : decode cL_law 696 = .ok (.iadd, 1) := by decide +kernel
theorem dL_law_697 : decode cL_law 697 = .ok (.iaload, 1) := by decide +kernel
theorem dL_law_698 : decode cL_law 698 = .ok (.aload_n 0, 1) := by decide +kernel
theorem dL_law_699 : decode cL_law 699 = .ok (.iload_n 3, 1) := by decide +kernel
theorem dL_law_700 : decode cL_law 700 = .ok (.iconst 3, 1) := by decide +kernel
theorem dL_law_701 : decode cL_law 701 = .ok (.iadd, 1) := by decide +kernel
theorem dL_law_702 : decode cL_law 702 = .ok (.iaload, 1) := by decide +kernel
theorem dL_law_703 : decode cL_law 703 = .ok (.invokevirtual 89, 3) := by decide +kernel
theorem dL_law_706 : decode cL_law 706 = .ok (.aload_n 2, 1) := by decide +kernel
theorem dL_law_707 : decode cL_law 707 = .ok (.aload_n 0, 1) := by decide +kernel
theorem dL_law_708 : decode cL_law 708 = .ok (.iload_n 3, 1) := by decide +kernel
theorem dL_law_709 : decode cL_law 709 = .ok (.iconst 1, 1) := by decide +kernel
theorem dL_law_710 : decode cL_law 710 = .ok (.iadd, 1) := by decide +kernel
theorem dL_law_711 : decode cL_law 711 = .ok (.iaload, 1) := by decide +kernel
theorem dL_law_712 : decode cL_law 712 = .ok (.aload_n 0, 1) := by decide +kernel
theorem dL_law_713 : decode cL_law 713 = .ok (.iload_n 3, 1) := by decide +kernel
theorem dL_law_714 : decode cL_law 714 = .ok (.iconst 2, 1) := by decide +kernel
theorem dL_law_715 : decode cL_law 715 = .ok (.iadd, 1) := by decide +kernel
theorem dL_law_716 : decode cL_law 716 = .ok (.iaload, 1) := by decide +kernel
theorem dL_law_717 : decode cL_law 717 = .ok (.aload_n 0, 1) := by decide +kernel
theorem dL_law_718 : decode cL_law 718 = .ok (.iload_n 3, 1) := by decide +kernel
theorem dL_law_719 : decode cL_law 719 = .ok (.iconst 3, 1) := by decide +kernel
theorem dL_law_720 : decode cL_law 720 = .ok (.iadd, 1) := by decide +kernel
theorem dL_law_721 : decode cL_law 721 = .ok (.iaload, 1) := by decide +kernel
theorem dL_law_722 : decode cL_law 722 = .ok (.invokevirtual 92, 3) := by decide +kernel
theorem dL_law_725 : decode cL_law 725 = .ok (.if_icmp .eq 253, 3) := by decide +kernel
theorem dL_law_728 : decode cL_law 728 = .ok (.iconst 0, 1) := by decide +kernel
theorem dL_law_729 : decode cL_law 729 = .ok (.ireturn, 1) := by decide +kernel
theorem dL_law_730 : decode cL_law 730 = .ok (.aload_n 1, 1) := by decide +kernel
theorem dL_law_731 : decode cL_law 731 = .ok (.aload_n 0, 1) := by decide +kernel
theorem dL_law_732 : decode cL_law 732 = .ok (.iload_n 3, 1) := by decide +kernel
theorem dL_law_733 : decode cL_law 733 = .ok (.iconst 1, 1) := by decide +kernel
theorem dL_law_734 : decode cL_law 734 = .ok (.iadd, 1) := by decide +kernel
theorem dL_law_735 : decode cL_law 735 = .ok (.iaload, 1) := by decide +kernel
theorem dL_law_736 : decode cL_law 736 = .ok (.aload_n 0, 1) := by decide +kernel
theorem dL_law_737 : decode cL_law 737 = .ok (.iload_n 3, 1) := by decide +kernel
theorem dL_law_738 : decode cL_law 738 = .ok (.iconst 2, 1) := by decide +kernel
theorem dL_law_739 : decode cL_law 739 = .ok (.iadd, 1) := by decide +kernel
theorem dL_law_740 : decode cL_law 740 = .ok (.iaload, 1) := by decide +kernel
theorem dL_law_741 : decode cL_law 741 = .ok (.invokevirtual 93, 3) := by decide +kernel
theorem dL_law_744 : decode cL_law 744 = .ok (.aload_n 2, 1) := by decide +kernel
theorem dL_law_745 : decode cL_law 745 = .ok (.aload_n 0, 1) := by decide +kernel
theorem dL_law_746 : decode cL_law 746 = .ok (.iload_n 3, 1) := by decide +kernel
theorem dL_law_747 : decode cL_law 747 = .ok (.iconst 1, 1) := by decide +kernel
theorem dL_law_748 : decode cL_law 748 = .ok (.iadd, 1) := by decide +kernel
theorem dL_law_749 : decode cL_law 749 = .ok (.iaload, 1) := by decide +kernel
theorem dL_law_750 : decode cL_law 750 = .ok (.aload_n 0, 1) := by decide +kernel
theorem dL_law_751 : decode cL_law 751 = .ok (.iload_n 3, 1) := by decide +kernel
theorem dL_law_752 : decode cL_law 752 = .ok (.iconst 2, 1) := by decide +kernel
theorem dL_law_753 : decode cL_law 753 = .ok (.iadd, 1) := by decide +kernel
theorem dL_law_754 : decode cL_law 754 = .ok (.iaload, 1) := by decide +kernel
theorem dL_law_755 : decode cL_law 755 = .ok (.invokevirtual 96, 3) := by decide +kernel
theorem dL_law_758 : decode cL_law 758 = .ok (.if_icmp .eq 220, 3) := by decide +kernel
theorem dL_law_761 : decode cL_law 761 = .ok (.iconst 0, 1) := by decide +kernel
theorem dL_law_762 : decode cL_law 762 = .ok (.ireturn, 1) := by decide +kernel
theorem dL_law_763 : decode cL_law 763 = .ok (.aload_n 1, 1) := by decide +kernel
theorem dL_law_764 : decode cL_law 764 = .ok (.aload_n 0, 1) := by decide +kernel
theorem dL_law_765 : decode cL_law 765 = .ok (.iload_n 3, 1) := by decide +kernel
theorem dL_law_766 : decode cL_law 766 = .ok (.iconst 1, 1) := by decide +kernel
theorem dL_law_767 : decode cL_law 767 = .ok (.iadd, 1) := by decide +kernel
theorem dL_law_768 : decode cL_law 768 = .ok (.iaload, 1) := by decide +kernel
theorem dL_law_769 : decode cL_law 769 = .ok (.invokevirtual 97, 3) := by decide +kernel
theorem dL_law_772 : decode cL_law 772 = .ok (.aload_n 2, 1) := by decide +kernel
theorem dL_law_773 : decode cL_law 773 = .ok (.aload_n 0, 1) := by decide +kernel
theorem dL_law_774 : decode cL_law 774 = .ok (.iload_n 3, 1) := by decide +kernel
theorem dL_law_775 : decode cL_law 775 = .ok (.iconst 1, 1) := by decide +kernel
theorem dL_law_776 : decode cL_law 776 = .ok (.iadd, 1) := by decide +kernel
theorem dL_law_777 : decode cL_law 777 = .ok (.iaload, 1) := by decide +kernel
theorem dL_law_778 : decode cL_law 778 = .ok (.invokevirtual 100, 3) := by decide +kernel
theorem dL_law_781 : decode cL_law 781 = .ok (.if_icmp .eq 197, 3) := by decide +kernel
theorem dL_law_784 : decode cL_law 784 = .ok (.iconst 0, 1) := by decide +kernel
theorem dL_law_785 : decode cL_law 785 = .ok (.ireturn, 1) := by decide +kernel
theorem dL_law_786 : decode cL_law 786 = .ok (.aload_n 1, 1) := by decide +kernel
theorem dL_law_787 : decode cL_law 787 = .ok (.aload_n 0, 1) := by decide +kernel
theorem dL_law_788 : decode cL_law 788 = .ok (.iload_n 3, 1) := by decide +kernel
theorem dL_law_789 : decode cL_law 789 = .ok (.iconst 1, 1) := by decide +kernel
theorem dL_law_790 : decode cL_law 790 = .ok (.iadd, 1) := by decide +kernel
theorem dL_law_791 : decode cL_law 791 = .ok (.iaload, 1) := by decide +kernel
theorem dL_law_792 : decode cL_law 792 = .ok (.aload_n 0, 1) := by decide +kernel
theorem dL_law_793 : decode cL_law 793 = .ok (.iload_n 3, 1) := by decide +kernel
theorem dL_law_794 : decode cL_law 794 = .ok (.iconst 2, 1) := by decide +kernel
theorem dL_law_795 : decode cL_law 795 = .ok (.iadd, 1) := by decide +kernel
theorem dL_law_796 : decode cL_law 796 = .ok (.iaload, 1) := by decide +kernel
theorem dL_law_797 : decode cL_law 797 = .ok (.aload_n 0, 1) := by decide +kernel
theorem dL_law_798 : decode cL_law 798 = .ok (.iload_n 3, 1) := by decide +kernel
theorem dL_law_799 : decode cL_law 799 = .ok (.iconst 3, 1) := by decide +kernel
theorem dL_law_800 : decode cL_law 800 = .ok (.iadd, 1) := by decide +kernel
theorem dL_law_801 : decode cL_law 801 = .ok (.iaload, 1) := by decide +kernel
theorem dL_law_802 : decode cL_law 802 = .ok (.aload_n 0, 1) := by decide +kernel
theorem dL_law_803 : decode cL_law 803 = .ok (.iload_n 3, 1) := by decide +kernel
theorem dL_law_804 : decode cL_law 804 = .ok (.iconst 4, 1) := by decide +kernel
theorem dL_law_805 : decode cL_law 805 = .ok (.iadd, 1) := by decide +kernel
theorem dL_law_806 : decode cL_law 806 = .ok (.iaload, 1) := by decide +kernel
theorem dL_law_807 : decode cL_law 807 = .ok (.aload_n 0, 1) := by decide +kernel
theorem dL_law_808 : decode cL_law 808 = .ok (.iload_n 3, 1) := by decide +kernel
theorem dL_law_809 : decode cL_law 809 = .ok (.iconst 5, 1) := by decide +kernel
theorem dL_law_810 : decode cL_law 810 = .ok (.iadd, 1) := by decide +kernel
theorem dL_law_811 : decode cL_law 811 = .ok (.iaload, 1) := by decide +kernel
theorem dL_law_812 : decode cL_law 812 = .ok (.invokevirtual 101, 3) := by decide +kernel
theorem dL_law_815 : decode cL_law 815 = .ok (.aload_n 2, 1) := by decide +kernel
theorem dL_law_816 : decode cL_law 816 = .ok (.aload_n 0, 1) := by decide +kernel
theorem dL_law_817 : decode cL_law 817 = .ok (.iload_n 3, 1) := by decide +kernel
theorem dL_law_818 : decode cL_law 818 = .ok (.iconst 1, 1) := by decide +kernel
theorem dL_law_819 : decode cL_law 819 = .ok (.iadd, 1) := by decide +kernel
theorem dL_law_820 : decode cL_law 820 = .ok (.iaload, 1) := by decide +kernel
theorem dL_law_821 : decode cL_law 821 = .ok (.aload_n 0, 1) := by decide +kernel
theorem dL_law_822 : decode cL_law 822 = .ok (.iload_n 3, 1) := by decide +kernel
theorem dL_law_823 : decode cL_law 823 = .ok (.iconst 2, 1) := by decide +kernel
theorem dL_law_824 : decode cL_law 824 = .ok (.iadd, 1) := by decide +kernel
theorem dL_law_825 : decode cL_law 825 = .ok (.iaload, 1) := by decide +kernel
theorem dL_law_826 : decode cL_law 826 = .ok (.aload_n 0, 1) := by decide +kernel
theorem dL_law_827 : decode cL_law 827 = .ok (.iload_n 3, 1) := by decide +kernel
theorem dL_law_828 : decode cL_law 828 = .ok (.iconst 3, 1) := by decide +kernel
theorem dL_law_829 : decode cL_law 829 = .ok (.iadd, 1) := by decide +kernel
theorem dL_law_830 : decode cL_law 830 = .ok (.iaload, 1) := by decide +kernel
theorem dL_law_831 : decode cL_law 831 = .ok (.aload_n 0, 1) := by decide +kernel
theorem dL_law_832 : decode cL_law 832 = .ok (.iload_n 3, 1) := by decide +kernel
theorem dL_law_833 : decode cL_law 833 = .ok (.iconst 4, 1) := by decide +kernel
theorem dL_law_834 : decode cL_law 834 = .ok (.iadd, 1) := by decide +kernel
theorem dL_law_835 : decode cL_law 835 = .ok (.iaload, 1) := by decide +kernel
theorem dL_law_836 : decode cL_law 836 = .ok (.aload_n 0, 1) := by decide +kernel
theorem dL_law_837 : decode cL_law 837 = .ok (.iload_n 3, 1) := by decide +kernel
theorem dL_law_838 : decode cL_law 838 = .ok (.iconst 5, 1) := by decide +kernel
theorem dL_law_839 : decode cL_law 839 = .ok (.iadd, 1) := by decide +kernel
theorem dL_law_840 : decode cL_law 840 = .ok (.iaload, 1) := by decide +kernel
theorem dL_law_841 : decode cL_law 841 = .ok (.invokevirtual 105, 3) := by decide +kernel
theorem dL_law_844 : decode cL_law 844 = .ok (.if_icmp .eq 134, 3) := by decide +kernel
theorem dL_law_847 : decode cL_law 847 = .ok (.iconst 0, 1) := by decide +kernel
theorem dL_law_848 : decode cL_law 848 = .ok (.ireturn, 1) := by decide +kernel
theorem dL_law_849 : decode cL_law 849 = .ok (.aload_n 1, 1) := by decide +kernel
theorem dL_law_850 : decode cL_law 850 = .ok (.aload_n 0, 1) := by decide +kernel
theorem dL_law_851 : decode cL_law 851 = .ok (.iload_n 3, 1) := by decide +kernel
theorem dL_law_852 : decode cL_law 852 = .ok (.iconst 1, 1) := by decide +kernel
theorem dL_law_853 : decode cL_law 853 = .ok (.iadd, 1) := by decide +kernel
theorem dL_law_854 : decode cL_law 854 = .ok (.iaload, 1) := by decide +kernel
theorem dL_law_855 : decode cL_law 855 = .ok (.aload_n 0, 1) := by decide +kernel
theorem dL_law_856 : decode cL_law 856 = .ok (.iload_n 3, 1) := by decide +kernel
theorem dL_law_857 : decode cL_law 857 = .ok (.iconst 2, 1) := by decide +kernel
theorem dL_law_858 : decode cL_law 858 = .ok (.iadd, 1) := by decide +kernel
theorem dL_law_859 : decode cL_law 859 = .ok (.iaload, 1) := by decide +kernel
theorem dL_law_860 : decode cL_law 860 = .ok (.aload_n 0, 1) := by decide +kernel
theorem dL_law_861 : decode cL_law 861 = .ok (.iload_n 3, 1) := by decide +kernel
theorem dL_law_862 : decode cL_law 862 = .ok (.iconst 3, 1) := by decide +kernel
theorem dL_law_863 : decode cL_law 863 = .ok (.iadd, 1) := by decide +kernel
theorem dL_law_864 : decode cL_law 864 = .ok (.iaload, 1) := by decide +kernel
theorem dL_law_865 : decode cL_law 865 = .ok (.aload_n 0, 1) := by decide +kernel
theorem dL_law_866 : decode cL_law 866 = .ok (.iload_n 3, 1) := by decide +kernel
theorem dL_law_867 : decode cL_law 867 = .ok (.iconst 4, 1) := by decide +kernel
theorem dL_law_868 : decode cL_law 868 = .ok (.iadd, 1) := by decide +kernel
theorem dL_law_869 : decode cL_law 869 = .ok (.iaload, 1) := by decide +kernel
theorem dL_law_870 : decode cL_law 870 = .ok (.invokevirtual 106, 3) := by decide +kernel
theorem dL_law_873 : decode cL_law 873 = .ok (.aload_n 2, 1) := by decide +kernel
theorem dL_law_874 : decode cL_law 874 = .ok (.aload_n 0, 1) := by decide +kernel
theorem dL_law_875 : decode cL_law 875 = .ok (.iload_n 3, 1) := by decide +kernel
theorem dL_law_876 : decode cL_law 876 = .ok (.iconst 1, 1) := by decide +kernel
theorem dL_law_877 : decode cL_law 877 = .ok (.iadd, 1) := by decide +kernel
theorem dL_law_878 : decode cL_law 878 = .ok (.iaload, 1) := by decide +kernel
theorem dL_law_879 : decode cL_law 879 = .ok (.aload_n 0, 1) := by decide +kernel
theorem dL_law_880 : decode cL_law 880 = .ok (.iload_n 3, 1) := by decide +kernel
theorem dL_law_881 : decode cL_law 881 = .ok (.iconst 2, 1) := by decide +kernel
theorem dL_law_882 : decode cL_law 882 = .ok (.iadd, 1) := by decide +kernel
theorem dL_law_883 : decode cL_law 883 = .ok (.iaload, 1) := by decide +kernel
theorem dL_law_884 : decode cL_law 884 = .ok (.aload_n 0, 1) := by decide +kernel
theorem dL_law_885 : decode cL_law 885 = .ok (.iload_n 3, 1) := by decide +kernel
theorem dL_law_886 : decode cL_law 886 = .ok (.iconst 3, 1) := by decide +kernel
theorem dL_law_887 : decode cL_law 887 = .ok (.iadd, 1) := by decide +kernel
theorem dL_law_888 : decode cL_law 888 = .ok (.iaload, 1) := by decide +kernel
theorem dL_law_889 : decode cL_law 889 = .ok (.aload_n 0, 1) := by decide +kernel
theorem dL_law_890 : decode cL_law 890 = .ok (.iload_n 3, 1) := by decide +kernel
theorem dL_law_891 : decode cL_law 891 = .ok (.iconst 4, 1) := by decide +kernel
theorem dL_law_892 : decode cL_law 892 = .ok (.iadd, 1) := by decide +kernel
theorem dL_law_893 : decode cL_law 893 = .ok (.iaload, 1) := by decide +kernel
theorem dL_law_894 : decode cL_law 894 = .ok (.invokevirtual 109, 3) := by decide +kernel
theorem dL_law_897 : decode cL_law 897 = .ok (.if_icmp .eq 81, 3) := by decide +kernel
theorem dL_law_900 : decode cL_law 900 = .ok (.iconst 0, 1) := by decide +kernel
theorem dL_law_901 : decode cL_law 901 = .ok (.ireturn, 1) := by decide +kernel
theorem dL_law_902 : decode cL_law 902 = .ok (.aload_n 1, 1) := by decide +kernel
theorem dL_law_903 : decode cL_law 903 = .ok (.aload_n 0, 1) := by decide +kernel
theorem dL_law_904 : decode cL_law 904 = .ok (.iload_n 3, 1) := by decide +kernel
theorem dL_law_905 : decode cL_law 905 = .ok (.iconst 1, 1) := by decide +kernel
theorem dL_law_906 : decode cL_law 906 = .ok (.iadd, 1) := by decide +kernel
theorem dL_law_907 : decode cL_law 907 = .ok (.iaload, 1) := by decide +kernel
theorem dL_law_908 : decode cL_law 908 = .ok (.aload_n 0, 1) := by decide +kernel
theorem dL_law_909 : decode cL_law 909 = .ok (.iload_n 3, 1) := by decide +kernel
theorem dL_law_910 : decode cL_law 910 = .ok (.iconst 2, 1) := by decide +kernel
theorem dL_law_911 : decode cL_law 911 = .ok (.iadd, 1) := by decide +kernel
theorem dL_law_912 : decode cL_law 912 = .ok (.iaload, 1) := by decide +kernel
theorem dL_law_913 : decode cL_law 913 = .ok (.invokevirtual 110, 3) := by decide +kernel
theorem dL_law_916 : decode cL_law 916 = .ok (.aload_n 2, 1) := by decide +kernel
theorem dL_law_917 : decode cL_law 917 = .ok (.aload_n 0, 1) := by decide +kernel
theorem dL_law_918 : decode cL_law 918 = .ok (.iload_n 3, 1) := by decide +kernel
theorem dL_law_919 : decode cL_law 919 = .ok (.iconst 1, 1) := by decide +kernel
theorem dL_law_920 : decode cL_law 920 = .ok (.iadd, 1) := by decide +kernel
theorem dL_law_921 : decode cL_law 921 = .ok (.iaload, 1) := by decide +kernel
theorem dL_law_922 : decode cL_law 922 = .ok (.aload_n 0, 1) := by decide +kernel
theorem dL_law_923 : decode cL_law 923 = .ok (.iload_n 3, 1) := by decide +kernel
theorem dL_law_924 : decode cL_law 924 = .ok (.iconst 2, 1) := by decide +kernel
theorem dL_law_925 : decode cL_law 925 = .ok (.iadd, 1) := by decide +kernel
theorem dL_law_926 : decode cL_law 926 = .ok (.iaload, 1) := by decide +kernel
theorem dL_law_927 : decode cL_law 927 = .ok (.invokevirtual 113, 3) := by decide +kernel
theorem dL_law_930 : decode cL_law 930 = .ok (.if_icmp .eq 48, 3) := by decide +kernel
theorem dL_law_933 : decode cL_law 933 = .ok (.iconst 0, 1) := by decide +kernel
theorem dL_law_934 : decode cL_law 934 = .ok (.ireturn, 1) := by decide +kernel
theorem dL_law_935 : decode cL_law 935 = .ok (.aload_n 1, 1) := by decide +kernel
theorem dL_law_936 : decode cL_law 936 = .ok (.aload_n 0, 1) := by decide +kernel
theorem dL_law_937 : decode cL_law 937 = .ok (.iload_n 3, 1) := by decide +kernel
theorem dL_law_938 : decode cL_law 938 = .ok (.iconst 1, 1) := by decide +kernel
theorem dL_law_939 : decode cL_law 939 = .ok (.iadd, 1) := by decide +kernel
theorem dL_law_940 : decode cL_law 940 = .ok (.iaload, 1) := by decide +kernel
theorem dL_law_941 : decode cL_law 941 = .ok (.aload_n 0, 1) := by decide +kernel
theorem dL_law_942 : decode cL_law 942 = .ok (.iload_n 3, 1) := by decide +kernel
theorem dL_law_943 : decode cL_law 943 = .ok (.iconst 2, 1) := by decide +kernel
theorem dL_law_944 : decode cL_law 944 = .ok (.iadd, 1) := by decide +kernel
theorem dL_law_945 : decode cL_law 945 = .ok (.iaload, 1) := by decide +kernel
theorem dL_law_946 : decode cL_law 946 = .ok (.aload_n 0, 1) := by decide +kernel
theorem dL_law_947 : decode cL_law 947 = .ok (.iload_n 3, 1) := by decide +kernel
theorem dL_law_948 : decode cL_law 948 = .ok (.iconst 3, 1) := by decide +kernel
theorem dL_law_949 : decode cL_law 949 = .ok (.iadd, 1) := by decide +kernel
theorem dL_law_950 : decode cL_law 950 = .ok (.iaload, 1) := by decide +kernel
theorem dL_law_951 : decode cL_law 951 = .ok (.invokevirtual 114, 3) := by decide +kernel
theorem dL_law_954 : decode cL_law 954 = .ok (.aload_n 2, 1) := by decide +kernel
theorem dL_law_955 : decode cL_law 955 = .ok (.aload_n 0, 1) := by decide +kernel
theorem dL_law_956 : decode cL_law 956 = .ok (.iload_n 3, 1) := by decide +kernel
theorem dL_law_957 : decode cL_law 957 = .ok (.iconst 1, 1) := by decide +kernel
theorem dL_law_958 : decode cL_law 958 = .ok (.iadd, 1) := by decide +kernel
theorem dL_law_959 : decode cL_law 959 = .ok (.iaload, 1) := by decide +kernel
theorem dL_law_960 : decode cL_law 960 = .ok (.aload_n 0, 1) := by decide +kernel
theorem dL_law_961 : decode cL_law 961 = .ok (.iload_n 3, 1) := by decide +kernel
theorem dL_law_962 : decode cL_law 962 = .ok (.iconst 2, 1) := by decide +kernel
theorem dL_law_963 : decode cL_law 963 = .ok (.iadd, 1) := by decide +kernel
theorem dL_law_964 : decode cL_law 964 = .ok (.iaload, 1) := by decide +kernel
theorem dL_law_965 : decode cL_law 965 = .ok (.aload_n 0, 1) := by decide +kernel
theorem dL_law_966 : decode cL_law 966 = .ok (.iload_n 3, 1) := by decide +kernel
theorem dL_law_967 : decode cL_law 967 = .ok (.iconst 3, 1) := by decide +kernel
theorem dL_law_968 : decode cL_law 968 = .ok (.iadd, 1) := by decide +kernel
theorem dL_law_969 : decode cL_law 969 = .ok (.iaload, 1) := by decide +kernel
theorem dL_law_970 : decode cL_law 970 = .ok (.invokevirtual 117, 3) := by decide +kernel
theorem dL_law_973 : decode cL_law 973 = .ok (.if_icmp .eq 5, 3) := by decide +kernel
theorem dL_law_976 : decode cL_law 976 = .ok (.iconst 0, 1) := by decide +kernel
theorem dL_law_977 : decode cL_law 977 = .ok (.ireturn, 1) := by decide +kernel
theorem dL_law_978 : decode cL_law 978 = .ok (.iinc 3 8, 3) := by decide +kernel
theorem dL_law_981 : decode cL_law 981 = .ok (.goto (-963), 3) := by decide +kernel
theorem dL_law_984 : decode cL_law 984 = .ok (.iconst 1, 1) := by decide +kernel
theorem dL_law_985 : decode cL_law 985 = .ok (.ireturn, 1) := by decide +kernel
end
section
/-! THE PURE MACHINE'S WORDS: geometry (how many cells, kind and length of each), ints and references of the cells by cell and slot; a value on the stack with its address counted from the first cell of ours -/
abbrev Geo : Type := Nat × (Nat → Nat × Nat)
abbrev MI : Type := Nat → Nat → Int32
abbrev MR : Type := Nat → Nat → Option Nat
abbrev Po : Type := Option Value → Geo → MI → MR → Prop
abbrev MT : Type := MethodName × ByteArray × Nat × Option FieldType
abbrev JT : Type := Nat → Nat → Nat → List (Option Value) → List Value → Geo → MI → MR → Prop
def up2 {α : Type} (f : Nat → Nat → α) (a k : Nat) (v : α) : Nat → Nat → α := fun b j => if b = a ∧ j = k then v else f b j
theorem up2_row {α : Type} (f : Nat → Nat → α) (a k : Nat) (v : α) : up2 f a k v a = fun j => if j = k then v else f a j := by
  funext j
  simp [up2]
theorem up2_other {α : Type} (f : Nat → Nat → α) (a k : Nat) (v : α) {b : Nat} (h : b ≠ a) : up2 f a k v b = f b := by
  funext j
  simp [up2, h]
/-- the words that keep -/
def gtbl : List Cond := lw_tbl.filter goodWord
theorem gin {w : Cond} (i : Nat) (h : lw_tbl[i]? = some w) (hg : goodWord w = true) : w ∈ gtbl := List.mem_filter.mpr ⟨List.mem_of_getElem? h, hg⟩
theorem g_good {w : Cond} (h : w ∈ gtbl) : w ∈ gtbl ∧ ((w.onTables && w.keeps) = true ∨ ∃ ty, w = .arrayClass ty) := ⟨h, good_of_word (List.mem_filter.mp h).2⟩
def nestW : List Cond := [.methodLinkNest RX0 11 yX7_init RX10, .methodLinkNest RX8 17 yX4_init RX10, .methodLinkNest RX6 21 yX5_init RX10, .methodLinkNest RX7 27 yX1_init RX10, .methodLinkNest RX3 9 yX4_init RX10, .methodLinkNest RX10 18 yX7_init RX10, .methodLinkNest RX2 17 yX7_init RX10, .methodLinkNest RX10 35 yX9_init RX10, .methodLinkNest RX0 31 yX10_within RX10, .methodLinkNest RX0 35 yX10_isValue RX10]
def aoW : List String := [RX4, RX5, RX7]
def cR : Nat → String := fun ci => match ci with
  | 0 => RX0 | 1 => RX1 | 2 => RX2 | 3 => RX3 | 4 => RX4 | 5 => RX5 | 6 => RX6 | 7 => RX7 | 8 => RX8 | 9 => RX9 | 10 => RX10 | _ => RX11
def cT : Nat → u_T := fun ci => match ci with
  | 0 => TX0 | 1 => TX1 | 2 => TX2 | 3 => TX3 | 4 => TX4 | 5 => TX5 | 6 => TX6 | 7 => TX7 | 8 => TX8 | 9 => TX9 | 10 => TX10 | _ => TX11
def cN : Nat → Nat := fun ci => match ci with
  | 0 => 8 | 1 => 4 | 2 => 2 | 3 => 3 | 4 => 4 | 5 => 12 | 6 => 3 | 7 => 9 | 8 => 2 | 9 => 10 | 10 => 6 | _ => 13
def cTy : Nat → Nat → FieldType := fun ci => match ci with
  | 0 => tyX0 | 1 => tyX1 | 2 => tyX2 | 3 => tyX3 | 4 => tyX4 | 5 => tyX5 | 6 => tyX6 | 7 => tyX7 | 8 => tyX8 | 9 => tyX9 | 10 => tyX10 | _ => tyX11
theorem cl_at {ci : Nat} (h : ci < 12) : vwCl[ci]? = some (cR ci, cT ci, cN ci) := by
  match ci, h with
  | 0, _ => rfl | 1, _ => rfl | 2, _ => rfl | 3, _ => rfl | 4, _ => rfl | 5, _ => rfl | 6, _ => rfl | 7, _ => rfl | 8, _ => rfl | 9, _ => rfl | 10, _ => rfl | 11, _ => rfl
  | n + 12, h => exact absurd h (by omega)
theorem cty_ok {ci : Nat} (h : ci < 12) : ∀ k, k < cN ci → parseFieldDescriptor (cT ci k).2.2.1 = some (cTy ci k) := by
  match ci, h with
  | 0, _ => exact tyX0_ok | 1, _ => exact tyX1_ok | 2, _ => exact tyX2_ok | 3, _ => exact tyX3_ok | 4, _ => exact tyX4_ok | 5, _ => exact tyX5_ok | 6, _ => exact tyX6_ok | 7, _ => exact tyX7_ok | 8, _ => exact tyX8_ok | 9, _ => exact tyX9_ok | 10, _ => exact tyX10_ok | 11, _ => exact tyX11_ok
  | n + 12, h => exact absurd h (by omega)
theorem cnm_ok {ci : Nat} (h : ci < 12) : ∀ a, a < cN ci → ∀ b, b < cN ci → a ≠ b → (cT ci a).2.1 ≠ (cT ci b).2.1 := by
  match ci, h with
  | 0, _ => exact nmX0 | 1, _ => exact nmX1 | 2, _ => exact nmX2 | 3, _ => exact nmX3 | 4, _ => exact nmX4 | 5, _ => exact nmX5 | 6, _ => exact nmX6 | 7, _ => exact nmX7 | 8, _ => exact nmX8 | 9, _ => exact nmX9 | 10, _ => exact nmX10 | 11, _ => exact nmX11
  | n + 12, h => exact absurd h (by omega)
theorem cws_0 : ∀ w ∈ u_ws RX0 TX0 8, w ∈ gtbl := by
  intro w hw
  have h1 : u_ws RX0 TX0 8 = [307, 309, 311, 313, 315, 317, 319, 321].filterMap (fun i => lw_tbl[i]?) := by decide +kernel
  have h2 : (u_ws RX0 TX0 8).all goodWord = true := by decide +kernel
  have hg := List.all_eq_true.mp h2 w hw
  rw [h1] at hw
  obtain ⟨i, -, hi⟩ := List.mem_filterMap.mp hw
  exact gin i hi hg
theorem cws_1 : ∀ w ∈ u_ws RX1 TX1 4, w ∈ gtbl := by
  intro w hw
  have h1 : u_ws RX1 TX1 4 = [225, 227, 229, 231].filterMap (fun i => lw_tbl[i]?) := by decide +kernel
  have h2 : (u_ws RX1 TX1 4).all goodWord = true := by decide +kernel
  have hg := List.all_eq_true.mp h2 w hw
  rw [h1] at hw
  obtain ⟨i, -, hi⟩ := List.mem_filterMap.mp hw
  exact gin i hi hg
theorem cws_2 : ∀ w ∈ u_ws RX2 TX2 2, w ∈ gtbl := by
  intro w hw
  have h1 : u_ws RX2 TX2 2 = [338, 340].filterMap (fun i => lw_tbl[i]?) := by decide +kernel
  have h2 : (u_ws RX2 TX2 2).all goodWord = true := by decide +kernel
  have hg := List.all_eq_true.mp h2 w hw
  rw [h1] at hw
  obtain ⟨i, -, hi⟩ := List.mem_filterMap.mp hw
  exact gin i hi hg
theorem cws_3 : ∀ w ∈ u_ws RX3 TX3 3, w ∈ gtbl := by
  intro w hw
  have h1 : u_ws RX3 TX3 3 = [290, 292, 294].filterMap (fun i => lw_tbl[i]?) := by decide +kernel
  have h2 : (u_ws RX3 TX3 3).all goodWord = true := by decide +kernel
  have hg := List.all_eq_true.mp h2 w hw
  rw [h1] at hw
  obtain ⟨i, -, hi⟩ := List.mem_filterMap.mp hw
  exact gin i hi hg
theorem cws_4 : ∀ w ∈ u_ws RX4 TX4 4, w ∈ gtbl := by
  intro w hw
  have h1 : u_ws RX4 TX4 4 = [124, 126, 128, 130].filterMap (fun i => lw_tbl[i]?) := by decide +kernel
  have h2 : (u_ws RX4 TX4 4).all goodWord = true := by decide +kernel
  have hg := List.all_eq_true.mp h2 w hw
  rw [h1] at hw
  obtain ⟨i, -, hi⟩ := List.mem_filterMap.mp hw
  exact gin i hi hg
theorem cws_5 : ∀ w ∈ u_ws RX5 TX5 12, w ∈ gtbl := by
  intro w hw
  have h1 : u_ws RX5 TX5 12 = [174, 176, 178, 180, 182, 184, 186, 188, 190, 192, 194, 196].filterMap (fun i => lw_tbl[i]?) := by decide +kernel
  have h2 : (u_ws RX5 TX5 12).all goodWord = true := by decide +kernel
  have hg := List.all_eq_true.mp h2 w hw
  rw [h1] at hw
  obtain ⟨i, -, hi⟩ := List.mem_filterMap.mp hw
  exact gin i hi hg
theorem cws_6 : ∀ w ∈ u_ws RX6 TX6 3, w ∈ gtbl := by
  intro w hw
  have h1 : u_ws RX6 TX6 3 = [206, 208, 210].filterMap (fun i => lw_tbl[i]?) := by decide +kernel
  have h2 : (u_ws RX6 TX6 3).all goodWord = true := by decide +kernel
  have hg := List.all_eq_true.mp h2 w hw
  rw [h1] at hw
  obtain ⟨i, -, hi⟩ := List.mem_filterMap.mp hw
  exact gin i hi hg
theorem cws_7 : ∀ w ∈ u_ws RX7 TX7 9, w ∈ gtbl := by
  intro w hw
  have h1 : u_ws RX7 TX7 9 = [257, 259, 261, 263, 265, 267, 269, 271, 273].filterMap (fun i => lw_tbl[i]?) := by decide +kernel
  have h2 : (u_ws RX7 TX7 9).all goodWord = true := by decide +kernel
  have hg := List.all_eq_true.mp h2 w hw
  rw [h1] at hw
  obtain ⟨i, -, hi⟩ := List.mem_filterMap.mp hw
  exact gin i hi hg
theorem cws_8 : ∀ w ∈ u_ws RX8 TX8 2, w ∈ gtbl := by
  intro w hw
  have h1 : u_ws RX8 TX8 2 = [137, 139].filterMap (fun i => lw_tbl[i]?) := by decide +kernel
  have h2 : (u_ws RX8 TX8 2).all goodWord = true := by decide +kernel
  have hg := List.all_eq_true.mp h2 w hw
  rw [h1] at hw
  obtain ⟨i, -, hi⟩ := List.mem_filterMap.mp hw
  exact gin i hi hg
theorem cws_9 : ∀ w ∈ u_ws RX9 TX9 10, w ∈ gtbl := by
  intro w hw
  have h1 : u_ws RX9 TX9 10 = [366, 368, 370, 372, 374, 376, 378, 380, 382, 384].filterMap (fun i => lw_tbl[i]?) := by decide +kernel
  have h2 : (u_ws RX9 TX9 10).all goodWord = true := by decide +kernel
  have hg := List.all_eq_true.mp h2 w hw
  rw [h1] at hw
  obtain ⟨i, -, hi⟩ := List.mem_filterMap.mp hw
  exact gin i hi hg
theorem cws_10 : ∀ w ∈ u_ws RX10 TX10 6, w ∈ gtbl := by
  intro w hw
  have h1 : u_ws RX10 TX10 6 = [394, 396, 398, 400, 402, 404].filterMap (fun i => lw_tbl[i]?) := by decide +kernel
  have h2 : (u_ws RX10 TX10 6).all goodWord = true := by decide +kernel
  have hg := List.all_eq_true.mp h2 w hw
  rw [h1] at hw
  obtain ⟨i, -, hi⟩ := List.mem_filterMap.mp hw
  exact gin i hi hg
theorem cws_11 : ∀ w ∈ u_ws RX11 TX11 13, w ∈ gtbl := by
  intro w hw
  have h1 : u_ws RX11 TX11 13 = [850, 852, 854, 856, 858, 860, 862, 864, 866, 868, 870, 872, 874].filterMap (fun i => lw_tbl[i]?) := by decide +kernel
  have h2 : (u_ws RX11 TX11 13).all goodWord = true := by decide +kernel
  have hg := List.all_eq_true.mp h2 w hw
  rw [h1] at hw
  obtain ⟨i, -, hi⟩ := List.mem_filterMap.mp hw
  exact gin i hi hg
theorem cws_in {ci : Nat} (h : ci < 12) : ∀ w ∈ u_ws (cR ci) (cT ci) (cN ci), w ∈ gtbl := by
  match ci, h with
  | 0, _ => exact cws_0 | 1, _ => exact cws_1 | 2, _ => exact cws_2 | 3, _ => exact cws_3 | 4, _ => exact cws_4 | 5, _ => exact cws_5 | 6, _ => exact cws_6 | 7, _ => exact cws_7 | 8, _ => exact cws_8 | 9, _ => exact cws_9 | 10, _ => exact cws_10 | 11, _ => exact cws_11
  | n + 12, h => exact absurd h (by omega)
def isI (ty : FieldType) : Bool := match ty with
  | .object _ => false
  | .array _ => false
  | _ => true
def rv (n0 : Nat) (r : Option Nat) : Value := match r with
  | none => .null
  | some a => .ref (n0 + a)
/-- the script stands in the locals as a float -/
def sh (n0 sb : Nat) (v : Value) : Value := match v with
  | .ref a => .ref (n0 + a)
  | .float _ => .ref sb
  | v => v
def rr (r : Option Nat) : Value := match r with
  | none => .null
  | some a => .ref a
theorem sh_rr (n0 sb : Nat) (r : Option Nat) : sh n0 sb (rr r) = rv n0 r := by cases r <;> rfl
def fls (n0 ci : Nat) (i : Nat → Int32) (r : Nat → Option Nat) : List Value := (List.range (cN ci)).map fun k => if isI (cTy ci k) = true then .int (i k) else rv n0 (r k)
def cel (n0 : Nat) (kA : Nat → ClassId) (g : Geo) (I : MI) (R : MR) (a : Nat) : va_E :=
  if (g.2 a).1 < 12 then .inr ((g.2 a).1, fls n0 (g.2 a).1 (I a) (R a))
  else if (g.2 a).1 < 15 then .inl (kA (g.2 a).1, (g.2 a).2, .inl (I a))
  else .inl (kA (g.2 a).1, (g.2 a).2, .inr (.inr (.inr (.inr (fun j => (R a j).map (n0 + ·))))))
def wl (n0 : Nat) (kA : Nat → ClassId) (g : Geo) (I : MI) (R : MR) : va_W := (List.range g.1).map fun a => (n0 + a, cel n0 kA g I R a)
theorem wl_get {n0 : Nat} {kA : Nat → ClassId} {g : Geo} {I : MI} {R : MR} {a : Nat} (h : a < g.1) : (wl n0 kA g I R)[a]? = some (n0 + a, cel n0 kA g I R a) := by
  simp [wl, h]
theorem wl_D (n0 : Nat) (kA : Nat → ClassId) (g : Geo) (I : MI) (R : MR) : va_D (fun q => n0 ≤ q) (wl n0 kA g I R) := by
  have key : ∀ (i : Nat) (p : Nat × va_E), (wl n0 kA g I R)[i]? = some p → p.1 = n0 + i := by
    intro i p hp
    simp only [wl, List.getElem?_map] at hp
    by_cases hi : i < g.1
    · simp [hi] at hp
      rw [← hp]
    · simp [hi] at hp
  refine ⟨fun i j p q hp hq h => ?_, fun k q hq => ?_⟩
  · have h1 := key i p hp
    have h2 := key j q hq
    omega
  · show n0 ≤ q.1
    rw [key k q hq]
    omega
theorem wl_set {n0 : Nat} {kA : Nat → ClassId} {g : Geo} {I I' : MI} {R R' : MR} {a : Nat} {e : va_E} (he : cel n0 kA g I' R' a = e) (hn : ∀ b, b ≠ a → cel n0 kA g I' R' b = cel n0 kA g I R b) : (wl n0 kA g I R).set a (n0 + a, e) = wl n0 kA g I' R' := by
  refine List.ext_getElem? fun i => ?_
  rw [List.getElem?_set]
  by_cases hi : a = i
  · subst hi
    rw [if_pos rfl]
    by_cases hl : a < g.1
    · rw [if_pos (by simpa [wl] using hl), wl_get hl, he]
    · rw [if_neg (by simpa [wl] using hl)]
      simp [wl, hl]
  · rw [if_neg hi]
    simp only [wl, List.getElem?_map]
    by_cases hl : i < g.1
    · simp [hl, hn i (fun h => hi h.symm)]
    · simp [hl]
theorem cel_obj {n0 : Nat} {kA : Nat → ClassId} {g : Geo} {I : MI} {R : MR} {a ci : Nat} (h : (g.2 a).1 = ci) (hc : ci < 12) : cel n0 kA g I R a = .inr (ci, fls n0 ci (I a) (R a)) := by
  subst h
  simp [cel, hc]
theorem cel_ints {n0 : Nat} {kA : Nat → ClassId} {g : Geo} {I : MI} {R : MR} {a k n : Nat} (h : g.2 a = (k, n)) (h1 : 12 ≤ k) (h2 : k < 15) : cel n0 kA g I R a = .inl (kA k, n, .inl (I a)) := by
  simp [cel, h, Nat.not_lt.mpr h1, h2]
theorem cel_refs {n0 : Nat} {kA : Nat → ClassId} {g : Geo} {I : MI} {R : MR} {a k n : Nat} (h : g.2 a = (k, n)) (h1 : 15 ≤ k) : cel n0 kA g I R a = .inl (kA k, n, .inr (.inr (.inr (.inr (fun j => (R a j).map (n0 + ·)))))) := by
  have h2 : ¬ k < 12 := by omega
  simp [cel, h, Nat.not_lt.mpr h1, h2]
theorem fls_get {n0 ci : Nat} {i : Nat → Int32} {r : Nat → Option Nat} {k : Nat} (hk : k < cN ci) : (fls n0 ci i r)[k]? = some (if isI (cTy ci k) = true then .int (i k) else rv n0 (r k)) := by
  simp [fls, hk]
theorem fls_len {n0 ci : Nat} {i : Nat → Int32} {r : Nat → Option Nat} : (fls n0 ci i r).length = cN ci := by simp [fls]
theorem fls_setI {n0 ci : Nat} {i : Nat → Int32} {r : Nat → Option Nat} {k : Nat} {x : Int32} (ht : isI (cTy ci k) = true) : (fls n0 ci i r).set k (.int x) = fls n0 ci (fun j => if j = k then x else i j) r := by
  refine List.ext_getElem? fun j => ?_
  rw [List.getElem?_set]
  by_cases h : k = j
  · subst h
    by_cases hl : k < cN ci
    · rw [if_pos rfl, if_pos (by rw [fls_len]; exact hl), fls_get hl, if_pos ht, if_pos rfl]
    · rw [if_pos rfl, if_neg (by rw [fls_len]; exact hl)]
      simp [fls, hl]
  · rw [if_neg h]
    by_cases hl : j < cN ci
    · rw [fls_get hl, fls_get hl]
      simp [show ¬ j = k from fun q => h q.symm]
    · simp [fls, hl]
theorem fls_setR {n0 ci : Nat} {i : Nat → Int32} {r : Nat → Option Nat} {k : Nat} {x : Option Nat} (ht : isI (cTy ci k) = false) : (fls n0 ci i r).set k (rv n0 x) = fls n0 ci i (fun j => if j = k then x else r j) := by
  refine List.ext_getElem? fun j => ?_
  rw [List.getElem?_set]
  by_cases h : k = j
  · subst h
    by_cases hl : k < cN ci
    · rw [if_pos rfl, if_pos (by rw [fls_len]; exact hl), fls_get hl, if_neg (by rw [ht]; decide), if_pos rfl]
    · rw [if_pos rfl, if_neg (by rw [fls_len]; exact hl)]
      simp [fls, hl]
  · rw [if_neg h]
    by_cases hl : j < cN ci
    · rw [fls_get hl, fls_get hl]
      simp [show ¬ j = k from fun q => h q.symm]
    · simp [fls, hl]
/-! locals -/
def LH (n0 sb nL : Nat) (lsA : Array Slot) (ls : List (Option Value)) : Prop :=
  ls.length = nL ∧ lsA.size = nL ∧ lv_wf lsA ∧ ∀ (i : Nat) (v : Value), ls[i]? = some (some v) → v.category = 1 ∧ lsA[i]? = some (.val (sh n0 sb v))
theorem sh_cat {n0 sb : Nat} {v : Value} (h : v.category = 1) : (sh n0 sb v).category = 1 := by
  cases v <;> simp_all [sh, Value.category]
def lvl (n0 sb : Nat) (ls : List (Option Value)) : List (Nat × Value) := (List.range ls.length).filterMap fun i => match ls[i]? with
  | some (some v) => some (i, sh n0 sb v)
  | _ => none
theorem LH.has {n0 sb nL : Nat} {lsA : Array Slot} {ls : List (Option Value)} (h : LH n0 sb nL lsA ls) : lv_has lsA nL (lvl n0 sb ls) := by
  obtain ⟨h1, h2, h3, h4⟩ := h
  refine ⟨h2, h3, fun q hq => ?_⟩
  obtain ⟨i, hi, hs⟩ := List.mem_filterMap.mp hq
  cases hl : ls[i]? with
  | none => rw [hl] at hs; cases hs
  | some o =>
    rw [hl] at hs
    cases o with
    | none => cases hs
    | some v =>
      cases hs
      exact (h4 i v hl).2
theorem lvl_mem {n0 sb : Nat} {ls : List (Option Value)} {i : Nat} {v : Value} (h : ls[i]? = some (some v)) : (i, sh n0 sb v) ∈ lvl n0 sb ls := by
  refine List.mem_filterMap.mpr ⟨i, List.mem_range.mpr (List.getElem?_eq_some_iff.mp h).1, ?_⟩
  rw [h]
theorem LH.set {n0 sb nL i : Nat} {lsA lsB : Array Slot} {ls : List (Option Value)} {v : Value} (h : LH n0 sb nL lsA ls) (hv : v.category = 1) (hB : lv_has lsB nL ((i, sh n0 sb v) :: (lvl n0 sb ls).filter (fun q => !(q.1 == i) && !(q.1 + 1 == i && q.2.category == 2)))) : LH n0 sb nL lsB (ls.set i (some v)) := by
  obtain ⟨h1, h2, h3, h4⟩ := h
  obtain ⟨b1, b2, b3⟩ := hB
  refine ⟨by simpa using h1, b1, b2, fun j w hj => ?_⟩
  rw [List.getElem?_set] at hj
  by_cases hij : i = j
  · subst hij
    rw [if_pos rfl] at hj
    split at hj
    next => cases hj; exact ⟨hv, b3 _ List.mem_cons_self⟩
    next => cases hj
  · rw [if_neg hij] at hj
    have hc := (h4 j w hj).1
    refine ⟨hc, b3 (j, sh n0 sb w) (List.mem_cons_of_mem _ (List.mem_filter.mpr ⟨lvl_mem hj, ?_⟩))⟩
    have := sh_cat (n0 := n0) (sb := sb) hc
    simp [this, Ne.symm hij]
theorem lv_args_at {n0 sb : Nat} (as : List Value) (hc : ∀ v ∈ as, v.category = 1) (k : Nat) : ∀ (i : Nat) (v : Value), as[i]? = some v → (k + i, sh n0 sb v) ∈ lv_args k (as.map (sh n0 sb)) := by
  induction as generalizing k with
  | nil => intro i v h; simp at h
  | cons a t ih =>
    intro i v h
    have ha := sh_cat (n0 := n0) (sb := sb) (hc a List.mem_cons_self)
    show _ ∈ (k, sh n0 sb a) :: lv_args (if (sh n0 sb a).category = 2 then k + 2 else k + 1) (t.map (sh n0 sb))
    rw [if_neg (by omega)]
    cases i with
    | zero => simp at h; subst h; exact List.mem_cons_self
    | succ i =>
      have := ih (fun v hv => hc v (List.mem_cons_of_mem _ hv)) (k + 1) i v (by simpa using h)
      rw [show k + (i + 1) = k + 1 + i by omega]
      exact List.mem_cons_of_mem _ this
theorem lg_sl_len {n0 sb : Nat} (as : List Value) (hc : ∀ v ∈ as, v.category = 1) : (lg_sl (as.map (sh n0 sb))).length = as.length := by
  induction as with
  | nil => rfl
  | cons a t ih =>
    have ha := sh_cat (n0 := n0) (sb := sb) (hc a List.mem_cons_self)
    have := ih (fun v hv => hc v (List.mem_cons_of_mem _ hv))
    simp only [lg_sl, List.map_cons, List.flatMap_cons, List.length_append] at this ⊢
    rw [if_neg (by omega), this]
    simp
    omega
def ent (as : List Value) (nL : Nat) : List (Option Value) := as.map some ++ List.replicate (nL - as.length) none
theorem LH.entry {n0 sb nL : Nat} (as : List Value) (hc : ∀ v ∈ as, v.category = 1) (hn : as.length ≤ nL) : LH n0 sb nL ((lg_sl (as.map (sh n0 sb)) ++ List.replicate (nL - (lg_sl (as.map (sh n0 sb))).length) Slot.unset).toArray) (ent as nL) := by
  have hlen := lg_sl_len (n0 := n0) (sb := sb) as hc
  obtain ⟨e1, e2, e3⟩ := lv_entry (as.map (sh n0 sb)) (n := nL) (by rw [hlen]; exact hn)
  refine ⟨by simp [ent]; omega, e1, e2, fun i v hv => ?_⟩
  have hi : as[i]? = some v := by
    simp only [ent] at hv
    by_cases hl : i < as.length
    · rw [List.getElem?_append_left (by simpa using hl), List.getElem?_map] at hv
      cases h : as[i]? with
      | none => rw [h] at hv; cases hv
      | some w => rw [h] at hv; cases hv; rfl
    · rw [List.getElem?_append_right (by simpa using hl), List.getElem?_replicate] at hv
      split at hv <;> cases hv
  refine ⟨hc v (List.mem_of_getElem? hi), ?_⟩
  have := e3 _ (lv_args_at (n0 := n0) (sb := sb) as hc 0 i v hi)
  simpa using this
end
section
/-! THE JUDGEMENT: J cu su pc ls st g I R : the machine at pc, with these locals, this stack, these cells, comes to its end as its contract says -/
def tysOf (kA : Nat → ClassId) : List (ClassId × FieldType) := [(kA 12, .char), (kA 13, .int), (kA 14, .boolean), (kA 15, .object RX4), (kA 16, .object RX5), (kA 17, .object RX7)]
def rmD (d mc ms : Nat) : Room := { frames := d, cells := mc, slots := ms, locals := 40 * d }
def wsY (Y : MT) : List Cond := Cond.code Y.1 Y.2.1 Y.2.2.1 Y.2.2.2 :: gtbl
def Kn (D : va_G) (kA : Nat → ClassId) (U : State) : Prop := va_K D vwCl (tysOf kA) U ∧ (∀ w ∈ nestW, va_Nw w U) ∧ ∀ C ∈ aoW, va_AO C U
def Fx (Y : MT) (p : Program) (s : State) (m : MethodId) (args : Array Value) (meth : Method) (c : Code) (D : va_G) (kA : Nat → ClassId) : Prop :=
  p.tables.exec = Jvm.exec ∧ c.code = Y.2.1 ∧ c.maxLocals = Y.2.2.1 ∧ meth.sig.returnType = Y.2.2.2 ∧ s.vm.findClass Y.1.cls = some m.cls ∧ meth.locks = false ∧ meth.name = Y.1.name ∧ (∀ w ∈ gtbl, w.before args s = true) ∧ Kn D kA s
def wc (p : Program) (l : Launch) (e : Env) (Rm : Room) (s : State) (m : MethodId) (args : Array Value) (below : List Frame) (meth : Method) (c : Code) (n0 sb : Nat) (D : va_G) (kA : Nat → ClassId) (nE : Nat) (Q : State → Prop) (nL : Nat) : JT := fun cu su pc ls st g I R =>
  ∀ (H : Heap) (locs : List Loc) (lsA : Array Slot), g.1 = nE + cu → va_P D vwCl (wl n0 kA g I R) H → va_S (fun q => n0 ≤ q) s.heap H locs → LH n0 sb nL lsA ls → W p l e Rm s m args below meth c H locs cu su Q (F0 m pc lsA (st.map (sh n0 sb)))
def Ok (Y : MT) (Rm : Room) (J : JT) : Prop := ∃ (p : Program) (l : Launch) (e : Env) (s : State) (m : MethodId) (args : Array Value) (below : List Frame) (meth : Method) (c : Code) (n0 sb : Nat) (D : va_G) (kA : Nat → ClassId) (nE : Nat) (Q : State → Prop),
  Fx Y p s m args meth c D kA ∧ s.heap.size = n0 + nE ∧ J = wc p l e Rm s m args below meth c n0 sb D kA nE Q Y.2.2.1
def QcD (n0 sb : Nat) (D : va_G) (kA : Nat → ClassId) (nE mc : Nat) (Φ : Po) : Array Value → State → Outcome → State → Prop := fun _ st o t =>
  (∃ (r : Option Value) (g : Geo) (I : MI) (R : MR), o = .returned (r.map (sh n0 sb)) ∧ Φ r g I R ∧ g.1 = nE + mc ∧ va_P D vwCl (wl n0 kA g I R) t.heap) ∧ va_F (fun q => n0 ≤ q) st t
def PcD (n0 sb : Nat) (D : va_G) (kA : Nat → ClassId) (as : List Value) (g : Geo) (I : MI) (R : MR) : Array Value → State → Prop := fun v U =>
  v = (as.map (sh n0 sb)).toArray ∧ U.heap.size = n0 + g.1 ∧ va_P D vwCl (wl n0 kA g I R) U.heap ∧ Kn D kA U
/-- a method's contract over the pure machine -/
def Sp (d mc ms : Nat) (Y : MT) (as : List Value) (g : Geo) (I : MI) (R : MR) (Φ : Po) : Prop :=
  ∀ (l : Launch) (n0 sb : Nat) (D : va_G) (kA : Nat → ClassId), Met l Y.1 (wsY Y) (rmD d mc ms) (PcD n0 sb D kA as g I R) (QcD n0 sb D kA g.1 mc Φ) mc ms (fun q => n0 ≤ q)
def OkM (Y : MT) (d mc ms nE : Nat) (Φ : Po) (J : JT) : Prop := ∃ (p : Program) (l : Launch) (e : Env) (s : State) (m : MethodId) (args : Array Value) (below : List Frame) (meth : Method) (c : Code) (n0 sb : Nat) (D : va_G) (kA : Nat → ClassId),
  Fx Y p s m args meth c D kA ∧ s.heap.size = n0 + nE ∧ J = wc p l e (rmD d mc ms) s m args below meth c n0 sb D kA nE (MQ below (QcD n0 sb D kA nE mc Φ) args s mc ms (fun q => n0 ≤ q)) Y.2.2.1
theorem OkM.ok {Y : MT} {d mc ms nE : Nat} {Φ : Po} {J : JT} (h : OkM Y d mc ms nE Φ J) : Ok Y (rmD d mc ms) J := by
  obtain ⟨p, l, e, s, m, args, below, meth, c, n0, sb, D, kA, hF, hz, rfl⟩ := h
  exact ⟨p, l, e, s, m, args, below, meth, c, n0, sb, D, kA, nE, _, hF, hz, rfl⟩
theorem Kn.moved {D : va_G} {kA : Nat → ClassId} {s U : State} (hW : s.WarmedH U.vm) (h : Kn D kA s) : Kn D kA U := by
  obtain ⟨h1, h2, h3⟩ := h
  refine ⟨va_K.moved hW.alike h1, fun w hw => ?_, fun C hC => va_AO.moved hW.alike (h3 C hC)⟩
  have hz := h2 w hw
  simp only [nestW, List.mem_cons, List.not_mem_nil, or_false] at hw
  rcases hw with rfl | rfl | rfl | rfl | rfl | rfl | rfl | rfl | rfl | rfl <;> exact va_Nw.warmM hW hz
theorem Kn.same {D : va_G} {kA : Nat → ClassId} {s U : State} (hvm : s.vm = U.vm) (h : Kn D kA s) : Kn D kA U := by
  obtain ⟨h1, h2, h3⟩ := h
  refine ⟨va_K.moved (by rw [hvm]; exact Vm.Alike.refl U.vm) h1, fun w hw => ?_, fun C hC => va_AO.moved (by rw [hvm]; exact Vm.Alike.refl U.vm) (h3 C hC)⟩
  have hz := h2 w hw
  simp only [nestW, List.mem_cons, List.not_mem_nil, or_false] at hw
  rcases hw with rfl | rfl | rfl | rfl | rfl | rfl | rfl | rfl | rfl | rfl <;> exact va_Nw.same rfl hvm hz
theorem PcD.blind {n0 sb : Nat} {D : va_G} {kA : Nat → ClassId} {as : List Value} {g : Geo} {I : MI} {R : MR} : FrameBlind (PcD n0 sb D kA as g I R) := fun a U fr mk q => by
  obtain ⟨q1, q2, q3, q4⟩ := q
  exact ⟨q1, q2, q3, Kn.same (s := U) (U := U.calling fr mk a) rfl q4⟩
set_option maxHeartbeats 2000000 in
theorem Sp.of {Y : MT} {d mc ms : Nat} {as : List Value} {g : Geo} {I : MI} {R : MR} {Φ : Po} (hp : plainName Y.1.cls = true) (hc : ∀ v ∈ as, v.category = 1) (hn : as.length ≤ Y.2.2.1) (h : ∀ J, OkM Y d mc ms g.1 Φ J → J 0 0 0 (ent as Y.2.2.1) [] g I R) : Sp d mc ms Y as g I R Φ := by
  intro l n0 sb D kA
  refine Met.ofW (cc := Y.2.1) (maxL := Y.2.2.1) (ret := Y.2.2.2) hp rfl ?_
  intro p e s m args below meth c s₁ B hml hv
  obtain ⟨rfl, hsz, hP, hK⟩ := hv
  have hts0 := atoms_spec (ws := wsY Y) B.pre
  have hts : ∀ w ∈ gtbl, w.before ((as.map (sh n0 sb)).toArray) s = true := fun w hw => hts0 w (List.mem_cons_of_mem _ hw)
  have hF : Fx Y p s m ((as.map (sh n0 sb)).toArray) meth c D kA := ⟨B.exec, B.bytes, hml, B.returns, findClass_of_methodNamed B.named, B.notSynchronized, (name_of_methodNamed B.named B.method).1, hts, hK⟩
  have hk := h _ ⟨p, l, e, s, m, _, below, meth, c, n0, sb, D, kA, hF, hsz, rfl⟩
  rw [lg_entry_eq]
  exact hk s.heap [] _ rfl hP va_S.rf (LH.entry as hc hn)
/-- the heap is as long as the geometry says -/
theorem W.sized {p : Program} {l : Launch} {e : Env} {R : Room} {s : State} {m : MethodId} {args : Array Value} {below : List Frame} {meth : Method} {c : Code} {H : Heap} {locs : List Loc} {cells slots : Nat} {Q : State → Prop} {g : JFrame}
    (k : H.size ≤ s.heap.size + cells → s.heap.size ≤ H.size → W p l e R s m args below meth c H locs cells slots Q g) : W p l e R s m args below meth c H locs cells slots Q g := by
  intro T hT X
  have hs := X.same
  have h1 : H.size ≤ s.heap.size + cells := by rw [← hT]; exact hs.2.2.1
  have h2 : s.heap.size ≤ H.size := by rw [← hT]; exact hs.2.1
  exact k h1 h2 T hT X
def KA (g : Geo) (a k n : Nat) : Prop := a < g.1 ∧ g.2 a = (k, n)
def FL (own : String) (idx ci k : Nat) : Prop := ci < 12 ∧ k < cN ci ∧ Cond.fieldLink own idx (cT ci k).1 (cT ci k).2.1 (cT ci k).2.2.1 ∈ gtbl
def isR (v : Value) : Bool := match v with
  | .ref _ => true
  | .null => true
  | .float _ => true
  | _ => false
theorem isR_cases {v : Value} (h : isR v = true) (n0 sb : Nat) : (∃ a, sh n0 sb v = .ref a) ∨ sh n0 sb v = .null := by
  cases v <;> simp_all [isR, sh]
theorem isR_cat {v : Value} (h : isR v = true) : v.category = 1 := by
  cases v <;> simp_all [isR, Value.category]
/-- an index within, and the slot that it names -/
def ix (i : Int32) (j n : Nat) : Prop := i.toInt = (j : Int) ∧ j < n
theorem ix.nat {i : Int32} {j n : Nat} (h : ix i j n) : i.toNatClampNeg = j := by
  show i.toInt.toNat = j
  rw [h.1]; rfl
theorem ix.nn {i : Int32} {j n : Nat} (h : ix i j n) : ¬ i < 0 := by
  intro q
  have h1 := Int32.lt_iff_toInt_lt.mp q
  rw [h.1] at h1
  have h2 : (0 : Int32).toInt = 0 := by decide
  rw [h2] at h1
  omega
theorem ix.in {i : Int32} {j n : Nat} (h : ix i j n) : vp_in i n := by
  rintro (q | q)
  · exact h.nn q
  · rw [h.nat] at q
    exact absurd h.2 (Nat.not_lt.mpr q)
section Rules
variable {Y : MT} {Rm : Room} {J : JT} {cu su pc q : Nat} {ls : List (Option Value)} {st : List Value} {g : Geo} {I : MI} {R : MR}
theorem q_iconst (hJ : Ok Y Rm J) {n : Int} {v : Int32} (hd : decode Y.2.1 pc = .ok (.iconst n, 1)) (hq : pc + 1 = q) (hv : Int32.ofInt n = v) (k : J cu su q ls (.int v :: st) g I R) : J cu su pc ls (st) g I R := by
  obtain ⟨p, l, e, s, m, args, below, meth, c, n0, sb, D, kA, nE, Q, ⟨hx, hb, hml, hr, hown, hlk, hnm, hts, hK⟩, hz, rfl⟩ := hJ
  subst hq
  intro H locs lsA hg hP hS hL
  exact lv_iconst hx hb hd hv (k H locs lsA hg hP hS hL)
theorem q_bipush (hJ : Ok Y Rm J) {n : Int} {v : Int32} (hd : decode Y.2.1 pc = .ok (.bipush n, 2)) (hq : pc + 2 = q) (hv : (Int8.ofInt n).toInt32 = v) (k : J cu su q ls (.int v :: st) g I R) : J cu su pc ls (st) g I R := by
  obtain ⟨p, l, e, s, m, args, below, meth, c, n0, sb, D, kA, nE, Q, ⟨hx, hb, hml, hr, hown, hlk, hnm, hts, hK⟩, hz, rfl⟩ := hJ
  subst hq
  intro H locs lsA hg hP hS hL
  exact lv_bipush hx hb hd hv (k H locs lsA hg hP hS hL)
theorem q_sipush (hJ : Ok Y Rm J) {n : Int} {v : Int32} (hd : decode Y.2.1 pc = .ok (.sipush n, 3)) (hq : pc + 3 = q) (hv : (Int16.ofInt n).toInt32 = v) (k : J cu su q ls (.int v :: st) g I R) : J cu su pc ls (st) g I R := by
  obtain ⟨p, l, e, s, m, args, below, meth, c, n0, sb, D, kA, nE, Q, ⟨hx, hb, hml, hr, hown, hlk, hnm, hts, hK⟩, hz, rfl⟩ := hJ
  subst hq
  intro H locs lsA hg hP hS hL
  exact lv_sipush hx hb hd hv (k H locs lsA hg hP hS hL)
theorem q_iload_n (hJ : Ok Y Rm J) {i : Fin 4} {x : Int32} (hd : decode Y.2.1 pc = .ok (.iload_n i, 1)) (hq : pc + 1 = q) (hv : ls[(i : Nat)]? = some (some (.int x))) (k : J cu su q ls (.int x :: st) g I R) : J cu su pc ls (st) g I R := by
  obtain ⟨p, l, e, s, m, args, below, meth, c, n0, sb, D, kA, nE, Q, ⟨hx, hb, hml, hr, hown, hlk, hnm, hts, hK⟩, hz, rfl⟩ := hJ
  subst hq
  intro H locs lsA hg hP hS hL
  exact lv_iload_n hx hb hd rfl (hL.2.2.2 _ _ hv).2 (k H locs lsA hg hP hS hL)
theorem q_iload (hJ : Ok Y Rm J) {i : Nat} {x : Int32} (hd : decode Y.2.1 pc = .ok (.iload i, 2)) (hq : pc + 2 = q) (hv : ls[i]? = some (some (.int x))) (k : J cu su q ls (.int x :: st) g I R) : J cu su pc ls (st) g I R := by
  obtain ⟨p, l, e, s, m, args, below, meth, c, n0, sb, D, kA, nE, Q, ⟨hx, hb, hml, hr, hown, hlk, hnm, hts, hK⟩, hz, rfl⟩ := hJ
  subst hq
  intro H locs lsA hg hP hS hL
  exact lv_iload hx hb hd (hL.2.2.2 _ _ hv).2 (k H locs lsA hg hP hS hL)
theorem q_iadd (hJ : Ok Y Rm J) {x y : Int32} (hd : decode Y.2.1 pc = .ok (.iadd, 1)) (hq : pc + 1 = q) (k : J cu su q ls (.int (x + y) :: st) g I R) : J cu su pc ls (.int y :: .int x :: st) g I R := by
  obtain ⟨p, l, e, s, m, args, below, meth, c, n0, sb, D, kA, nE, Q, ⟨hx, hb, hml, hr, hown, hlk, hnm, hts, hK⟩, hz, rfl⟩ := hJ
  subst hq
  intro H locs lsA hg hP hS hL
  exact lv_iadd hx hb hd (k H locs lsA hg hP hS hL)
theorem q_isub (hJ : Ok Y Rm J) {x y : Int32} (hd : decode Y.2.1 pc = .ok (.isub, 1)) (hq : pc + 1 = q) (k : J cu su q ls (.int (x - y) :: st) g I R) : J cu su pc ls (.int y :: .int x :: st) g I R := by
  obtain ⟨p, l, e, s, m, args, below, meth, c, n0, sb, D, kA, nE, Q, ⟨hx, hb, hml, hr, hown, hlk, hnm, hts, hK⟩, hz, rfl⟩ := hJ
  subst hq
  intro H locs lsA hg hP hS hL
  exact lv_isub hx hb hd (k H locs lsA hg hP hS hL)
theorem q_imul (hJ : Ok Y Rm J) {x y : Int32} (hd : decode Y.2.1 pc = .ok (.imul, 1)) (hq : pc + 1 = q) (k : J cu su q ls (.int (x * y) :: st) g I R) : J cu su pc ls (.int y :: .int x :: st) g I R := by
  obtain ⟨p, l, e, s, m, args, below, meth, c, n0, sb, D, kA, nE, Q, ⟨hx, hb, hml, hr, hown, hlk, hnm, hts, hK⟩, hz, rfl⟩ := hJ
  subst hq
  intro H locs lsA hg hP hS hL
  exact lv_imul hx hb hd (k H locs lsA hg hP hS hL)
theorem q_iand (hJ : Ok Y Rm J) {x y : Int32} (hd : decode Y.2.1 pc = .ok (.iand, 1)) (hq : pc + 1 = q) (k : J cu su q ls (.int (x &&& y) :: st) g I R) : J cu su pc ls (.int y :: .int x :: st) g I R := by
  obtain ⟨p, l, e, s, m, args, below, meth, c, n0, sb, D, kA, nE, Q, ⟨hx, hb, hml, hr, hown, hlk, hnm, hts, hK⟩, hz, rfl⟩ := hJ
  subst hq
  intro H locs lsA hg hP hS hL
  exact lv_iand hx hb hd (k H locs lsA hg hP hS hL)
theorem q_irem (hJ : Ok Y Rm J) {x y : Int32} (hd : decode Y.2.1 pc = .ok (.irem, 1)) (hq : pc + 1 = q) (hy : ¬ y = 0) (k : J cu su q ls (.int (x - x / y * y) :: st) g I R) : J cu su pc ls (.int y :: .int x :: st) g I R := by
  obtain ⟨p, l, e, s, m, args, below, meth, c, n0, sb, D, kA, nE, Q, ⟨hx, hb, hml, hr, hown, hlk, hnm, hts, hK⟩, hz, rfl⟩ := hJ
  subst hq
  intro H locs lsA hg hP hS hL
  exact lv_irem hx hb hd hy (k H locs lsA hg hP hS hL)
theorem q_ineg (hJ : Ok Y Rm J) {x : Int32} (hd : decode Y.2.1 pc = .ok (.ineg, 1)) (hq : pc + 1 = q) (k : J cu su q ls (.int (-x) :: st) g I R) : J cu su pc ls (.int x :: st) g I R := by
  obtain ⟨p, l, e, s, m, args, below, meth, c, n0, sb, D, kA, nE, Q, ⟨hx, hb, hml, hr, hown, hlk, hnm, hts, hK⟩, hz, rfl⟩ := hJ
  subst hq
  intro H locs lsA hg hP hS hL
  exact lv_ineg hx hb hd (k H locs lsA hg hP hS hL)
theorem q_i2c (hJ : Ok Y Rm J) {x v : Int32} (hd : decode Y.2.1 pc = .ok (.i2c, 1)) (hq : pc + 1 = q) (hv : (x.toUInt32 % 65536).toInt32 = v) (k : J cu su q ls (.int v :: st) g I R) : J cu su pc ls (.int x :: st) g I R := by
  obtain ⟨p, l, e, s, m, args, below, meth, c, n0, sb, D, kA, nE, Q, ⟨hx, hb, hml, hr, hown, hlk, hnm, hts, hK⟩, hz, rfl⟩ := hJ
  subst hq
  intro H locs lsA hg hP hS hL
  exact lv_i2c hx hb hd hv (k H locs lsA hg hP hS hL)
theorem q_dup (hJ : Ok Y Rm J) {v : Value} (hd : decode Y.2.1 pc = .ok (.dup, 1)) (hq : pc + 1 = q) (hv : v.category = 1) (k : J cu su q ls (v :: v :: st) g I R) : J cu su pc ls (v :: st) g I R := by
  obtain ⟨p, l, e, s, m, args, below, meth, c, n0, sb, D, kA, nE, Q, ⟨hx, hb, hml, hr, hown, hlk, hnm, hts, hK⟩, hz, rfl⟩ := hJ
  subst hq
  intro H locs lsA hg hP hS hL
  exact lv_dup hx hb hd (sh_cat hv) (k H locs lsA hg hP hS hL)
theorem q_pop (hJ : Ok Y Rm J) {v : Value} (hd : decode Y.2.1 pc = .ok (.pop, 1)) (hq : pc + 1 = q) (hv : v.category = 1) (k : J cu su q ls (st) g I R) : J cu su pc ls (v :: st) g I R := by
  obtain ⟨p, l, e, s, m, args, below, meth, c, n0, sb, D, kA, nE, Q, ⟨hx, hb, hml, hr, hown, hlk, hnm, hts, hK⟩, hz, rfl⟩ := hJ
  subst hq
  intro H locs lsA hg hP hS hL
  exact lv_pop hx hb hd (sh_cat hv) (k H locs lsA hg hP hS hL)
theorem q_dup2 (hJ : Ok Y Rm J) {v w : Value} (hd : decode Y.2.1 pc = .ok (.dup2, 1)) (hq : pc + 1 = q) (hv : v.category = 1) (hw : w.category = 1) (k : J cu su q ls (v :: w :: v :: w :: st) g I R) : J cu su pc ls (v :: w :: st) g I R := by
  obtain ⟨p, l, e, s, m, args, below, meth, c, n0, sb, D, kA, nE, Q, ⟨hx, hb, hml, hr, hown, hlk, hnm, hts, hK⟩, hz, rfl⟩ := hJ
  subst hq
  intro H locs lsA hg hP hS hL
  exact lv_dup2_11 hx hb hd (sh_cat hv) (sh_cat hw) (k H locs lsA hg hP hS hL)
theorem q_null (hJ : Ok Y Rm J) (hd : decode Y.2.1 pc = .ok (.aconst_null, 1)) (hq : pc + 1 = q) (k : J cu su q ls (.null :: st) g I R) : J cu su pc ls (st) g I R := by
  obtain ⟨p, l, e, s, m, args, below, meth, c, n0, sb, D, kA, nE, Q, ⟨hx, hb, hml, hr, hown, hlk, hnm, hts, hK⟩, hz, rfl⟩ := hJ
  subst hq
  intro H locs lsA hg hP hS hL
  exact lv_null hx hb hd (k H locs lsA hg hP hS hL)
theorem q_aload_n (hJ : Ok Y Rm J) {i : Fin 4} {v : Value} (hd : decode Y.2.1 pc = .ok (.aload_n i, 1)) (hq : pc + 1 = q) (hv : ls[(i : Nat)]? = some (some v)) (hR : isR v = true) (k : J cu su q ls (v :: st) g I R) : J cu su pc ls st g I R := by
  obtain ⟨p, l, e, s, m, args, below, meth, c, n0, sb, D, kA, nE, Q, ⟨hx, hb, hml, hr, hown, hlk, hnm, hts, hK⟩, hz, rfl⟩ := hJ
  subst hq
  intro H locs lsA hg hP hS hL
  have hv2 := (hL.2.2.2 _ _ hv).2
  have hk := k H locs lsA hg hP hS hL
  rw [List.map_cons] at hk
  rcases isR_cases hR n0 sb with ⟨a, ha⟩ | ha
  · rw [ha] at hv2 hk
    exact lv_aload_n hx hb hd rfl hv2 hk
  · rw [ha] at hv2 hk
    exact lv_aload_nN hx hb hd rfl hv2 hk
theorem q_aload (hJ : Ok Y Rm J) {i : Nat} {v : Value} (hd : decode Y.2.1 pc = .ok (.aload i, 2)) (hq : pc + 2 = q) (hv : ls[i]? = some (some v)) (hR : isR v = true) (k : J cu su q ls (v :: st) g I R) : J cu su pc ls st g I R := by
  obtain ⟨p, l, e, s, m, args, below, meth, c, n0, sb, D, kA, nE, Q, ⟨hx, hb, hml, hr, hown, hlk, hnm, hts, hK⟩, hz, rfl⟩ := hJ
  subst hq
  intro H locs lsA hg hP hS hL
  have hv2 := (hL.2.2.2 _ _ hv).2
  have hk := k H locs lsA hg hP hS hL
  rw [List.map_cons] at hk
  rcases isR_cases hR n0 sb with ⟨a, ha⟩ | ha
  · rw [ha] at hv2 hk
    exact lv_aload hx hb hd hv2 hk
  · rw [ha] at hv2 hk
    exact lv_aloadN hx hb hd hv2 hk
theorem q_istore_n (hJ : Ok Y Rm J) {i : Fin 4} {x : Int32} (hd : decode Y.2.1 pc = .ok (.istore_n i, 1)) (hq : pc + 1 = q) (hi : (i : Nat) < Y.2.2.1) (k : J cu su q (ls.set (i : Nat) (some (.int x))) st g I R) : J cu su pc ls (.int x :: st) g I R := by
  obtain ⟨p, l, e, s, m, args, below, meth, c, n0, sb, D, kA, nE, Q, ⟨hx, hb, hml, hr, hown, hlk, hnm, hts, hK⟩, hz, rfl⟩ := hJ
  subst hq
  intro H locs lsA hg hP hS hL
  refine lv_istore_n (lv := lvl n0 sb ls) hx hb hd rfl hL.has hi rfl (fun lsB hB => ?_)
  exact k H locs lsB hg hP hS (hL.set rfl hB)
theorem q_istore (hJ : Ok Y Rm J) {i : Nat} {x : Int32} (hd : decode Y.2.1 pc = .ok (.istore i, 2)) (hq : pc + 2 = q) (hi : i < Y.2.2.1) (k : J cu su q (ls.set i (some (.int x))) st g I R) : J cu su pc ls (.int x :: st) g I R := by
  obtain ⟨p, l, e, s, m, args, below, meth, c, n0, sb, D, kA, nE, Q, ⟨hx, hb, hml, hr, hown, hlk, hnm, hts, hK⟩, hz, rfl⟩ := hJ
  subst hq
  intro H locs lsA hg hP hS hL
  refine lv_istore (lv := lvl n0 sb ls) hx hb hd hL.has hi rfl (fun lsB hB => ?_)
  exact k H locs lsB hg hP hS (hL.set rfl hB)
theorem q_astore_n (hJ : Ok Y Rm J) {i : Fin 4} {v : Value} (hd : decode Y.2.1 pc = .ok (.astore_n i, 1)) (hq : pc + 1 = q) (hi : (i : Nat) < Y.2.2.1) (hR : isR v = true) (k : J cu su q (ls.set (i : Nat) (some v)) st g I R) : J cu su pc ls (v :: st) g I R := by
  obtain ⟨p, l, e, s, m, args, below, meth, c, n0, sb, D, kA, nE, Q, ⟨hx, hb, hml, hr, hown, hlk, hnm, hts, hK⟩, hz, rfl⟩ := hJ
  subst hq
  intro H locs lsA hg hP hS hL
  have hset : ∀ lsB : Array Slot, lv_has lsB Y.2.2.1 (((i : Nat), sh n0 sb v) :: (lvl n0 sb ls).filter (fun q => !(q.1 == (i : Nat)) && !(q.1 + 1 == (i : Nat) && q.2.category == 2))) → LH n0 sb Y.2.2.1 lsB (ls.set (i : Nat) (some v)) := fun lsB hB => hL.set (isR_cat hR) hB
  rw [List.map_cons]
  rcases isR_cases hR n0 sb with ⟨a, ha⟩ | ha
  · rw [ha] at hset ⊢
    exact lv_astore_n (lv := lvl n0 sb ls) hx hb hd rfl hL.has hi rfl (fun lsB hB => k H locs lsB hg hP hS (hset lsB hB))
  · rw [ha] at hset ⊢
    exact lv_astore_nN (lv := lvl n0 sb ls) hx hb hd rfl hL.has hi rfl (fun lsB hB => k H locs lsB hg hP hS (hset lsB hB))
theorem q_astore (hJ : Ok Y Rm J) {i : Nat} {v : Value} (hd : decode Y.2.1 pc = .ok (.astore i, 2)) (hq : pc + 2 = q) (hi : i < Y.2.2.1) (hR : isR v = true) (k : J cu su q (ls.set i (some v)) st g I R) : J cu su pc ls (v :: st) g I R := by
  obtain ⟨p, l, e, s, m, args, below, meth, c, n0, sb, D, kA, nE, Q, ⟨hx, hb, hml, hr, hown, hlk, hnm, hts, hK⟩, hz, rfl⟩ := hJ
  subst hq
  intro H locs lsA hg hP hS hL
  have hset : ∀ lsB : Array Slot, lv_has lsB Y.2.2.1 ((i, sh n0 sb v) :: (lvl n0 sb ls).filter (fun q => !(q.1 == i) && !(q.1 + 1 == i && q.2.category == 2))) → LH n0 sb Y.2.2.1 lsB (ls.set i (some v)) := fun lsB hB => hL.set (isR_cat hR) hB
  rw [List.map_cons]
  rcases isR_cases hR n0 sb with ⟨a, ha⟩ | ha
  · rw [ha] at hset ⊢
    exact lv_astore (lv := lvl n0 sb ls) hx hb hd hL.has hi rfl (fun lsB hB => k H locs lsB hg hP hS (hset lsB hB))
  · rw [ha] at hset ⊢
    exact lv_astoreN (lv := lvl n0 sb ls) hx hb hd hL.has hi rfl (fun lsB hB => k H locs lsB hg hP hS (hset lsB hB))
theorem q_iinc (hJ : Ok Y Rm J) {i : Nat} {n : Int} {x v : Int32} (hd : decode Y.2.1 pc = .ok (.iinc i n, 3)) (hq : pc + 3 = q) (hi : i < Y.2.2.1) (hx0 : ls[i]? = some (some (.int x))) (hv : x + Int32.ofInt n = v) (k : J cu su q (ls.set i (some (.int v))) st g I R) : J cu su pc ls st g I R := by
  obtain ⟨p, l, e, s, m, args, below, meth, c, n0, sb, D, kA, nE, Q, ⟨hx, hb, hml, hr, hown, hlk, hnm, hts, hK⟩, hz, rfl⟩ := hJ
  subst hq
  intro H locs lsA hg hP hS hL
  have hm := lvl_mem (n0 := n0) (sb := sb) hx0
  obtain ⟨kk, hkk⟩ := List.getElem?_of_mem hm
  refine lv_iinc (lv := lvl n0 sb ls) hx hb hd hL.has hkk hv hi rfl (fun lsB hB => ?_)
  exact k H locs lsB hg hP hS (hL.set rfl hB)
theorem q_if_eq (hJ : Ok Y Rm J) {x : Int32} {off : Int} {tgt : Nat} (hd : decode Y.2.1 pc = .ok (.ifCond .eq off, 3)) (hq : pc + 3 = q) (ht : (pc : Int) + off = (tgt : Int)) (kt : x = 0 → J cu su tgt ls st g I R) (kf : ¬ x = 0 → J cu su q ls st g I R) : J cu su pc ls (.int x :: st) g I R := by
  obtain ⟨p, l, e, s, m, args, below, meth, c, n0, sb, D, kA, nE, Q, ⟨hx, hb, hml, hr, hown, hlk, hnm, hts, hK⟩, hz, rfl⟩ := hJ
  subst hq
  intro H locs lsA hg hP hS hL
  exact lv_if_eq hx hb hd ht (fun h => kt h H locs lsA hg hP hS hL) (fun h => kf h H locs lsA hg hP hS hL)
theorem q_icmp_eq (hJ : Ok Y Rm J) {x y : Int32} {off : Int} {tgt : Nat} (hd : decode Y.2.1 pc = .ok (.if_icmp .eq off, 3)) (hq : pc + 3 = q) (ht : (pc : Int) + off = (tgt : Int)) (kt : x = y → J cu su tgt ls st g I R) (kf : ¬ x = y → J cu su q ls st g I R) : J cu su pc ls (.int y :: .int x :: st) g I R := by
  obtain ⟨p, l, e, s, m, args, below, meth, c, n0, sb, D, kA, nE, Q, ⟨hx, hb, hml, hr, hown, hlk, hnm, hts, hK⟩, hz, rfl⟩ := hJ
  subst hq
  intro H locs lsA hg hP hS hL
  exact lv_icmp_eq hx hb hd ht (fun h => kt h H locs lsA hg hP hS hL) (fun h => kf h H locs lsA hg hP hS hL)
theorem q_if_ne (hJ : Ok Y Rm J) {x : Int32} {off : Int} {tgt : Nat} (hd : decode Y.2.1 pc = .ok (.ifCond .ne off, 3)) (hq : pc + 3 = q) (ht : (pc : Int) + off = (tgt : Int)) (kt : ¬ x = 0 → J cu su tgt ls st g I R) (kf : x = 0 → J cu su q ls st g I R) : J cu su pc ls (.int x :: st) g I R := by
  obtain ⟨p, l, e, s, m, args, below, meth, c, n0, sb, D, kA, nE, Q, ⟨hx, hb, hml, hr, hown, hlk, hnm, hts, hK⟩, hz, rfl⟩ := hJ
  subst hq
  intro H locs lsA hg hP hS hL
  exact lv_if_ne hx hb hd ht (fun h => kt h H locs lsA hg hP hS hL) (fun h => kf h H locs lsA hg hP hS hL)
theorem q_icmp_ne (hJ : Ok Y Rm J) {x y : Int32} {off : Int} {tgt : Nat} (hd : decode Y.2.1 pc = .ok (.if_icmp .ne off, 3)) (hq : pc + 3 = q) (ht : (pc : Int) + off = (tgt : Int)) (kt : ¬ x = y → J cu su tgt ls st g I R) (kf : x = y → J cu su q ls st g I R) : J cu su pc ls (.int y :: .int x :: st) g I R := by
  obtain ⟨p, l, e, s, m, args, below, meth, c, n0, sb, D, kA, nE, Q, ⟨hx, hb, hml, hr, hown, hlk, hnm, hts, hK⟩, hz, rfl⟩ := hJ
  subst hq
  intro H locs lsA hg hP hS hL
  exact lv_icmp_ne hx hb hd ht (fun h => kt h H locs lsA hg hP hS hL) (fun h => kf h H locs lsA hg hP hS hL)
theorem q_if_lt (hJ : Ok Y Rm J) {x : Int32} {off : Int} {tgt : Nat} (hd : decode Y.2.1 pc = .ok (.ifCond .lt off, 3)) (hq : pc + 3 = q) (ht : (pc : Int) + off = (tgt : Int)) (kt : x < 0 → J cu su tgt ls st g I R) (kf : ¬ x < 0 → J cu su q ls st g I R) : J cu su pc ls (.int x :: st) g I R := by
  obtain ⟨p, l, e, s, m, args, below, meth, c, n0, sb, D, kA, nE, Q, ⟨hx, hb, hml, hr, hown, hlk, hnm, hts, hK⟩, hz, rfl⟩ := hJ
  subst hq
  intro H locs lsA hg hP hS hL
  exact lv_if_lt hx hb hd ht (fun h => kt h H locs lsA hg hP hS hL) (fun h => kf h H locs lsA hg hP hS hL)
theorem q_icmp_lt (hJ : Ok Y Rm J) {x y : Int32} {off : Int} {tgt : Nat} (hd : decode Y.2.1 pc = .ok (.if_icmp .lt off, 3)) (hq : pc + 3 = q) (ht : (pc : Int) + off = (tgt : Int)) (kt : x < y → J cu su tgt ls st g I R) (kf : ¬ x < y → J cu su q ls st g I R) : J cu su pc ls (.int y :: .int x :: st) g I R := by
  obtain ⟨p, l, e, s, m, args, below, meth, c, n0, sb, D, kA, nE, Q, ⟨hx, hb, hml, hr, hown, hlk, hnm, hts, hK⟩, hz, rfl⟩ := hJ
  subst hq
  intro H locs lsA hg hP hS hL
  exact lv_icmp_lt hx hb hd ht (fun h => kt h H locs lsA hg hP hS hL) (fun h => kf h H locs lsA hg hP hS hL)
theorem q_if_ge (hJ : Ok Y Rm J) {x : Int32} {off : Int} {tgt : Nat} (hd : decode Y.2.1 pc = .ok (.ifCond .ge off, 3)) (hq : pc + 3 = q) (ht : (pc : Int) + off = (tgt : Int)) (kt : 0 ≤ x → J cu su tgt ls st g I R) (kf : ¬ 0 ≤ x → J cu su q ls st g I R) : J cu su pc ls (.int x :: st) g I R := by
  obtain ⟨p, l, e, s, m, args, below, meth, c, n0, sb, D, kA, nE, Q, ⟨hx, hb, hml, hr, hown, hlk, hnm, hts, hK⟩, hz, rfl⟩ := hJ
  subst hq
  intro H locs lsA hg hP hS hL
  exact lv_if_ge hx hb hd ht (fun h => kt h H locs lsA hg hP hS hL) (fun h => kf h H locs lsA hg hP hS hL)
theorem q_icmp_ge (hJ : Ok Y Rm J) {x y : Int32} {off : Int} {tgt : Nat} (hd : decode Y.2.1 pc = .ok (.if_icmp .ge off, 3)) (hq : pc + 3 = q) (ht : (pc : Int) + off = (tgt : Int)) (kt : y ≤ x → J cu su tgt ls st g I R) (kf : ¬ y ≤ x → J cu su q ls st g I R) : J cu su pc ls (.int y :: .int x :: st) g I R := by
  obtain ⟨p, l, e, s, m, args, below, meth, c, n0, sb, D, kA, nE, Q, ⟨hx, hb, hml, hr, hown, hlk, hnm, hts, hK⟩, hz, rfl⟩ := hJ
  subst hq
  intro H locs lsA hg hP hS hL
  exact lv_icmp_ge hx hb hd ht (fun h => kt h H locs lsA hg hP hS hL) (fun h => kf h H locs lsA hg hP hS hL)
theorem q_if_gt (hJ : Ok Y Rm J) {x : Int32} {off : Int} {tgt : Nat} (hd : decode Y.2.1 pc = .ok (.ifCond .gt off, 3)) (hq : pc + 3 = q) (ht : (pc : Int) + off = (tgt : Int)) (kt : 0 < x → J cu su tgt ls st g I R) (kf : ¬ 0 < x → J cu su q ls st g I R) : J cu su pc ls (.int x :: st) g I R := by
  obtain ⟨p, l, e, s, m, args, below, meth, c, n0, sb, D, kA, nE, Q, ⟨hx, hb, hml, hr, hown, hlk, hnm, hts, hK⟩, hz, rfl⟩ := hJ
  subst hq
  intro H locs lsA hg hP hS hL
  exact lv_if_gt hx hb hd ht (fun h => kt h H locs lsA hg hP hS hL) (fun h => kf h H locs lsA hg hP hS hL)
theorem q_icmp_gt (hJ : Ok Y Rm J) {x y : Int32} {off : Int} {tgt : Nat} (hd : decode Y.2.1 pc = .ok (.if_icmp .gt off, 3)) (hq : pc + 3 = q) (ht : (pc : Int) + off = (tgt : Int)) (kt : y < x → J cu su tgt ls st g I R) (kf : ¬ y < x → J cu su q ls st g I R) : J cu su pc ls (.int y :: .int x :: st) g I R := by
  obtain ⟨p, l, e, s, m, args, below, meth, c, n0, sb, D, kA, nE, Q, ⟨hx, hb, hml, hr, hown, hlk, hnm, hts, hK⟩, hz, rfl⟩ := hJ
  subst hq
  intro H locs lsA hg hP hS hL
  exact lv_icmp_gt hx hb hd ht (fun h => kt h H locs lsA hg hP hS hL) (fun h => kf h H locs lsA hg hP hS hL)
theorem q_if_le (hJ : Ok Y Rm J) {x : Int32} {off : Int} {tgt : Nat} (hd : decode Y.2.1 pc = .ok (.ifCond .le off, 3)) (hq : pc + 3 = q) (ht : (pc : Int) + off = (tgt : Int)) (kt : x ≤ 0 → J cu su tgt ls st g I R) (kf : ¬ x ≤ 0 → J cu su q ls st g I R) : J cu su pc ls (.int x :: st) g I R := by
  obtain ⟨p, l, e, s, m, args, below, meth, c, n0, sb, D, kA, nE, Q, ⟨hx, hb, hml, hr, hown, hlk, hnm, hts, hK⟩, hz, rfl⟩ := hJ
  subst hq
  intro H locs lsA hg hP hS hL
  exact lv_if_le hx hb hd ht (fun h => kt h H locs lsA hg hP hS hL) (fun h => kf h H locs lsA hg hP hS hL)
theorem q_icmp_le (hJ : Ok Y Rm J) {x y : Int32} {off : Int} {tgt : Nat} (hd : decode Y.2.1 pc = .ok (.if_icmp .le off, 3)) (hq : pc + 3 = q) (ht : (pc : Int) + off = (tgt : Int)) (kt : x ≤ y → J cu su tgt ls st g I R) (kf : ¬ x ≤ y → J cu su q ls st g I R) : J cu su pc ls (.int y :: .int x :: st) g I R := by
  obtain ⟨p, l, e, s, m, args, below, meth, c, n0, sb, D, kA, nE, Q, ⟨hx, hb, hml, hr, hown, hlk, hnm, hts, hK⟩, hz, rfl⟩ := hJ
  subst hq
  intro H locs lsA hg hP hS hL
  exact lv_icmp_le hx hb hd ht (fun h => kt h H locs lsA hg hP hS hL) (fun h => kf h H locs lsA hg hP hS hL)
theorem q_goto (hJ : Ok Y Rm J) {off : Int} {tgt : Nat} (hd : decode Y.2.1 pc = .ok (.goto off, 3)) (ht : (pc : Int) + off = (tgt : Int)) (k : J cu su tgt ls st g I R) : J cu su pc ls st g I R := by
  obtain ⟨p, l, e, s, m, args, below, meth, c, n0, sb, D, kA, nE, Q, ⟨hx, hb, hml, hr, hown, hlk, hnm, hts, hK⟩, hz, rfl⟩ := hJ
  intro H locs lsA hg hP hS hL
  exact lv_goto hx hb hd ht (k H locs lsA hg hP hS hL)
theorem q_nullY (hJ : Ok Y Rm J) {a : Nat} {off : Int} {tgt : Nat} (hd : decode Y.2.1 pc = .ok (.ifnull off, 3)) (ht : (pc : Int) + off = (tgt : Int)) (k : J cu su tgt ls st g I R) : J cu su pc ls (.null :: st) g I R := by
  obtain ⟨p, l, e, s, m, args, below, meth, c, n0, sb, D, kA, nE, Q, ⟨hx, hb, hml, hr, hown, hlk, hnm, hts, hK⟩, hz, rfl⟩ := hJ
  intro H locs lsA hg hP hS hL
  exact lv_ifnullN hx hb hd ht (k H locs lsA hg hP hS hL)
theorem q_nullN (hJ : Ok Y Rm J) {a : Nat} {off : Int} (hd : decode Y.2.1 pc = .ok (.ifnull off, 3)) (hq : pc + 3 = q) (k : J cu su q ls st g I R) : J cu su pc ls (.ref a :: st) g I R := by
  obtain ⟨p, l, e, s, m, args, below, meth, c, n0, sb, D, kA, nE, Q, ⟨hx, hb, hml, hr, hown, hlk, hnm, hts, hK⟩, hz, rfl⟩ := hJ
  subst hq
  intro H locs lsA hg hP hS hL
  exact lv_ifnull hx hb hd (k H locs lsA hg hP hS hL)
theorem q_nonnullN (hJ : Ok Y Rm J) {a : Nat} {off : Int} {tgt : Nat} (hd : decode Y.2.1 pc = .ok (.ifnonnull off, 3)) (ht : (pc : Int) + off = (tgt : Int)) (k : J cu su tgt ls st g I R) : J cu su pc ls (.ref a :: st) g I R := by
  obtain ⟨p, l, e, s, m, args, below, meth, c, n0, sb, D, kA, nE, Q, ⟨hx, hb, hml, hr, hown, hlk, hnm, hts, hK⟩, hz, rfl⟩ := hJ
  intro H locs lsA hg hP hS hL
  exact lv_ifnonnull hx hb hd ht (k H locs lsA hg hP hS hL)
theorem q_nonnullY (hJ : Ok Y Rm J) {a : Nat} {off : Int} (hd : decode Y.2.1 pc = .ok (.ifnonnull off, 3)) (hq : pc + 3 = q) (k : J cu su q ls st g I R) : J cu su pc ls (.null :: st) g I R := by
  obtain ⟨p, l, e, s, m, args, below, meth, c, n0, sb, D, kA, nE, Q, ⟨hx, hb, hml, hr, hown, hlk, hnm, hts, hK⟩, hz, rfl⟩ := hJ
  subst hq
  intro H locs lsA hg hP hS hL
  exact lv_ifnonnullN hx hb hd (k H locs lsA hg hP hS hL)
theorem q_tswIn (hJ : Ok Y Rm J) {dflt lo hi : Int} {offs : Array Int} {len : Nat} {x : Int32} {off : Int} {tgt : Nat} (hd : decode Y.2.1 pc = .ok (.tableswitch dflt lo hi offs, len)) (h1 : ¬ x.toInt < lo) (h2 : ¬ hi < x.toInt) (ho : offs[(x.toInt - lo).toNat]? = some off) (ht : (pc : Int) + off = (tgt : Int)) (k : J cu su tgt ls st g I R) : J cu su pc ls (.int x :: st) g I R := by
  obtain ⟨p, l, e, s, m, args, below, meth, c, n0, sb, D, kA, nE, Q, ⟨hx, hb, hml, hr, hown, hlk, hnm, hts, hK⟩, hz, rfl⟩ := hJ
  intro H locs lsA hg hP hS hL
  exact lv_tableIn hx hb hd h1 h2 ho ht (k H locs lsA hg hP hS hL)
theorem q_tswOut (hJ : Ok Y Rm J) {dflt lo hi : Int} {offs : Array Int} {len : Nat} {x : Int32} {tgt : Nat} (hd : decode Y.2.1 pc = .ok (.tableswitch dflt lo hi offs, len)) (h1 : x.toInt < lo ∨ hi < x.toInt) (ht : (pc : Int) + dflt = (tgt : Int)) (k : J cu su tgt ls st g I R) : J cu su pc ls (.int x :: st) g I R := by
  obtain ⟨p, l, e, s, m, args, below, meth, c, n0, sb, D, kA, nE, Q, ⟨hx, hb, hml, hr, hown, hlk, hnm, hts, hK⟩, hz, rfl⟩ := hJ
  intro H locs lsA hg hP hS hL
  exact lv_tableOut hx hb hd h1 ht (k H locs lsA hg hP hS hL)
theorem q_lsw (hJ : Ok Y Rm J) {dflt : Int} {ps : Array (Int × Int)} {len : Nat} {x : Int32} {off : Int} {tgt : Nat} (hd : decode Y.2.1 pc = .ok (.lookupswitch dflt ps, len)) (hp : (ps.toList.zip (ps.toList.drop 1)).all (fun (a, next) => a.1 < next.1) = true) (ho : Op.lookupswitch.offset ps.toList dflt x.toInt = off) (ht : (pc : Int) + off = (tgt : Int)) (k : J cu su tgt ls st g I R) : J cu su pc ls (.int x :: st) g I R := by
  obtain ⟨p, l, e, s, m, args, below, meth, c, n0, sb, D, kA, nE, Q, ⟨hx, hb, hml, hr, hown, hlk, hnm, hts, hK⟩, hz, rfl⟩ := hJ
  intro H locs lsA hg hP hS hL
  exact lv_lookup hx hb hd hp ho ht (k H locs lsA hg hP hS hL)
end Rules
end
section
/-! CELLS: fields, arrays, new ones; answers; calls -/
section Mem
variable {Y : MT} {Rm : Room} {J : JT} {cu su pc q : Nat} {ls : List (Option Value)} {st : List Value} {g : Geo} {I : MI} {R : MR}
theorem q_getI (hJ : Ok Y Rm J) {a ci k idx : Nat} {x : Int32} (hd : decode Y.2.1 pc = .ok (.getfield idx, 3)) (hq : pc + 3 = q) (hf : FL Y.1.cls idx ci k) (ht : isI (cTy ci k) = true) (hk : KA g a ci 0) (hv : I a k = x) (kk : J cu su q ls (.int x :: st) g I R) : J cu su pc ls (.ref a :: st) g I R := by
  obtain ⟨p, l, e, s, m, args, below, meth, c, n0, sb, D, kA, nE, Q, ⟨hx, hb, hml, hr, hown, hlk, hnm, hts, hK⟩, hz, rfl⟩ := hJ
  subst hq
  intro H locs lsA hg hP hS hL
  have he : (wl n0 kA g I R)[a]? = some (n0 + a, .inr (ci, fls n0 ci (I a) (R a))) := by rw [wl_get hk.1, cel_obj (by rw [hk.2]) hf.1]
  refine va_get (D := D) (ci := ci) (v := .int x) (C := cR ci) (T := cT ci) (N := cN ci) hx hb hts (cws_in hf.1) hown hK.1 hP a he (cl_at hf.1) k hf.2.1 (hts _ hf.2.2) (fun _ h9 => h9) ?_ hd (kk H locs lsA hg hP hS hL)
  rw [fls_get hf.2.1, if_pos ht, hv]
theorem q_getR (hJ : Ok Y Rm J) {a ci k idx : Nat} {x : Option Nat} {v : Value} (hd : decode Y.2.1 pc = .ok (.getfield idx, 3)) (hq : pc + 3 = q) (hf : FL Y.1.cls idx ci k) (ht : isI (cTy ci k) = false) (hk : KA g a ci 0) (hv : R a k = x) (hr2 : rr x = v) (kk : J cu su q ls (v :: st) g I R) : J cu su pc ls (.ref a :: st) g I R := by
  obtain ⟨p, l, e, s, m, args, below, meth, c, n0, sb, D, kA, nE, Q, ⟨hx, hb, hml, hr, hown, hlk, hnm, hts, hK⟩, hz, rfl⟩ := hJ
  subst hq
  intro H locs lsA hg hP hS hL
  have he : (wl n0 kA g I R)[a]? = some (n0 + a, .inr (ci, fls n0 ci (I a) (R a))) := by rw [wl_get hk.1, cel_obj (by rw [hk.2]) hf.1]
  refine va_get (D := D) (ci := ci) (v := sh n0 sb v) (C := cR ci) (T := cT ci) (N := cN ci) hx hb hts (cws_in hf.1) hown hK.1 hP a he (cl_at hf.1) k hf.2.1 (hts _ hf.2.2) (fun _ h9 => h9) ?_ hd (kk H locs lsA hg hP hS hL)
  rw [fls_get hf.2.1, if_neg (by rw [ht]; decide), hv, ← hr2, sh_rr]
theorem celI_set {n0 : Nat} {kA : Nat → ClassId} {a k ci : Nat} {x : Int32} (hc : ci < 12) (ht : isI (cTy ci k) = true) (hk : (g.2 a).1 = ci) : cel n0 kA g (up2 I a k x) R a = .inr (ci, (fls n0 ci (I a) (R a)).set k (.int x)) := by
  rw [cel_obj hk hc, fls_setI ht, up2_row]
theorem celR_set {n0 : Nat} {kA : Nat → ClassId} {a k ci : Nat} {x : Option Nat} (hc : ci < 12) (ht : isI (cTy ci k) = false) (hk : (g.2 a).1 = ci) : cel n0 kA g I (up2 R a k x) a = .inr (ci, (fls n0 ci (I a) (R a)).set k (rv n0 x)) := by
  rw [cel_obj hk hc, fls_setR ht, up2_row]
theorem cel_otherI {n0 : Nat} {kA : Nat → ClassId} {a k : Nat} {x : Int32} (b : Nat) (h : b ≠ a) : cel n0 kA g (up2 I a k x) R b = cel n0 kA g I R b := by
  simp only [cel, up2_other I a k x h]
theorem cel_otherR {n0 : Nat} {kA : Nat → ClassId} {a k : Nat} {x : Option Nat} (b : Nat) (h : b ≠ a) : cel n0 kA g I (up2 R a k x) b = cel n0 kA g I R b := by
  simp only [cel, up2_other R a k x h]
theorem q_putI (hJ : Ok Y Rm J) {a ci k idx : Nat} {x : Int32} (hd : decode Y.2.1 pc = .ok (.putfield idx, 3)) (hq : pc + 3 = q) (hf : FL Y.1.cls idx ci k) (hfin : (cT ci k).2.2.2 = false) (ht : isI (cTy ci k) = true) (hk : KA g a ci 0) (hn : narrow (cTy ci k) (.int x) = .int x) (hfit : fits (cTy ci k) (.int x) = true) (kk : J cu su q ls st g (up2 I a k x) R) : J cu su pc ls (.int x :: .ref a :: st) g I R := by
  obtain ⟨p, l, e, s, m, args, below, meth, c, n0, sb, D, kA, nE, Q, ⟨hx, hb, hml, hr, hown, hlk, hnm, hts, hK⟩, hz, rfl⟩ := hJ
  subst hq
  intro H locs lsA hg hP hS hL
  have he : (wl n0 kA g I R)[a]? = some (n0 + a, .inr (ci, fls n0 ci (I a) (R a))) := by rw [wl_get hk.1, cel_obj (by rw [hk.2]) hf.1]
  refine va_put (D := D) (ci := ci) (v := .int x) (C := cR ci) (T := cT ci) (N := cN ci) hx hb hts (cws_in hf.1) (cTy ci) (cty_ok hf.1) (cnm_ok hf.1) hown hK.1 hP (wl_D n0 kA g I R) hS a he (cl_at hf.1) k hf.2.1 (hts _ hf.2.2) (fun _ h9 => h9) hfin (cty_ok hf.1 k hf.2.1) hn hfit (by rw [fls_len]; exact hf.2.1) hd (fun H1 locs1 hP1 _ hS1 => ?_)
  rw [wl_set (celI_set (R := R) hf.1 ht (by rw [hk.2])) (fun b hb => cel_otherI b hb)] at hP1
  exact kk H1 locs1 lsA hg hP1 hS1 hL
theorem q_putFI (hJ : Ok Y Rm J) {a ci k idx : Nat} {x : Int32} (hd : decode Y.2.1 pc = .ok (.putfield idx, 3)) (hq : pc + 3 = q) (hf : FL Y.1.cls idx ci k) (hfin : (cT ci k).2.2.2 = true) (hinit : Y.1.name = "<init>") (hdecl : (cT ci k).1 = Y.1.cls) (ht : isI (cTy ci k) = true) (hk : KA g a ci 0) (hn : narrow (cTy ci k) (.int x) = .int x) (hfit : fits (cTy ci k) (.int x) = true) (kk : J cu su q ls st g (up2 I a k x) R) : J cu su pc ls (.int x :: .ref a :: st) g I R := by
  obtain ⟨p, l, e, s, m, args, below, meth, c, n0, sb, D, kA, nE, Q, ⟨hx, hb, hml, hr, hown, hlk, hnm, hts, hK⟩, hz, rfl⟩ := hJ
  subst hq
  intro H locs lsA hg hP hS hL
  have he : (wl n0 kA g I R)[a]? = some (n0 + a, .inr (ci, fls n0 ci (I a) (R a))) := by rw [wl_get hk.1, cel_obj (by rw [hk.2]) hf.1]
  refine va_putF (D := D) (ci := ci) (v := .int x) (C := cR ci) (T := cT ci) (N := cN ci) hx hb hts (cws_in hf.1) (cTy ci) (cty_ok hf.1) (cnm_ok hf.1) hown hK.1 hP (wl_D n0 kA g I R) hS a he (cl_at hf.1) k hf.2.1 (hts _ hf.2.2) (fun _ h9 => h9) hfin (by rw [hnm, hinit]) hdecl (cty_ok hf.1 k hf.2.1) hn hfit (by rw [fls_len]; exact hf.2.1) hd (fun H1 locs1 hP1 _ hS1 => ?_)
  rw [wl_set (celI_set (R := R) hf.1 ht (by rw [hk.2])) (fun b hb => cel_otherI b hb)] at hP1
  exact kk H1 locs1 lsA hg hP1 hS1 hL
theorem q_putFR (hJ : Ok Y Rm J) {a ci k idx : Nat} {x : Option Nat} {v : Value} (hd : decode Y.2.1 pc = .ok (.putfield idx, 3)) (hq : pc + 3 = q) (hf : FL Y.1.cls idx ci k) (hfin : (cT ci k).2.2.2 = true) (hinit : Y.1.name = "<init>") (hdecl : (cT ci k).1 = Y.1.cls) (ht : isI (cTy ci k) = false) (hk : KA g a ci 0) (hv : rr x = v) (kk : J cu su q ls st g I (up2 R a k x)) : J cu su pc ls (v :: .ref a :: st) g I R := by
  obtain ⟨p, l, e, s, m, args, below, meth, c, n0, sb, D, kA, nE, Q, ⟨hx, hb, hml, hr, hown, hlk, hnm, hts, hK⟩, hz, rfl⟩ := hJ
  subst hq
  intro H locs lsA hg hP hS hL
  have he : (wl n0 kA g I R)[a]? = some (n0 + a, .inr (ci, fls n0 ci (I a) (R a))) := by rw [wl_get hk.1, cel_obj (by rw [hk.2]) hf.1]
  have hrf : narrow (cTy ci k) (sh n0 sb v) = sh n0 sb v ∧ fits (cTy ci k) (sh n0 sb v) = true := by
    rw [← hv, sh_rr]
    cases hty : cTy ci k <;> rw [hty] at ht <;> first | (exact absurd ht (by decide)) | (cases x <;> exact ⟨rfl, rfl⟩)
  refine va_putF (D := D) (ci := ci) (v := sh n0 sb v) (C := cR ci) (T := cT ci) (N := cN ci) hx hb hts (cws_in hf.1) (cTy ci) (cty_ok hf.1) (cnm_ok hf.1) hown hK.1 hP (wl_D n0 kA g I R) hS a he (cl_at hf.1) k hf.2.1 (hts _ hf.2.2) (fun _ h9 => h9) hfin (by rw [hnm, hinit]) hdecl (cty_ok hf.1 k hf.2.1) hrf.1 hrf.2 (by rw [fls_len]; exact hf.2.1) hd (fun H1 locs1 hP1 _ hS1 => ?_)
  rw [← hv, sh_rr] at hP1
  rw [wl_set (celR_set (I := I) hf.1 ht (by rw [hk.2])) (fun b hb => cel_otherR b hb)] at hP1
  exact kk H1 locs1 lsA hg hP1 hS1 hL
theorem q_iald (hJ : Ok Y Rm J) {a n j : Nat} {i x : Int32} (hd : decode Y.2.1 pc = .ok (.iaload, 1)) (hq : pc + 1 = q) (hk : KA g a 13 n) (hi : ix i j n) (hv : I a j = x) (kk : J cu su q ls (.int x :: st) g I R) : J cu su pc ls (.int i :: .ref a :: st) g I R := by
  obtain ⟨p, l, e, s, m, args, below, meth, c, n0, sb, D, kA, nE, Q, ⟨hx, hb, hml, hr, hown, hlk, hnm, hts, hK⟩, hz, rfl⟩ := hJ
  subst hq
  intro H locs lsA hg hP hS hL
  have he : (wl n0 kA g I R)[a]? = some (n0 + a, .inl (kA 13, n, .inl (I a))) := by rw [wl_get hk.1, cel_ints hk.2 (by decide) (by decide)]
  have hkk := kk H locs lsA hg hP hS hL
  rw [← hv, ← hi.nat] at hkk
  exact va_iald hx hb hK.1 hP a 1 he rfl hi.in hd hkk
theorem q_zald (hJ : Ok Y Rm J) {a n j : Nat} {i x : Int32} (hd : decode Y.2.1 pc = .ok (.baload, 1)) (hq : pc + 1 = q) (hk : KA g a 14 n) (hi : ix i j n) (hv : I a j = x) (kk : J cu su q ls (.int x :: st) g I R) : J cu su pc ls (.int i :: .ref a :: st) g I R := by
  obtain ⟨p, l, e, s, m, args, below, meth, c, n0, sb, D, kA, nE, Q, ⟨hx, hb, hml, hr, hown, hlk, hnm, hts, hK⟩, hz, rfl⟩ := hJ
  subst hq
  intro H locs lsA hg hP hS hL
  have he : (wl n0 kA g I R)[a]? = some (n0 + a, .inl (kA 14, n, .inl (I a))) := by rw [wl_get hk.1, cel_ints hk.2 (by decide) (by decide)]
  have hkk := kk H locs lsA hg hP hS hL
  rw [← hv, ← hi.nat] at hkk
  exact va_zald hx hb hK.1 hP a 2 he rfl hi.in hd hkk
theorem q_cald (hJ : Ok Y Rm J) {a n j : Nat} {i x : Int32} (hd : decode Y.2.1 pc = .ok (.caload, 1)) (hq : pc + 1 = q) (hk : KA g a 12 n) (hi : ix i j n) (hv : I a j = x) (kk : J cu su q ls (.int x :: st) g I R) : J cu su pc ls (.int i :: .ref a :: st) g I R := by
  obtain ⟨p, l, e, s, m, args, below, meth, c, n0, sb, D, kA, nE, Q, ⟨hx, hb, hml, hr, hown, hlk, hnm, hts, hK⟩, hz, rfl⟩ := hJ
  subst hq
  intro H locs lsA hg hP hS hL
  have he : (wl n0 kA g I R)[a]? = some (n0 + a, .inl (kA 12, n, .inl (I a))) := by rw [wl_get hk.1, cel_ints hk.2 (by decide) (by decide)]
  have hkk := kk H locs lsA hg hP hS hL
  rw [← hv, ← hi.nat] at hkk
  exact va_cald hx hb hK.1 hP a 0 he rfl hi.in hd hkk
theorem q_iast (hJ : Ok Y Rm J) {a n j : Nat} {i x : Int32} (hd : decode Y.2.1 pc = .ok (.iastore, 1)) (hq : pc + 1 = q) (hk : KA g a 13 n) (hi : ix i j n) (kk : J cu su q ls st g (up2 I a j x) R) : J cu su pc ls (.int x :: .int i :: .ref a :: st) g I R := by
  obtain ⟨p, l, e, s, m, args, below, meth, c, n0, sb, D, kA, nE, Q, ⟨hx, hb, hml, hr, hown, hlk, hnm, hts, hK⟩, hz, rfl⟩ := hJ
  subst hq
  intro H locs lsA hg hP hS hL
  have he : (wl n0 kA g I R)[a]? = some (n0 + a, .inl (kA 13, n, .inl (I a))) := by rw [wl_get hk.1, cel_ints hk.2 (by decide) (by decide)]
  have hset : cel n0 kA g (up2 I a j x) R a = .inl (kA 13, n, .inl (upd (I a) i.toNatClampNeg x)) := by
    rw [cel_ints hk.2 (by decide) (by decide), up2_row, hi.nat]
    rfl
  exact va_iast hx hb hK.1 hP (wl_D n0 kA g I R) hS a 1 he rfl hi.in hd (fun H1 locs1 hP1 _ hS1 => by
    rw [wl_set hset (fun y hy => cel_otherI y hy)] at hP1
    exact kk H1 locs1 lsA hg hP1 hS1 hL)
theorem q_zast (hJ : Ok Y Rm J) {a n j : Nat} {i x : Int32} (hd : decode Y.2.1 pc = .ok (.bastore, 1)) (hq : pc + 1 = q) (hk : KA g a 14 n) (hi : ix i j n) (hn : vp_nar .boolean x = x) (kk : J cu su q ls st g (up2 I a j x) R) : J cu su pc ls (.int x :: .int i :: .ref a :: st) g I R := by
  obtain ⟨p, l, e, s, m, args, below, meth, c, n0, sb, D, kA, nE, Q, ⟨hx, hb, hml, hr, hown, hlk, hnm, hts, hK⟩, hz, rfl⟩ := hJ
  subst hq
  intro H locs lsA hg hP hS hL
  have he : (wl n0 kA g I R)[a]? = some (n0 + a, .inl (kA 14, n, .inl (I a))) := by rw [wl_get hk.1, cel_ints hk.2 (by decide) (by decide)]
  have hset : cel n0 kA g (up2 I a j x) R a = .inl (kA 14, n, .inl (upd (I a) i.toNatClampNeg x)) := by
    rw [cel_ints hk.2 (by decide) (by decide), up2_row, hi.nat]
    rfl
  exact va_zast hx hb hK.1 hP (wl_D n0 kA g I R) hS a 2 he rfl hi.in hd (fun H1 locs1 hP1 _ hS1 => by
    rw [hn] at hP1
    rw [wl_set hset (fun y hy => cel_otherI y hy)] at hP1
    exact kk H1 locs1 lsA hg hP1 hS1 hL)
theorem q_cast (hJ : Ok Y Rm J) {a n j : Nat} {i x : Int32} (hd : decode Y.2.1 pc = .ok (.castore, 1)) (hq : pc + 1 = q) (hk : KA g a 12 n) (hi : ix i j n) (hn : vp_nar .char x = x) (kk : J cu su q ls st g (up2 I a j x) R) : J cu su pc ls (.int x :: .int i :: .ref a :: st) g I R := by
  obtain ⟨p, l, e, s, m, args, below, meth, c, n0, sb, D, kA, nE, Q, ⟨hx, hb, hml, hr, hown, hlk, hnm, hts, hK⟩, hz, rfl⟩ := hJ
  subst hq
  intro H locs lsA hg hP hS hL
  have he : (wl n0 kA g I R)[a]? = some (n0 + a, .inl (kA 12, n, .inl (I a))) := by rw [wl_get hk.1, cel_ints hk.2 (by decide) (by decide)]
  have hset : cel n0 kA g (up2 I a j x) R a = .inl (kA 12, n, .inl (upd (I a) i.toNatClampNeg x)) := by
    rw [cel_ints hk.2 (by decide) (by decide), up2_row, hi.nat]
    rfl
  exact va_cast hx hb hK.1 hP (wl_D n0 kA g I R) hS a 0 he rfl hi.in hd (fun H1 locs1 hP1 _ hS1 => by
    rw [hn] at hP1
    rw [wl_set hset (fun y hy => cel_otherI y hy)] at hP1
    exact kk H1 locs1 lsA hg hP1 hS1 hL)

theorem tys_12 (kA : Nat → ClassId) : (tysOf kA)[0]? = some (kA 12, .char) := rfl
theorem q_aald (hJ : Ok Y Rm J) {a k n j : Nat} {i : Int32} {x : Option Nat} {v : Value} (hd : decode Y.2.1 pc = .ok (.aaload, 1)) (hq : pc + 1 = q) (hk : KA g a k n) (hk1 : k = 15 ∨ k = 16 ∨ k = 17) (hi : ix i j n) (hv : R a j = x) (hr2 : rr x = v) (kk : J cu su q ls (v :: st) g I R) : J cu su pc ls (.int i :: .ref a :: st) g I R := by
  obtain ⟨p, l, e, s, m, args, below, meth, c, n0, sb, D, kA, nE, Q, ⟨hx, hb, hml, hr, hown, hlk, hnm, hts, hK⟩, hz, rfl⟩ := hJ
  subst hq
  intro H locs lsA hg hP hS hL
  have he : (wl n0 kA g I R)[a]? = some (n0 + a, .inl (kA k, n, .inr (.inr (.inr (.inr (fun j => (R a j).map (n0 + ·))))))) := by rw [wl_get hk.1, cel_refs hk.2 (by omega)]
  have hkk := kk H locs lsA hg hP hS hL
  have hvv : va_rf ((R a i.toNatClampNeg).map (n0 + ·)) = sh n0 sb v := by
    rw [hi.nat, hv, ← hr2, sh_rr]
    cases x <;> rfl
  rw [List.map_cons, ← hvv] at hkk
  rcases hk1 with rfl | rfl | rfl
  · exact va_aldq hx hb hK.1 hP a 3 he rfl hi.in hd hkk
  · exact va_aldq hx hb hK.1 hP a 4 he rfl hi.in hd hkk
  · exact va_aldq hx hb hK.1 hP a 5 he rfl hi.in hd hkk
theorem q_aast (hJ : Ok Y Rm J) {a b k n j : Nat} {i : Int32} (hd : decode Y.2.1 pc = .ok (.aastore, 1)) (hq : pc + 1 = q) (hk : KA g a k n) (hk1 : (k = 15 ∧ KA g b 4 0) ∨ (k = 16 ∧ KA g b 5 0) ∨ (k = 17 ∧ KA g b 7 0)) (hi : ix i j n) (kk : J cu su q ls st g I (up2 R a j (some b))) : J cu su pc ls (.ref b :: .int i :: .ref a :: st) g I R := by
  obtain ⟨p, l, e, s, m, args, below, meth, c, n0, sb, D, kA, nE, Q, ⟨hx, hb, hml, hr, hown, hlk, hnm, hts, hK⟩, hz, rfl⟩ := hJ
  subst hq
  intro H locs lsA hg hP hS hL
  have he : (wl n0 kA g I R)[a]? = some (n0 + a, .inl (kA k, n, .inr (.inr (.inr (.inr (fun j => (R a j).map (n0 + ·))))))) := by rw [wl_get hk.1, cel_refs hk.2 (by omega)]
  have hset : cel n0 kA g I (up2 R a j (some b)) a = .inl (kA k, n, .inr (.inr (.inr (.inr (va_up (fun j => (R a j).map (n0 + ·)) i.toNatClampNeg (some (n0 + b))))))) := by
    rw [cel_refs hk.2 (by omega), up2_row, hi.nat]
    congr 7
    funext y
    by_cases hy : y = j
    · subst hy; simp [va_up]
    · simp [va_up, hy]
  have hev : ∀ ci : Nat, ci < 12 → KA g b ci 0 → (wl n0 kA g I R)[b]? = some (n0 + b, .inr (ci, fls n0 ci (I b) (R b))) := fun ci hc hkb => by rw [wl_get hkb.1, cel_obj (by rw [hkb.2]) hc]
  have hk2 : ∀ (H1 : Heap) (locs1 : List Loc), va_P D vwCl ((wl n0 kA g I R).set a (n0 + a, .inl (kA k, n, .inr (.inr (.inr (.inr (va_up (fun j => (R a j).map (n0 + ·)) i.toNatClampNeg (some (n0 + b))))))))) H1 → va_D (fun q => n0 ≤ q) ((wl n0 kA g I R).set a (n0 + a, .inl (kA k, n, .inr (.inr (.inr (.inr (va_up (fun j => (R a j).map (n0 + ·)) i.toNatClampNeg (some (n0 + b))))))))) → va_S (fun q => n0 ≤ q) s.heap H1 locs1 → W p l e Rm s m args below meth c H1 locs1 cu su Q (F0 m (pc + 1) lsA (st.map (sh n0 sb))) := fun H1 locs1 hP1 _ hS1 => by
    rw [wl_set hset (fun y hy => cel_otherR y hy)] at hP1
    exact kk H1 locs1 lsA hg hP1 hS1 hL
  rcases hk1 with ⟨rfl, hkb⟩ | ⟨rfl, hkb⟩ | ⟨rfl, hkb⟩
  · exact va_astq (r := (RX4, TX4, 4)) hx hb hK.1 hP (wl_D n0 kA g I R) hS a 3 b 4 he rfl (hev 4 (by decide) hkb) rfl hi.in hd hk2
  · exact va_astq (r := (RX5, TX5, 12)) hx hb hK.1 hP (wl_D n0 kA g I R) hS a 4 b 5 he rfl (hev 5 (by decide) hkb) rfl hi.in hd hk2
  · exact va_astq (r := (RX7, TX7, 9)) hx hb hK.1 hP (wl_D n0 kA g I R) hS a 5 b 7 he rfl (hev 7 (by decide) hkb) rfl hi.in hd hk2
theorem q_alen (hJ : Ok Y Rm J) {a k n : Nat} {v : Int32} (hd : decode Y.2.1 pc = .ok (.arraylength, 1)) (hq : pc + 1 = q) (hk : KA g a k n) (hk1 : 12 ≤ k) (hk2 : k < 18) (hv : Int32.ofNat n = v) (kk : J cu su q ls (.int v :: st) g I R) : J cu su pc ls (.ref a :: st) g I R := by
  obtain ⟨p, l, e, s, m, args, below, meth, c, n0, sb, D, kA, nE, Q, ⟨hx, hb, hml, hr, hown, hlk, hnm, hts, hK⟩, hz, rfl⟩ := hJ
  subst hq
  intro H locs lsA hg hP hS hL
  have ht : ∃ (t0 : Nat) (ty : FieldType), (tysOf kA)[t0]? = some (kA k, ty) := by
    rcases (show k = 12 ∨ k = 13 ∨ k = 14 ∨ k = 15 ∨ k = 16 ∨ k = 17 by omega) with rfl | rfl | rfl | rfl | rfl | rfl
    · exact ⟨0, _, rfl⟩
    · exact ⟨1, _, rfl⟩
    · exact ⟨2, _, rfl⟩
    · exact ⟨3, _, rfl⟩
    · exact ⟨4, _, rfl⟩
    · exact ⟨5, _, rfl⟩
  obtain ⟨t0, ty, ht⟩ := ht
  have hkk := kk H locs lsA hg hP hS hL
  by_cases h : k < 15
  · exact va_alen hx hb hK.1 hP a t0 (x := (n, .inl (I a))) (by rw [wl_get hk.1, cel_ints hk.2 hk1 h]) ht hv hd hkk
  · exact va_alen hx hb hK.1 hP a t0 (x := (n, .inr (.inr (.inr (.inr (fun j => (R a j).map (n0 + ·))))))) (by rw [wl_get hk.1, cel_refs hk.2 (by omega)]) ht hv hd hkk
/-! answers -/
theorem q_iret {d mc ms nE : Nat} {Φ : Po} (hM : OkM Y d mc ms nE Φ J) {x : Int32} {ty : FieldType} (hd : decode Y.2.1 pc = .ok (.ireturn, 1)) (hty : Y.2.2.2 = some ty) (hn : narrow ty (.int x) = .int x) (h : Φ (some (.int x)) g I R) : J mc ms pc ls [.int x] g I R := by
  obtain ⟨p, l, e, s, m, args, below, meth, c, n0, sb, D, kA, ⟨hx, hb, hml, hr, hown, hlk, hnm, hts, hK⟩, hz, rfl⟩ := hM
  intro H locs lsA hg hP hS hL
  exact W.zret (v := x) (ty := ty) hx hb (by rw [hr, hty]) hn (fun t ht hW => ⟨⟨some (.int x), g, I, R, rfl, h, hg, by rw [ht]; exact hP⟩, hS.F ht⟩) hS.2.2 hd hlk
theorem q_vret {d mc ms nE : Nat} {Φ : Po} (hM : OkM Y d mc ms nE Φ J) (hd : decode Y.2.1 pc = .ok (.return_, 1)) (hty : Y.2.2.2 = none) (h : Φ none g I R) : J mc ms pc ls [] g I R := by
  obtain ⟨p, l, e, s, m, args, below, meth, c, n0, sb, D, kA, ⟨hx, hb, hml, hr, hown, hlk, hnm, hts, hK⟩, hz, rfl⟩ := hM
  intro H locs lsA hg hP hS hL
  exact W.vret hx hb (by rw [hr, hty]) (fun t ht hW => ⟨⟨none, g, I, R, rfl, h, hg, by rw [ht]; exact hP⟩, hS.F ht⟩) hS.2.2 hd hlk
theorem q_aret {d mc ms nE : Nat} {Φ : Po} (hM : OkM Y d mc ms nE Φ J) {v : Value} {nm : String} (hd : decode Y.2.1 pc = .ok (.areturn, 1)) (hty : Y.2.2.2 = some (.object nm)) (hv : isR v = true) (h : Φ (some v) g I R) : J mc ms pc ls [v] g I R := by
  obtain ⟨p, l, e, s, m, args, below, meth, c, n0, sb, D, kA, ⟨hx, hb, hml, hr, hown, hlk, hnm, hts, hK⟩, hz, rfl⟩ := hM
  intro H locs lsA hg hP hS hL
  exact W.aret (v := sh n0 sb v) hx hb (by rw [hr, hty]) (Or.inl ⟨nm, rfl⟩) (by rcases isR_cases hv n0 sb with h9 | h9; exact Or.inr h9; exact Or.inl h9) (fun t ht hW => ⟨⟨some v, g, I, R, rfl, h, hg, by rw [ht]; exact hP⟩, hS.F ht⟩) hS.2.2 hd hlk
end Mem
end
section
/-! CALLS -/
def wcode (Y : MT) : Cond := Cond.code Y.1 Y.2.1 Y.2.2.1 Y.2.2.2
def CMn (Y : MT) (n : Nat) : Prop := Cond.initialized Y.1.cls ∈ gtbl ∧ wcode Y ∈ gtbl ∧ (Y.1.cls ≠ "java/lang/invoke/MethodHandle" ∧ Y.1.cls ≠ "java/lang/invoke/VarHandle" ∧ (parseMethodDescriptor Y.1.desc).map (fun d => d.parameters.length) = some n)
def IMn (Y : MT) (n : Nat) : Prop := CMn Y n ∧ Cond.instanceMethod Y.1 ∈ gtbl ∧ Cond.selects Y.1.cls Y.1 Y.1 ∈ gtbl
def SMn (Y : MT) (n : Nat) : Prop := CMn Y n ∧ Cond.static Y.1 ∈ gtbl
def KMn (Y : MT) (n : Nat) : Prop := CMn Y n ∧ Cond.instanceMethod Y.1 ∈ gtbl ∧ Y.1.name = "<init>" ∧ Y.2.2.2 = none
theorem wsY_good {Y : MT} (h : wcode Y ∈ gtbl) : GoodIn gtbl (wsY Y) := by
  intro w hw
  rcases List.mem_cons.mp hw with rfl | hw
  · exact g_good h
  · exact g_good hw
theorem wl_size {n0 nE cu : Nat} {D : va_G} {kA : Nat → ClassId} {g : Geo} {I : MI} {R : MR} {H : Heap} {sz : Nat} (hz : sz = n0 + nE) (hg : g.1 = nE + cu) (hP : va_P D vwCl (wl n0 kA g I R) H) (h1 : H.size ≤ sz + cu) (h2 : sz ≤ H.size) : H.size = n0 + g.1 := by
  by_cases h : g.1 = 0
  · omega
  · have h3 := (hP (g.1 - 1) _ (wl_get (by omega))).lt
    have h4 : n0 + (g.1 - 1) < H.size := h3
    omega
section Calls2
variable {p : Program} {l : Launch} {e : Env} {Rm : Room} {s : State} {m : MethodId} {args : Array Value} {below : List Frame} {meth : Method} {c : Code} {H : Heap} {locs : List Loc} {cu su : Nat} {Q : State → Prop}
theorem q_after {pc : Nat} {lsA : Array Slot} {rest st0 : List Value} {a : Array Value} {n0 sb : Nat} {D : va_G} {kA : Nat → ClassId} {nn mc ms : Nat} {Φ : Po} (hr : va_Run p l e Rm s m args below meth c H locs cu su mc ms (F0 m pc lsA st0) rest (QcD n0 sb D kA nn mc Φ a) (fun q => n0 ≤ q)) (hS : va_S (fun q => n0 ≤ q) s.heap H locs)
    (kk : ∀ (r : Option Value) (g : Geo) (I : MI) (R : MR), Φ r g I R → g.1 = nn + mc → ∀ (H1 : Heap) (locs1 : List Loc), va_P D vwCl (wl n0 kA g I R) H1 → va_S (fun q => n0 ≤ q) s.heap H1 locs1 → W p l e Rm s m args below meth c H1 locs1 (cu + mc) (su + ms) Q (F0 m (pc + 3) lsA ((r.map (sh n0 sb)).toList ++ rest))) : W p l e Rm s m args below meth c H locs cu su Q (F0 m pc lsA st0) := by
  intro T hT X
  obtain ⟨v, st₀, t, T', L, h0, X', hL, e1, e2, ⟨⟨r, g, I, R, hv, hp, hgg, hP⟩, hz, hk⟩, st⟩ := hr T hT X
  cases hv
  rw [h0] at hz hk
  obtain ⟨t2, a1, b1⟩ := kk r g I R hp hgg T'.heap (locs ++ L) (by rw [e1]; exact hP)
    ⟨Nat.le_trans hS.1 (by rw [e1]; exact hz), fun q h1 h2 => by rw [e1, hk q (Nat.lt_of_lt_of_le h1 hS.1) h2]; exact hS.2.1 q h1 h2, fun q hq => by
      rcases List.mem_append.mp hq with h | h
      · exact hS.2.2 q h
      · exact hL q h⟩ T' rfl X'
  exact ⟨t2, st t2 a1, b1⟩
end Calls2
section Calls3
variable {Y : MT} {Rm : Room} {J : JT} {cu su pc q : Nat} {ls : List (Option Value)} {st : List Value} {g : Geo} {I : MI} {R : MR}
theorem cats_sum {n0 sb : Nat} {st : List Value} (h : (st.map fun v => v.category).sum ≤ 8) (h1 : ∀ v ∈ st, v.category = 1) : ((st.map (sh n0 sb)).map fun v => v.category).sum ≤ 8 := by
  have e : (st.map (sh n0 sb)).map (fun v => v.category) = st.map fun v => v.category := by
    rw [List.map_map]
    refine List.map_congr_left fun v hv => ?_
    show (sh n0 sb v).category = v.category
    rw [sh_cat (h1 v hv), h1 v hv]
  rw [e]; exact h
theorem ones_sum (st : List Value) : (st.map fun _ => 1).sum = st.length := by
  induction st with
  | nil => rfl
  | cons a t ih => simp only [List.map_cons, List.sum_cons, List.length_cons, ih]; omega
theorem st_sum {st : List Value} (h : st.all (fun v => v.category == 1) = true) (h8 : st.length ≤ 8) : (st.map fun v => v.category).sum ≤ 8 ∧ ∀ v ∈ st, v.category = 1 := by
  have h1 : ∀ v ∈ st, v.category = 1 := fun v hv => by simpa using List.all_eq_true.mp h v hv
  refine ⟨?_, h1⟩
  have e : st.map (fun v => v.category) = st.map fun _ => 1 := List.map_congr_left h1
  rw [e, ones_sum]
  exact h8
theorem q_callV (hJ : Ok Y Rm J) {Z : MT} {d mc ms n idx cu2 su2 : Nat} {t : Nat} {as rest : List Value} {Φ : Po} (hd : decode Y.2.1 pc = .ok (.invokevirtual idx, 3)) (hq : pc + 3 = q) (S : Sp d mc ms Z (.ref t :: as) g I R Φ) (hm : IMn Z n) (hl : Cond.methodLink Y.1.cls idx Z.1 ∈ gtbl) {ci : Nat} (hk : KA g t ci 0) (hc : ci < 12) (hcn : cR ci = Z.1.cls) (hn : as.length = n) (hst : as.reverse ++ .ref t :: rest = st) (hst2 : rest.all (fun v => v.category == 1) = true) (hst8 : rest.length ≤ 8) (hr1 : d + 1 ≤ Rm.frames ∧ 8 + (Z.2.2.1 + 11) + 40 * d ≤ Rm.locals) (hr2 : cu + mc ≤ Rm.cells ∧ su + ms ≤ Rm.slots) (hcu : cu + mc = cu2) (hsu : su + ms = su2)
    (kk : ∀ (r : Option Value) (g' : Geo) (I' : MI) (R' : MR), Φ r g' I' R' → J cu2 su2 q ls (r.toList ++ rest) g' I' R') : J cu su pc ls st g I R := by
  obtain ⟨p, l, e, s, m, args, below, meth, c, n0, sb, D, kA, nE, Q, ⟨hx, hb, hml, hr, hown, hlk, hnm, hts, hK⟩, hz, rfl⟩ := hJ
  subst hq hcu hsu
  intro H locs lsA hg hP hS hL
  refine W.sized fun z1 z2 => ?_
  have hsz : H.size = n0 + g.1 := wl_size hz hg hP z1 z2
  have hF8 := st_sum hst2 hst8
  subst hst
  have hF : CallFix p m c Y.2.1 Y.2.2.1 s args gtbl Y.1.cls := ⟨hx, hb, hml, hown, hts⟩
  have hcb := callB_of (R := Rm) (rm := rmD d mc ms) (mc := mc) (ms := ms) (ret := Z.2.2.2) (bytes := Z.2.1) (maxL := Z.2.2.1) n hts (wsY_good hm.1.2.1) rfl rfl rfl (hts _ hm.1.1) (hts _ hl) hm.1.2.2 hr1
  refine q_after (va_runV (As := as.map (sh n0 sb)) (rest := rest.map (sh n0 sb)) hF (S l n0 sb D kA) ⟨hcb, hts _ hm.2.1, hts _ hm.2.2⟩ ⟨PcD.blind, by have h9 := va_recv (s := s) hK.1 hP (cl_at hc) (by rw [wl_get hk.1, cel_obj (by rw [hk.2]) hc]); rw [← hcn]; exact h9, fun U hU hW => ⟨rfl, by rw [hU]; exact hsz, by rw [hU]; exact hP, Kn.moved hW hK⟩⟩ rfl (by rw [List.length_map]; exact hn) hL.2.1 (by simp [F0, sh]) (lv_room (cats_sum hF8.1 hF8.2)) hd hr2) hS (fun r g' I' R' hΦ hg' H1 locs1 hP1 hS1 => ?_)
  have hk := kk r g' I' R' hΦ H1 locs1 lsA (by omega) hP1 hS1 hL
  rw [List.map_append, show r.toList.map (sh n0 sb) = (r.map (sh n0 sb)).toList by cases r <;> rfl] at hk
  exact hk
theorem q_callS (hJ : Ok Y Rm J) {Z : MT} {d mc ms n idx cu2 su2 : Nat} {as rest : List Value} {Φ : Po} (hd : decode Y.2.1 pc = .ok (.invokestatic idx, 3)) (hq : pc + 3 = q) (S : Sp d mc ms Z as g I R Φ) (hm : SMn Z n) (hl : Cond.methodLink Y.1.cls idx Z.1 ∈ gtbl) (hn : as.length = n) (hst : as.reverse ++ rest = st) (hst2 : rest.all (fun v => v.category == 1) = true) (hst8 : rest.length ≤ 8) (hr1 : d + 1 ≤ Rm.frames ∧ 8 + (Z.2.2.1 + 11) + 40 * d ≤ Rm.locals) (hr2 : cu + mc ≤ Rm.cells ∧ su + ms ≤ Rm.slots) (hcu : cu + mc = cu2) (hsu : su + ms = su2)
    (kk : ∀ (r : Option Value) (g' : Geo) (I' : MI) (R' : MR), Φ r g' I' R' → J cu2 su2 q ls (r.toList ++ rest) g' I' R') : J cu su pc ls st g I R := by
  obtain ⟨p, l, e, s, m, args, below, meth, c, n0, sb, D, kA, nE, Q, ⟨hx, hb, hml, hr, hown, hlk, hnm, hts, hK⟩, hz, rfl⟩ := hJ
  subst hq hcu hsu
  intro H locs lsA hg hP hS hL
  refine W.sized fun z1 z2 => ?_
  have hsz : H.size = n0 + g.1 := wl_size hz hg hP z1 z2
  have hF8 := st_sum hst2 hst8
  subst hst
  have hF : CallFix p m c Y.2.1 Y.2.2.1 s args gtbl Y.1.cls := ⟨hx, hb, hml, hown, hts⟩
  have hcb := callB_of (R := Rm) (rm := rmD d mc ms) (mc := mc) (ms := ms) (ret := Z.2.2.2) (bytes := Z.2.1) (maxL := Z.2.2.1) n hts (wsY_good hm.1.2.1) rfl rfl rfl (hts _ hm.1.1) (hts _ hl) hm.1.2.2 hr1
  refine q_after (va_runS (As := as.map (sh n0 sb)) (rest := rest.map (sh n0 sb)) hF (S l n0 sb D kA) ⟨hcb, hts _ hm.2⟩ ⟨PcD.blind, fun U hU hW => ⟨rfl, by rw [hU]; exact hsz, by rw [hU]; exact hP, Kn.moved hW hK⟩⟩ rfl (by rw [List.length_map]; exact hn) hL.2.1 (by simp [F0, sh]) (lv_room (cats_sum hF8.1 hF8.2)) hd hr2) hS (fun r g' I' R' hΦ hg' H1 locs1 hP1 hS1 => ?_)
  have hk := kk r g' I' R' hΦ H1 locs1 lsA (by omega) hP1 hS1 hL
  rw [List.map_append, show r.toList.map (sh n0 sb) = (r.map (sh n0 sb)).toList by cases r <;> rfl] at hk
  exact hk
theorem q_callI (hJ : Ok Y Rm J) {Z : MT} {d mc ms n idx cu2 su2 : Nat} {t : Nat} {as rest : List Value} {Φ : Po} (hd : decode Y.2.1 pc = .ok (.invokespecial idx, 3)) (hq : pc + 3 = q) (S : Sp d mc ms Z (.ref t :: as) g I R Φ) (hm : KMn Z n) (hl : Cond.methodLink Y.1.cls idx Z.1 ∈ gtbl) (hn : as.length = n) (hst : as.reverse ++ .ref t :: rest = st) (hst2 : rest.all (fun v => v.category == 1) = true) (hst8 : rest.length ≤ 8) (hr1 : d + 1 ≤ Rm.frames ∧ 8 + (Z.2.2.1 + 11) + 40 * d ≤ Rm.locals) (hr2 : cu + mc ≤ Rm.cells ∧ su + ms ≤ Rm.slots) (hcu : cu + mc = cu2) (hsu : su + ms = su2)
    (kk : ∀ (r : Option Value) (g' : Geo) (I' : MI) (R' : MR), Φ r g' I' R' → J cu2 su2 q ls (r.toList ++ rest) g' I' R') : J cu su pc ls st g I R := by
  obtain ⟨p, l, e, s, m, args, below, meth, c, n0, sb, D, kA, nE, Q, ⟨hx, hb, hml, hr, hown, hlk, hnm, hts, hK⟩, hz, rfl⟩ := hJ
  subst hq hcu hsu
  intro H locs lsA hg hP hS hL
  refine W.sized fun z1 z2 => ?_
  have hsz : H.size = n0 + g.1 := wl_size hz hg hP z1 z2
  have hF8 := st_sum hst2 hst8
  subst hst
  have hF : CallFix p m c Y.2.1 Y.2.2.1 s args gtbl Y.1.cls := ⟨hx, hb, hml, hown, hts⟩
  have hcb := callB_of (R := Rm) (rm := rmD d mc ms) (mc := mc) (ms := ms) (ret := none) (bytes := Z.2.1) (maxL := Z.2.2.1) n hts (wsY_good hm.1.2.1) (by rw [wsY, hm.2.2.2]) rfl rfl (hts _ hm.1.1) (hts _ hl) hm.1.2.2 hr1
  refine q_after (va_runI (As := as.map (sh n0 sb)) (rest := rest.map (sh n0 sb)) hF (S l n0 sb D kA) ⟨hcb, hm.2.2.1, hts _ hm.2.1⟩ ⟨PcD.blind, fun U hU hW => ⟨rfl, by rw [hU]; exact hsz, by rw [hU]; exact hP, Kn.moved hW hK⟩⟩ rfl (by rw [List.length_map]; exact hn) hL.2.1 (by simp [F0, sh]) (lv_room (cats_sum hF8.1 hF8.2)) hd hr2) hS (fun r g' I' R' hΦ hg' H1 locs1 hP1 hS1 => ?_)
  have hk := kk r g' I' R' hΦ H1 locs1 lsA (by omega) hP1 hS1 hL
  rw [List.map_append, show r.toList.map (sh n0 sb) = (r.map (sh n0 sb)).toList by cases r <;> rfl] at hk
  exact hk
theorem q_callSN (hJ : Ok Y Rm J) {Z : MT} {d mc ms n idx cu2 su2 : Nat} {as rest : List Value} {Φ : Po} (hd : decode Y.2.1 pc = .ok (.invokestatic idx, 3)) (hq : pc + 3 = q) (S : Sp d mc ms Z as g I R Φ) (hm : SMn Z n) (hl : Cond.methodLinkNest Y.1.cls idx Z.1 RX10 ∈ nestW) (hn : as.length = n) (hst : as.reverse ++ rest = st) (hst2 : rest.all (fun v => v.category == 1) = true) (hst8 : rest.length ≤ 8) (hr1 : d + 1 ≤ Rm.frames ∧ 8 + (Z.2.2.1 + 11) + 40 * d ≤ Rm.locals) (hr2 : cu + mc ≤ Rm.cells ∧ su + ms ≤ Rm.slots) (hcu : cu + mc = cu2) (hsu : su + ms = su2)
    (kk : ∀ (r : Option Value) (g' : Geo) (I' : MI) (R' : MR), Φ r g' I' R' → J cu2 su2 q ls (r.toList ++ rest) g' I' R') : J cu su pc ls st g I R := by
  obtain ⟨p, l, e, s, m, args, below, meth, c, n0, sb, D, kA, nE, Q, ⟨hx, hb, hml, hr, hown, hlk, hnm, hts, hK⟩, hz, rfl⟩ := hJ
  subst hq hcu hsu
  intro H locs lsA hg hP hS hL
  refine W.sized fun z1 z2 => ?_
  have hsz : H.size = n0 + g.1 := wl_size hz hg hP z1 z2
  have hF8 := st_sum hst2 hst8
  subst hst
  have hF : CallFix p m c Y.2.1 Y.2.2.1 s args gtbl Y.1.cls := ⟨hx, hb, hml, hown, hts⟩
  have hcb := va_cnB (R := Rm) (rm := rmD d mc ms) (mc := mc) (ms := ms) (ret := Z.2.2.2) (bytes := Z.2.1) (maxL := Z.2.2.1) n hts (wsY_good hm.1.2.1) rfl rfl rfl (hK.2.1 _ hl) (hts _ hm.1.1) hm.1.2.2 hr1
  refine q_after (va_runSN (As := as.map (sh n0 sb)) (rest := rest.map (sh n0 sb)) hF (S l n0 sb D kA) ⟨hcb, hts _ hm.2, trivial⟩ ⟨PcD.blind, fun U hU hW => ⟨rfl, by rw [hU]; exact hsz, by rw [hU]; exact hP, Kn.moved hW hK⟩⟩ rfl (by rw [List.length_map]; exact hn) hL.2.1 (by simp [F0, sh]) (lv_room (cats_sum hF8.1 hF8.2)) hd hr2) hS (fun r g' I' R' hΦ hg' H1 locs1 hP1 hS1 => ?_)
  have hk := kk r g' I' R' hΦ H1 locs1 lsA (by omega) hP1 hS1 hL
  rw [List.map_append, show r.toList.map (sh n0 sb) = (r.map (sh n0 sb)).toList by cases r <;> rfl] at hk
  exact hk
theorem q_callIN (hJ : Ok Y Rm J) {Z : MT} {d mc ms n idx cu2 su2 : Nat} {t : Nat} {as rest : List Value} {Φ : Po} (hd : decode Y.2.1 pc = .ok (.invokespecial idx, 3)) (hq : pc + 3 = q) (S : Sp d mc ms Z (.ref t :: as) g I R Φ) (hm : KMn Z n) (hl : Cond.methodLinkNest Y.1.cls idx Z.1 RX10 ∈ nestW) (hn : as.length = n) (hst : as.reverse ++ .ref t :: rest = st) (hst2 : rest.all (fun v => v.category == 1) = true) (hst8 : rest.length ≤ 8) (hr1 : d + 1 ≤ Rm.frames ∧ 8 + (Z.2.2.1 + 11) + 40 * d ≤ Rm.locals) (hr2 : cu + mc ≤ Rm.cells ∧ su + ms ≤ Rm.slots) (hcu : cu + mc = cu2) (hsu : su + ms = su2)
    (kk : ∀ (r : Option Value) (g' : Geo) (I' : MI) (R' : MR), Φ r g' I' R' → J cu2 su2 q ls (r.toList ++ rest) g' I' R') : J cu su pc ls st g I R := by
  obtain ⟨p, l, e, s, m, args, below, meth, c, n0, sb, D, kA, nE, Q, ⟨hx, hb, hml, hr, hown, hlk, hnm, hts, hK⟩, hz, rfl⟩ := hJ
  subst hq hcu hsu
  intro H locs lsA hg hP hS hL
  refine W.sized fun z1 z2 => ?_
  have hsz : H.size = n0 + g.1 := wl_size hz hg hP z1 z2
  have hF8 := st_sum hst2 hst8
  subst hst
  have hF : CallFix p m c Y.2.1 Y.2.2.1 s args gtbl Y.1.cls := ⟨hx, hb, hml, hown, hts⟩
  have hcb := va_cnB (R := Rm) (rm := rmD d mc ms) (mc := mc) (ms := ms) (ret := none) (bytes := Z.2.1) (maxL := Z.2.2.1) n hts (wsY_good hm.1.2.1) (by rw [wsY, hm.2.2.2]) rfl rfl (hK.2.1 _ hl) (hts _ hm.1.1) hm.1.2.2 hr1
  refine q_after (va_runIN (As := as.map (sh n0 sb)) (rest := rest.map (sh n0 sb)) hF (S l n0 sb D kA) ⟨hcb, hm.2.2.1, hts _ hm.2.1⟩ ⟨PcD.blind, fun U hU hW => ⟨rfl, by rw [hU]; exact hsz, by rw [hU]; exact hP, Kn.moved hW hK⟩⟩ rfl (by rw [List.length_map]; exact hn) hL.2.1 (by simp [F0, sh]) (lv_room (cats_sum hF8.1 hF8.2)) hd hr2) hS (fun r g' I' R' hΦ hg' H1 locs1 hP1 hS1 => ?_)
  have hk := kk r g' I' R' hΦ H1 locs1 lsA (by omega) hP1 hS1 hL
  rw [List.map_append, show r.toList.map (sh n0 sb) = (r.map (sh n0 sb)).toList by cases r <;> rfl] at hk
  exact hk

end Calls3
end
section
/-! NEW CELLS, and the JDK's own methods -/
def zI (I : MI) (a : Nat) : MI := fun b j => if b = a then 0 else I b j
def zR (R : MR) (a : Nat) : MR := fun b j => if b = a then none else R b j
theorem zI_self (I : MI) (a : Nat) : zI I a a = fun _ => 0 := by funext j; simp [zI]
theorem zR_self (R : MR) (a : Nat) : zR R a a = fun _ => none := by funext j; simp [zR]
def gN (g : Geo) (k n : Nat) : Geo := (g.1 + 1, fun b => if b = g.1 then (k, n) else g.2 b)
def cp0 (I : MI) (a0 a1 n : Nat) : MI := fun b j => if b = a1 ∧ j < n then I a0 j else I b j
theorem wl_push {n0 : Nat} {kA : Nat → ClassId} {g : Geo} {I : MI} {R : MR} {k n : Nat} {e : va_E} (he : cel n0 kA (gN g k n) (zI I g.1) (zR R g.1) g.1 = e) : wl n0 kA g I R ++ [(n0 + g.1, e)] = wl n0 kA (gN g k n) (zI I g.1) (zR R g.1) := by
  simp only [wl, gN, List.range_succ, List.map_append, List.map_cons, List.map_nil]
  congr 1
  · refine List.map_congr_left fun b hb => ?_
    have hb2 : b ≠ g.1 := Nat.ne_of_lt (List.mem_range.mp hb)
    have e1 : zI I g.1 b = I b := by funext j; simp [zI, hb2]
    have e2 : zR R g.1 b = R b := by funext j; simp [zR, hb2]
    simp only [cel, e1, e2, if_neg hb2]
  · rw [← he]
    rfl
theorem cdef {ci : Nat} (h : ci < 12) (n0 : Nat) : ∀ k, k < cN ci → defaultValue (cTy ci k) = vp_V (fls n0 ci (fun _ => 0) (fun _ => none)) k := by
  intro k hk
  have h1 : vp_V (fls n0 ci (fun _ => 0) (fun _ => none)) k = if isI (cTy ci k) = true then .int 0 else .null := by
    simp [vp_V, fls_get hk, rv]
  rw [h1]
  have key : ∀ ci, ci < 12 → ∀ k, k < cN ci → defaultValue (cTy ci k) = if isI (cTy ci k) = true then .int 0 else .null := by decide +kernel
  exact key ci h k hk
section New
variable {Y : MT} {Rm : Room} {J : JT} {cu su pc q : Nat} {ls : List (Option Value)} {st : List Value} {g : Geo} {I : MI} {R : MR}
theorem q_objInit (hJ : Ok Y Rm J) {idx a : Nat} (hd : decode Y.2.1 pc = .ok (.invokespecial idx, 3)) (hq : pc + 3 = q) (hl : Cond.methodLink Y.1.cls idx objectInit ∈ gtbl) (hw : Cond.instanceMethod objectInit ∈ gtbl ∧ Cond.code objectInit ⟨#[0xb1]⟩ 1 none ∈ gtbl) (hst2 : st.all (fun v => v.category == 1) = true) (hst8 : st.length ≤ 8) (hr1 : 1 ≤ Rm.frames ∧ 20 ≤ Rm.locals) (kk : J cu su q ls st g I R) : J cu su pc ls (.ref a :: st) g I R := by
  obtain ⟨p, l, e, s, m, args, below, meth, c, n0, sb, D, kA, nE, Q, ⟨hx, hb, hml, hr, hown, hlk, hnm, hts, hK⟩, hz, rfl⟩ := hJ
  subst hq
  intro H locs lsA hg hP hS hL
  have hF8 := st_sum hst2 hst8
  refine W.objInit hx hb hown (hts _ hl) (hts _ hw.1) (hts _ hw.2) rfl (by rw [hml]; exact hL.2.1) rfl hd hr1.1 ?_ (kk H locs lsA hg hP hS hL)
  have := cats_sum (n0 := n0) (sb := sb) hF8.1 hF8.2
  show 2 * 0 + _ + 12 ≤ _
  omega
theorem q_new (hJ : Ok Y Rm J) {idx ci : Nat} (hd : decode Y.2.1 pc = .ok (.new idx, 3)) (hq : pc + 3 = q) (hc : ci < 12) (hl : Cond.classLink Y.1.cls idx (cR ci) ∈ gtbl) (hw : Cond.instantiable (cR ci) (cN ci) ∈ gtbl ∧ Cond.initialized (cR ci) ∈ gtbl) (hr2 : cu + 1 ≤ Rm.cells ∧ su + cN ci ≤ Rm.slots) {cu2 su2 : Nat} (hcu : cu + 1 = cu2) (hsu : su + cN ci = su2) (kk : J cu2 su2 q ls (.ref g.1 :: st) (gN g ci 0) (zI I g.1) (zR R g.1)) : J cu su pc ls st g I R := by
  obtain ⟨p, l, e, s, m, args, below, meth, c, n0, sb, D, kA, nE, Q, ⟨hx, hb, hml, hr, hown, hlk, hnm, hts, hK⟩, hz, rfl⟩ := hJ
  subst hq
  intro H locs lsA hg hP hS hL
  subst hcu hsu
  refine W.sized fun z1 z2 => ?_
  have hsz : H.size = n0 + g.1 := wl_size hz hg hP z1 z2
  have hKn := hK.1.1 ci _ (cl_at hc)
  refine W.newcK hx hb hown (hts _ hl) (hts _ hw.1) (hts _ hw.2) rfl hd hr2.1 hr2.2 hKn.2.1 hsz fun H1 kC hkC e1 z1 o1 => ?_
  have hk : ∀ (k : Nat) (x : Nat × va_E), (wl n0 kA g I R)[k]? = some x → H1[x.1]? = H[x.1]? := fun k x hx => o1 x.1 (by rw [← hsz]; exact (hP k x hx).lt)
  have hP1 : va_P D vwCl (wl n0 kA g I R ++ [(n0 + g.1, .inr (ci, fls n0 ci (fun _ => 0) (fun _ => none)))]) H1 := (hP.kept hk).app (fun k x hx => by
    have hz : k < 1 := (List.getElem?_eq_some_iff.mp hx).1
    rw [show k = 0 by omega] at hx
    cases hx
    exact ⟨_, cl_at hc, (u_born (cTy ci) hts (cws_in hc) hKn hkC e1 (cty_ok hc)).to (cdef hc n0)⟩)
  rw [wl_push (k := ci) (n := 0) (by
    rw [cel_obj (ci := ci) (by simp [gN]) hc, zI_self, zR_self])] at hP1
  have hS1 : va_S (fun q => n0 ≤ q) s.heap H1 locs := ⟨by omega, fun x h1 h2 => (o1 x (by omega)).trans (hS.2.1 x h1 h2), hS.2.2⟩
  exact kk H1 locs lsA (by simp [gN]; omega) hP1 hS1 hL
theorem q_newa (hJ : Ok Y Rm J) {n : Int32} {N k t0 : Nat} {aty : ArrayType} {ty : FieldType} (hd : decode Y.2.1 pc = .ok (.newarray aty, 2)) (hq : pc + 2 = q) (hty : newarray.typeOf aty = ty) (hk1 : (aty = .char ∧ k = 12) ∨ (aty = .int ∧ k = 13) ∨ (aty = .boolean ∧ k = 14)) (hw : Cond.arrayClass ty ∈ gtbl) (hn : ix n N (N + 1)) (hby : N ≤ 100000) (hr2 : cu + 1 ≤ Rm.cells ∧ su + N ≤ Rm.slots) {cu2 su2 : Nat} (hcu : cu + 1 = cu2) (hsu : su + N = su2) (kk : J cu2 su2 q ls (.ref g.1 :: st) (gN g k N) (zI I g.1) (zR R g.1)) : J cu su pc ls (.int n :: st) g I R := by
  obtain ⟨p, l, e, s, m, args, below, meth, c, n0, sb, D, kA, nE, Q, ⟨hx, hb, hml, hr, hown, hlk, hnm, hts, hK⟩, hz, rfl⟩ := hJ
  subst hq
  intro H locs lsA hg hP hS hL
  subst hcu hsu
  refine W.sized fun z1 z2 => ?_
  have hsz : H.size = n0 + g.1 := wl_size hz hg hP z1 z2
  refine va_newaK hx hb (by rw [hty]; exact hts _ hw) rfl hd rfl hn.nn hn.nat (by rcases hk1 with ⟨rfl, -⟩ | ⟨rfl, -⟩ | ⟨rfl, -⟩ <;> simp [newarray.typeOf, componentBytes] <;> omega) hr2.1 hr2.2 hsz fun H1 cA e1 z1 o1 hAr hNm => ?_
  have hcA : cA = kA k := by
    rcases hk1 with ⟨rfl, rfl⟩ | ⟨rfl, rfl⟩ | ⟨rfl, rfl⟩
    · exact Option.some.inj (hNm.symm.trans (hK.1.2 0 _ rfl).2)
    · exact Option.some.inj (hNm.symm.trans (hK.1.2 1 _ rfl).2)
    · exact Option.some.inj (hNm.symm.trans (hK.1.2 2 _ rfl).2)
  have hdv : defaultValue (newarray.typeOf aty) = .int 0 := by rcases hk1 with ⟨rfl, -⟩ | ⟨rfl, -⟩ | ⟨rfl, -⟩ <;> rfl
  have hk : ∀ (k : Nat) (x : Nat × va_E), (wl n0 kA g I R)[k]? = some x → H1[x.1]? = H[x.1]? := fun k x hx => o1 x.1 (by rw [← hsz]; exact (hP k x hx).lt)
  have hP1 : va_P D vwCl (wl n0 kA g I R ++ [(n0 + g.1, .inl (kA k, N, .inl (fun _ => 0)))]) H1 := (hP.kept hk).app (fun j x hx => by
    have hz : j < 1 := (List.getElem?_eq_some_iff.mp hx).1
    rw [show j = 0 by omega] at hx
    cases hx
    show H1[n0 + g.1]? = some (vp_cell _ _)
    rw [e1, hdv, hcA]
    rfl)
  rw [wl_push (k := k) (n := N) (by
    rw [cel_ints (k := k) (n := N) (by simp [gN]) (by omega) (by omega), zI_self])] at hP1
  have hS1 : va_S (fun q => n0 ≤ q) s.heap H1 locs := ⟨by omega, fun x h1 h2 => (o1 x (by omega)).trans (hS.2.1 x h1 h2), hS.2.2⟩
  exact kk H1 locs lsA (by simp [gN]; omega) hP1 hS1 hL
theorem q_anew (hJ : Ok Y Rm J) {n : Int32} {N k idx : Nat} {C : String} (hd : decode Y.2.1 pc = .ok (.anewarray idx, 3)) (hq : pc + 3 = q) (hl : Cond.classLink Y.1.cls idx C ∈ gtbl) (hC : C ∈ aoW) (hk1 : (C = RX4 ∧ k = 15) ∨ (C = RX5 ∧ k = 16) ∨ (C = RX7 ∧ k = 17)) (hn : ix n N (N + 1)) (hby : N ≤ 100000) (hr2 : cu + 1 ≤ Rm.cells ∧ su + N ≤ Rm.slots) {cu2 su2 : Nat} (hcu : cu + 1 = cu2) (hsu : su + N = su2) (kk : J cu2 su2 q ls (.ref g.1 :: st) (gN g k N) (zI I g.1) (zR R g.1)) : J cu su pc ls (.int n :: st) g I R := by
  obtain ⟨p, l, e, s, m, args, below, meth, c, n0, sb, D, kA, nE, Q, ⟨hx, hb, hml, hr, hown, hlk, hnm, hts, hK⟩, hz, rfl⟩ := hJ
  subst hq
  intro H locs lsA hg hP hS hL
  subst hcu hsu
  refine W.sized fun z1 z2 => ?_
  have hsz : H.size = n0 + g.1 := wl_size hz hg hP z1 z2
  have hnat := hn.nat
  refine W.anew hx hb hown (hts _ hl) (va_AO.use (hK.2.2 C hC)) rfl hd rfl hn.nn (by omega) hr2.1 (by rw [hnat]; exact hr2.2) fun cA kA2 comp f1 f2 f3 f4 => ?_
  generalize hH1 : H.push ({ cls := cA, slots := Array.replicate n.toNatClampNeg .null, vm := .none } : Cell) = H1
  have z1 : H1.size = H.size + 1 := by rw [← hH1, Array.size_push]
  have e1 : H1[n0 + g.1]? = some (arrV cA N (fun _ => .null)) := by rw [← hsz, ← hH1, Array.getElem?_push_size, ← arrV_new, hnat]
  have o1 : ∀ q : Nat, q < H.size → H1[q]? = H[q]? := fun q hq => by rw [← hH1, Array.getElem?_push, if_neg (Nat.ne_of_lt hq)]
  have hcA : cA = kA k := by
    rcases hk1 with ⟨rfl, rfl⟩ | ⟨rfl, rfl⟩ | ⟨rfl, rfl⟩
    · obtain ⟨-, -, -, -, -, h4⟩ := (hK.1.2 3 _ rfl).2
      exact Option.some.inj (f1.symm.trans h4)
    · obtain ⟨-, -, -, -, -, h4⟩ := (hK.1.2 4 _ rfl).2
      exact Option.some.inj (f1.symm.trans h4)
    · obtain ⟨-, -, -, -, -, h4⟩ := (hK.1.2 5 _ rfl).2
      exact Option.some.inj (f1.symm.trans h4)
  have hk : ∀ (k : Nat) (x : Nat × va_E), (wl n0 kA g I R)[k]? = some x → H1[x.1]? = H[x.1]? := fun k x hx => o1 x.1 (hP k x hx).lt
  have hP1 : va_P D vwCl (wl n0 kA g I R ++ [(n0 + g.1, .inl (kA k, N, .inr (.inr (.inr (.inr (fun _ => none))))))]) H1 := (hP.kept hk).app (fun j x hx => by
    have hz : j < 1 := (List.getElem?_eq_some_iff.mp hx).1
    rw [show j = 0 by omega] at hx
    cases hx
    show H1[n0 + g.1]? = some (vp_cell _ _)
    rw [e1, hcA]
    rfl)
  rw [wl_push (k := k) (n := N) (by
    rw [cel_refs (k := k) (n := N) (by simp [gN]) (by omega), zR_self]
    rfl)] at hP1
  have hS1 : va_S (fun q => n0 ≤ q) s.heap H1 locs := ⟨by omega, fun x h1 h2 => (o1 x (by omega)).trans (hS.2.1 x h1 h2), hS.2.2⟩
  rw [hnat]
  have hk9 := kk H1 locs lsA (by simp [gN]; omega) hP1 hS1 hL
  rw [List.map_cons] at hk9
  rw [hsz]
  exact hk9
def mW (y : MethodName) (b : ByteArray) : Prop := Cond.static y ∈ gtbl ∧ Cond.initialized "java/lang/Math" ∈ gtbl ∧ Cond.code y b 2 (some .int) ∈ gtbl
theorem q_max (hJ : Ok Y Rm J) {idx : Nat} {x y : Int32} (hd : decode Y.2.1 pc = .ok (.invokestatic idx, 3)) (hq : pc + 3 = q) (hl : Cond.methodLink Y.1.cls idx Lib.Math.max.name ∈ gtbl) (hw : mW Lib.Math.max.name Lib.Math.max.code) (hst2 : st.all (fun v => v.category == 1) = true) (hst8 : st.length ≤ 8) (hr1 : 1 ≤ Rm.frames ∧ 21 ≤ Rm.locals) (hr2 : cu ≤ Rm.cells ∧ su ≤ Rm.slots) (kk : J cu su q ls (.int (if x < y then y else x) :: st) g I R) : J cu su pc ls (.int y :: .int x :: st) g I R := by
  obtain ⟨p, l, e, s, m, args, below, meth, c, n0, sb, D, kA, nE, Q, ⟨hx, hb, hml, hr, hown, hlk, hnm, hts, hK⟩, hz, rfl⟩ := hJ
  subst hq
  intro H locs lsA hg hP hS hL
  have hF8 := st_sum hst2 hst8
  have h8 := cats_sum (n0 := n0) (sb := sb) hF8.1 hF8.2
  exact va_mmax hx hb (by rw [hml]; exact hL.2.1.symm) hown (hts _ hl) (hts _ hw.1) (hts _ hw.2.1) (hts _ hw.2.2) hr1.1 (by omega) hr2.1 hr2.2 hd (kk H locs lsA hg hP hS hL)
theorem q_min (hJ : Ok Y Rm J) {idx : Nat} {x y : Int32} (hd : decode Y.2.1 pc = .ok (.invokestatic idx, 3)) (hq : pc + 3 = q) (hl : Cond.methodLink Y.1.cls idx Lib.Math.min.name ∈ gtbl) (hw : mW Lib.Math.min.name Lib.Math.min.code) (hst2 : st.all (fun v => v.category == 1) = true) (hst8 : st.length ≤ 8) (hr1 : 1 ≤ Rm.frames ∧ 21 ≤ Rm.locals) (hr2 : cu ≤ Rm.cells ∧ su ≤ Rm.slots) (kk : J cu su q ls (.int (if y < x then y else x) :: st) g I R) : J cu su pc ls (.int y :: .int x :: st) g I R := by
  obtain ⟨p, l, e, s, m, args, below, meth, c, n0, sb, D, kA, nE, Q, ⟨hx, hb, hml, hr, hown, hlk, hnm, hts, hK⟩, hz, rfl⟩ := hJ
  subst hq
  intro H locs lsA hg hP hS hL
  have hF8 := st_sum hst2 hst8
  have h8 := cats_sum (n0 := n0) (sb := sb) hF8.1 hF8.2
  exact va_mmin hx hb (by rw [hml]; exact hL.2.1.symm) hown (hts _ hl) (hts _ hw.1) (hts _ hw.2.1) (hts _ hw.2.2) hr1.1 (by omega) hr2.1 hr2.2 hd (kk H locs lsA hg hP hS hL)
theorem q_copy (hJ : Ok Y Rm J) {idx a0 a1 n0' n1' N : Nat} {n : Int32} (hd : decode Y.2.1 pc = .ok (.invokestatic idx, 3)) (hq : pc + 3 = q) (hl : Cond.methodLink Y.1.cls idx arraycopyName ∈ gtbl) (hw : Cond.native arraycopyName ∈ gtbl ∧ Cond.static arraycopyName ∈ gtbl ∧ Cond.initialized "java/lang/System" ∈ gtbl) (hk0 : KA g a0 13 n0') (hk1 : KA g a1 13 n1') (hn : ix n N (N + 1)) (hn0 : N ≤ n0') (hn1 : N ≤ n1') (hst2 : st.all (fun v => v.category == 1) = true) (hst8 : st.length ≤ 8) (hr1 : 1 ≤ Rm.frames ∧ 40 ≤ Rm.locals) (kk : J cu su q ls st g (cp0 I a0 a1 N) R) : J cu su pc ls (.int n :: .int 0 :: .ref a1 :: .int 0 :: .ref a0 :: st) g I R := by
  obtain ⟨p, l, e, s, m, args, below, meth, c, n0, sb, D, kA, nE, Q, ⟨hx, hb, hml, hr, hown, hlk, hnm, hts, hK⟩, hz, rfl⟩ := hJ
  subst hq
  intro H locs lsA hg hP hS hL
  have hF8 := st_sum hst2 hst8
  have h8 := cats_sum (n0 := n0) (sb := sb) hF8.1 hF8.2
  have he0 : (wl n0 kA g I R)[a0]? = some (n0 + a0, .inl (kA 13, n0', .inl (I a0))) := by rw [wl_get hk0.1, cel_ints hk0.2 (by decide) (by decide)]
  have he1 : (wl n0 kA g I R)[a1]? = some (n0 + a1, .inl (kA 13, n1', .inl (I a1))) := by rw [wl_get hk1.1, cel_ints hk1.2 (by decide) (by decide)]
  have hz0 : (0 : Int32).toNatClampNeg = 0 := by decide
  have hn2 := hn.nat
  have hng : ¬ (0 : Int32) < 0 := by decide
  have h20 : nativeFrameWords "java/lang/System" "arraycopy" 5 ≤ 20 := by decide
  refine va_copyi hx hb (by rw [hml]; exact hL.2.1.symm) hown (hts _ hl) (hts _ hw.1) (hts _ hw.2.1) (hts _ hw.2.2) hK.1 hP (wl_D n0 kA g I R) hS a0 a1 1 1 he0 he1 rfl rfl rfl hng hng hn.nn (by rw [hz0]; omega) (by rw [hz0]; omega) (fun _ _ => rfl) hr1.1 (by omega) hd (fun H1 locs1 hP1 _ hS1 => ?_)
  rw [wl_set (I' := cp0 I a0 a1 N) (R' := R) (by
    rw [cel_ints hk1.2 (by decide) (by decide)]
    congr 4
    funext j
    simp only [cp0, va_cpy, hz0, hn2]
    by_cases hj : j < N
    · simp [hj]
    · simp [hj]) (fun b hb => by
    have e : cp0 I a0 a1 N b = I b := by funext j; simp [cp0, hb]
    simp only [cel, e])] at hP1
  exact kk H1 locs1 lsA hg hP1 hS1 hL
end New
end
section
def mX0_init : MT := (yX0_init, cX0_init, 3, none)
theorem imX0_init : KMn mX0_init 0 := ⟨⟨gin 71 (by decide +kernel) rfl, gin 96 (by decide +kernel) rfl, by decide +kernel, by decide +kernel, by decide +kernel⟩, gin 95 (by decide +kernel) rfl, rfl, rfl⟩
def mX0_insertFault : MT := (yX0_insertFault, cX0_insertFault, 5, (Option.some Jvm.ClassFile.FieldType.int))
theorem imX0_insertFault : IMn mX0_insertFault 4 := ⟨⟨gin 71 (by decide +kernel) rfl, gin 533 (by decide +kernel) rfl, by decide +kernel, by decide +kernel, by decide +kernel⟩, gin 531 (by decide +kernel) rfl, gin 532 (by decide +kernel) rfl⟩
def mX0_updateFault : MT := (yX0_updateFault, cX0_updateFault, 5, (Option.some Jvm.ClassFile.FieldType.int))
theorem imX0_updateFault : IMn mX0_updateFault 3 := ⟨⟨gin 71 (by decide +kernel) rfl, gin 665 (by decide +kernel) rfl, by decide +kernel, by decide +kernel, by decide +kernel⟩, gin 663 (by decide +kernel) rfl, gin 664 (by decide +kernel) rfl⟩
def mX0_deleteFault : MT := (yX0_deleteFault, cX0_deleteFault, 2, (Option.some Jvm.ClassFile.FieldType.int))
theorem imX0_deleteFault : IMn mX0_deleteFault 1 := ⟨⟨gin 71 (by decide +kernel) rfl, gin 677 (by decide +kernel) rfl, by decide +kernel, by decide +kernel, by decide +kernel⟩, gin 675 (by decide +kernel) rfl, gin 676 (by decide +kernel) rfl⟩
def mX0_runInsert : MT := (yX0_runInsert, cX0_runInsert, 6, (Option.some Jvm.ClassFile.FieldType.int))
theorem imX0_runInsert : IMn mX0_runInsert 4 := ⟨⟨gin 71 (by decide +kernel) rfl, gin 529 (by decide +kernel) rfl, by decide +kernel, by decide +kernel, by decide +kernel⟩, gin 527 (by decide +kernel) rfl, gin 528 (by decide +kernel) rfl⟩
def mX0_runUpdate : MT := (yX0_runUpdate, cX0_runUpdate, 5, (Option.some Jvm.ClassFile.FieldType.int))
theorem imX0_runUpdate : IMn mX0_runUpdate 3 := ⟨⟨gin 71 (by decide +kernel) rfl, gin 661 (by decide +kernel) rfl, by decide +kernel, by decide +kernel, by decide +kernel⟩, gin 659 (by decide +kernel) rfl, gin 660 (by decide +kernel) rfl⟩
def mX0_runDelete : MT := (yX0_runDelete, cX0_runDelete, 3, (Option.some Jvm.ClassFile.FieldType.int))
theorem imX0_runDelete : IMn mX0_runDelete 1 := ⟨⟨gin 71 (by decide +kernel) rfl, gin 673 (by decide +kernel) rfl, by decide +kernel, by decide +kernel, by decide +kernel⟩, gin 671 (by decide +kernel) rfl, gin 672 (by decide +kernel) rfl⟩
def mX0_run : MT := (yX0_run, cX0_run, 2, (Option.some Jvm.ClassFile.FieldType.int))
theorem imX0_run : IMn mX0_run 1 := ⟨⟨gin 71 (by decide +kernel) rfl, gin 551 (by decide +kernel) rfl, by decide +kernel, by decide +kernel, by decide +kernel⟩, gin 550 (by decide +kernel) rfl, gin 3 (by decide +kernel) rfl⟩
def mX0_report : MT := (yX0_report, cX0_report, 2, (Option.some Jvm.ClassFile.FieldType.int))
theorem imX0_report : IMn mX0_report 1 := ⟨⟨gin 71 (by decide +kernel) rfl, gin 816 (by decide +kernel) rfl, by decide +kernel, by decide +kernel, by decide +kernel⟩, gin 814 (by decide +kernel) rfl, gin 815 (by decide +kernel) rfl⟩
def mX0_begin : MT := (yX0_begin, cX0_begin, 1, none)
theorem imX0_begin : IMn mX0_begin 0 := ⟨⟨gin 71 (by decide +kernel) rfl, gin 555 (by decide +kernel) rfl, by decide +kernel, by decide +kernel, by decide +kernel⟩, gin 554 (by decide +kernel) rfl, gin 4 (by decide +kernel) rfl⟩
def mX0_canTake : MT := (yX0_canTake, cX0_canTake, 2, (Option.some Jvm.ClassFile.FieldType.boolean))
theorem imX0_canTake : IMn mX0_canTake 1 := ⟨⟨gin 71 (by decide +kernel) rfl, gin 624 (by decide +kernel) rfl, by decide +kernel, by decide +kernel, by decide +kernel⟩, gin 623 (by decide +kernel) rfl, gin 12 (by decide +kernel) rfl⟩
def mX0_prepareUpdate : MT := (yX0_prepareUpdate, cX0_prepareUpdate, 6, (Option.some Jvm.ClassFile.FieldType.boolean))
theorem imX0_prepareUpdate : IMn mX0_prepareUpdate 4 := ⟨⟨gin 71 (by decide +kernel) rfl, gin 628 (by decide +kernel) rfl, by decide +kernel, by decide +kernel, by decide +kernel⟩, gin 627 (by decide +kernel) rfl, gin 13 (by decide +kernel) rfl⟩
def mX0_prepareDelete : MT := (yX0_prepareDelete, cX0_prepareDelete, 4, (Option.some Jvm.ClassFile.FieldType.boolean))
theorem imX0_prepareDelete : IMn mX0_prepareDelete 2 := ⟨⟨gin 71 (by decide +kernel) rfl, gin 633 (by decide +kernel) rfl, by decide +kernel, by decide +kernel, by decide +kernel⟩, gin 632 (by decide +kernel) rfl, gin 14 (by decide +kernel) rfl⟩
def mX0_prepareCaused : MT := (yX0_prepareCaused, cX0_prepareCaused, 5, (Option.some Jvm.ClassFile.FieldType.boolean))
theorem imX0_prepareCaused : IMn mX0_prepareCaused 3 := ⟨⟨gin 71 (by decide +kernel) rfl, gin 619 (by decide +kernel) rfl, by decide +kernel, by decide +kernel, by decide +kernel⟩, gin 618 (by decide +kernel) rfl, gin 11 (by decide +kernel) rfl⟩
def mX0_operate : MT := (yX0_operate, cX0_operate, 4, none)
theorem imX0_operate : IMn mX0_operate 3 := ⟨⟨gin 71 (by decide +kernel) rfl, gin 559 (by decide +kernel) rfl, by decide +kernel, by decide +kernel, by decide +kernel⟩, gin 558 (by decide +kernel) rfl, gin 5 (by decide +kernel) rfl⟩
def mX0_carryOut : MT := (yX0_carryOut, cX0_carryOut, 4, none)
theorem imX0_carryOut : IMn mX0_carryOut 2 := ⟨⟨gin 71 (by decide +kernel) rfl, gin 641 (by decide +kernel) rfl, by decide +kernel, by decide +kernel, by decide +kernel⟩, gin 640 (by decide +kernel) rfl, gin 16 (by decide +kernel) rfl⟩
def mX0_fireRules : MT := (yX0_fireRules, cX0_fireRules, 8, (Option.some Jvm.ClassFile.FieldType.boolean))
theorem imX0_fireRules : IMn mX0_fireRules 3 := ⟨⟨gin 71 (by decide +kernel) rfl, gin 570 (by decide +kernel) rfl, by decide +kernel, by decide +kernel, by decide +kernel⟩, gin 569 (by decide +kernel) rfl, gin 7 (by decide +kernel) rfl⟩
def mX0_fire : MT := (yX0_fire, cX0_fire, 4, (Option.some Jvm.ClassFile.FieldType.boolean))
theorem imX0_fire : IMn mX0_fire 3 := ⟨⟨gin 71 (by decide +kernel) rfl, gin 595 (by decide +kernel) rfl, by decide +kernel, by decide +kernel, by decide +kernel⟩, gin 594 (by decide +kernel) rfl, gin 9 (by decide +kernel) rfl⟩
def mX0_cause : MT := (yX0_cause, cX0_cause, 5, none)
theorem imX0_cause : IMn mX0_cause 3 := ⟨⟨gin 71 (by decide +kernel) rfl, gin 615 (by decide +kernel) rfl, by decide +kernel, by decide +kernel, by decide +kernel⟩, gin 614 (by decide +kernel) rfl, gin 10 (by decide +kernel) rfl⟩
def mX0_isHeldBack : MT := (yX0_isHeldBack, cX0_isHeldBack, 2, (Option.some Jvm.ClassFile.FieldType.boolean))
theorem imX0_isHeldBack : IMn mX0_isHeldBack 1 := ⟨⟨gin 71 (by decide +kernel) rfl, gin 583 (by decide +kernel) rfl, by decide +kernel, by decide +kernel, by decide +kernel⟩, gin 582 (by decide +kernel) rfl, gin 8 (by decide +kernel) rfl⟩
def mX0_mark : MT := (yX0_mark, cX0_mark, 3, none)
theorem imX0_mark : IMn mX0_mark 2 := ⟨⟨gin 71 (by decide +kernel) rfl, gin 637 (by decide +kernel) rfl, by decide +kernel, by decide +kernel, by decide +kernel⟩, gin 636 (by decide +kernel) rfl, gin 15 (by decide +kernel) rfl⟩
def mX0_refuse : MT := (yX0_refuse, cX0_refuse, 3, none)
theorem imX0_refuse : IMn mX0_refuse 2 := ⟨⟨gin 71 (by decide +kernel) rfl, gin 563 (by decide +kernel) rfl, by decide +kernel, by decide +kernel, by decide +kernel⟩, gin 562 (by decide +kernel) rfl, gin 6 (by decide +kernel) rfl⟩
def mX1_init : MT := (yX1_init, cX1_init, 1, none)
theorem imX1_init : KMn mX1_init 0 := ⟨⟨gin 77 (by decide +kernel) rfl, gin 217 (by decide +kernel) rfl, by decide +kernel, by decide +kernel, by decide +kernel⟩, gin 216 (by decide +kernel) rfl, rfl, rfl⟩
def mX1_add : MT := (yX1_add, cX1_add, 4, none)
theorem imX1_add : IMn mX1_add 3 := ⟨⟨gin 77 (by decide +kernel) rfl, gin 599 (by decide +kernel) rfl, by decide +kernel, by decide +kernel, by decide +kernel⟩, gin 597 (by decide +kernel) rfl, gin 598 (by decide +kernel) rfl⟩
def mX1_tell : MT := (yX1_tell, cX1_tell, 3, (Option.some Jvm.ClassFile.FieldType.int))
theorem imX1_tell : IMn mX1_tell 2 := ⟨⟨gin 77 (by decide +kernel) rfl, gin 795 (by decide +kernel) rfl, by decide +kernel, by decide +kernel, by decide +kernel⟩, gin 793 (by decide +kernel) rfl, gin 794 (by decide +kernel) rfl⟩
def mX1_copyFrom : MT := (yX1_copyFrom, cX1_copyFrom, 2, none)
theorem imX1_copyFrom : IMn mX1_copyFrom 1 := ⟨⟨gin 77 (by decide +kernel) rfl, gin 480 (by decide +kernel) rfl, by decide +kernel, by decide +kernel, by decide +kernel⟩, gin 478 (by decide +kernel) rfl, gin 479 (by decide +kernel) rfl⟩
def mX2_init : MT := (yX2_init, cX2_init, 2, none)
theorem imX2_init : KMn mX2_init 0 := ⟨⟨gin 79 (by decide +kernel) rfl, gin 330 (by decide +kernel) rfl, by decide +kernel, by decide +kernel, by decide +kernel⟩, gin 329 (by decide +kernel) rfl, rfl, rfl⟩
def mX2_push : MT := (yX2_push, cX2_push, 3, none)
theorem imX2_push : IMn mX2_push 1 := ⟨⟨gin 79 (by decide +kernel) rfl, gin 433 (by decide +kernel) rfl, by decide +kernel, by decide +kernel, by decide +kernel⟩, gin 431 (by decide +kernel) rfl, gin 432 (by decide +kernel) rfl⟩
def mX2_popInto : MT := (yX2_popInto, cX2_popInto, 3, (Option.some Jvm.ClassFile.FieldType.boolean))
theorem imX2_popInto : IMn mX2_popInto 1 := ⟨⟨gin 79 (by decide +kernel) rfl, gin 750 (by decide +kernel) rfl, by decide +kernel, by decide +kernel, by decide +kernel⟩, gin 748 (by decide +kernel) rfl, gin 749 (by decide +kernel) rfl⟩
def mX2_dropOldest : MT := (yX2_dropOldest, cX2_dropOldest, 3, none)
theorem imX2_dropOldest : IMn mX2_dropOldest 0 := ⟨⟨gin 79 (by decide +kernel) rfl, gin 437 (by decide +kernel) rfl, by decide +kernel, by decide +kernel, by decide +kernel⟩, gin 436 (by decide +kernel) rfl, gin 0 (by decide +kernel) rfl⟩
def mX3_init : MT := (yX3_init, cX3_init, 3, none)
theorem imX3_init : KMn mX3_init 2 := ⟨⟨gin 78 (by decide +kernel) rfl, gin 280 (by decide +kernel) rfl, by decide +kernel, by decide +kernel, by decide +kernel⟩, gin 279 (by decide +kernel) rfl, rfl, rfl⟩
def mX4_init : MT := (yX4_init, cX4_init, 1, none)
theorem imX4_init : KMn mX4_init 0 := ⟨⟨gin 74 (by decide +kernel) rfl, gin 115 (by decide +kernel) rfl, by decide +kernel, by decide +kernel, by decide +kernel⟩, gin 114 (by decide +kernel) rfl, rfl, rfl⟩
def mX4_fill : MT := (yX4_fill, cX4_fill, 5, none)
theorem imX4_fill : IMn mX4_fill 4 := ⟨⟨gin 74 (by decide +kernel) rfl, gin 547 (by decide +kernel) rfl, by decide +kernel, by decide +kernel, by decide +kernel⟩, gin 545 (by decide +kernel) rfl, gin 546 (by decide +kernel) rfl⟩
def mX4_copyFrom : MT := (yX4_copyFrom, cX4_copyFrom, 2, none)
theorem imX4_copyFrom : IMn mX4_copyFrom 1 := ⟨⟨gin 74 (by decide +kernel) rfl, gin 453 (by decide +kernel) rfl, by decide +kernel, by decide +kernel, by decide +kernel⟩, gin 451 (by decide +kernel) rfl, gin 452 (by decide +kernel) rfl⟩
def mX4_valueOf : MT := (yX4_valueOf, cX4_valueOf, 2, (Option.some Jvm.ClassFile.FieldType.int))
theorem imX4_valueOf : IMn mX4_valueOf 1 := ⟨⟨gin 74 (by decide +kernel) rfl, gin 591 (by decide +kernel) rfl, by decide +kernel, by decide +kernel, by decide +kernel⟩, gin 589 (by decide +kernel) rfl, gin 590 (by decide +kernel) rfl⟩
def mX4_change : MT := (yX4_change, cX4_change, 3, none)
theorem imX4_change : IMn mX4_change 2 := ⟨⟨gin 74 (by decide +kernel) rfl, gin 611 (by decide +kernel) rfl, by decide +kernel, by decide +kernel, by decide +kernel⟩, gin 609 (by decide +kernel) rfl, gin 610 (by decide +kernel) rfl⟩
def mX5_init : MT := (yX5_init, cX5_init, 1, none)
theorem imX5_init : KMn mX5_init 0 := ⟨⟨gin 76 (by decide +kernel) rfl, gin 153 (by decide +kernel) rfl, by decide +kernel, by decide +kernel, by decide +kernel⟩, gin 152 (by decide +kernel) rfl, rfl, rfl⟩
def mX5_define : MT := (yX5_define, cX5_define, 8, none)
theorem imX5_define : IMn mX5_define 7 := ⟨⟨gin 76 (by decide +kernel) rfl, gin 469 (by decide +kernel) rfl, by decide +kernel, by decide +kernel, by decide +kernel⟩, gin 467 (by decide +kernel) rfl, gin 468 (by decide +kernel) rfl⟩
def mX5_demand : MT := (yX5_demand, cX5_demand, 4, none)
theorem imX5_demand : IMn mX5_demand 3 := ⟨⟨gin 76 (by decide +kernel) rfl, gin 473 (by decide +kernel) rfl, by decide +kernel, by decide +kernel, by decide +kernel⟩, gin 471 (by decide +kernel) rfl, gin 472 (by decide +kernel) rfl⟩
def mX5_copyFrom : MT := (yX5_copyFrom, cX5_copyFrom, 2, none)
theorem imX5_copyFrom : IMn mX5_copyFrom 1 := ⟨⟨gin 76 (by decide +kernel) rfl, gin 465 (by decide +kernel) rfl, by decide +kernel, by decide +kernel, by decide +kernel⟩, gin 463 (by decide +kernel) rfl, gin 464 (by decide +kernel) rfl⟩
def mX5_isFor : MT := (yX5_isFor, cX5_isFor, 3, (Option.some Jvm.ClassFile.FieldType.boolean))
theorem imX5_isFor : IMn mX5_isFor 2 := ⟨⟨gin 76 (by decide +kernel) rfl, gin 579 (by decide +kernel) rfl, by decide +kernel, by decide +kernel, by decide +kernel⟩, gin 577 (by decide +kernel) rfl, gin 578 (by decide +kernel) rfl⟩
def mX5_holdsFor : MT := (yX5_holdsFor, cX5_holdsFor, 3, (Option.some Jvm.ClassFile.FieldType.boolean))
theorem imX5_holdsFor : IMn mX5_holdsFor 1 := ⟨⟨gin 76 (by decide +kernel) rfl, gin 587 (by decide +kernel) rfl, by decide +kernel, by decide +kernel, by decide +kernel⟩, gin 585 (by decide +kernel) rfl, gin 586 (by decide +kernel) rfl⟩
def mX5_valueFor : MT := (yX5_valueFor, cX5_valueFor, 2, (Option.some Jvm.ClassFile.FieldType.int))
theorem imX5_valueFor : IMn mX5_valueFor 1 := ⟨⟨gin 76 (by decide +kernel) rfl, gin 603 (by decide +kernel) rfl, by decide +kernel, by decide +kernel, by decide +kernel⟩, gin 601 (by decide +kernel) rfl, gin 602 (by decide +kernel) rfl⟩
def mX5_tell : MT := (yX5_tell, cX5_tell, 2, (Option.some Jvm.ClassFile.FieldType.int))
theorem imX5_tell : IMn mX5_tell 1 := ⟨⟨gin 76 (by decide +kernel) rfl, gin 777 (by decide +kernel) rfl, by decide +kernel, by decide +kernel, by decide +kernel⟩, gin 775 (by decide +kernel) rfl, gin 776 (by decide +kernel) rfl⟩
def mX6_init : MT := (yX6_init, cX6_init, 2, none)
theorem imX6_init : KMn mX6_init 0 := ⟨⟨gin 75 (by decide +kernel) rfl, gin 146 (by decide +kernel) rfl, by decide +kernel, by decide +kernel, by decide +kernel⟩, gin 145 (by decide +kernel) rfl, rfl, rfl⟩
def mX6_ruleOf : MT := (yX6_ruleOf, cX6_ruleOf, 2, (Option.some (Jvm.ClassFile.FieldType.object "RuleDepths$Rule")))
theorem imX6_ruleOf : IMn mX6_ruleOf 1 := ⟨⟨gin 75 (by decide +kernel) rfl, gin 461 (by decide +kernel) rfl, by decide +kernel, by decide +kernel, by decide +kernel⟩, gin 459 (by decide +kernel) rfl, gin 460 (by decide +kernel) rfl⟩
def mX6_numberAt : MT := (yX6_numberAt, cX6_numberAt, 2, (Option.some Jvm.ClassFile.FieldType.int))
theorem imX6_numberAt : IMn mX6_numberAt 1 := ⟨⟨gin 75 (by decide +kernel) rfl, gin 574 (by decide +kernel) rfl, by decide +kernel, by decide +kernel, by decide +kernel⟩, gin 572 (by decide +kernel) rfl, gin 573 (by decide +kernel) rfl⟩
def mX6_numberAmong : MT := (yX6_numberAmong, cX6_numberAmong, 8, (Option.some Jvm.ClassFile.FieldType.int))
theorem imX6_numberAmong : IMn mX6_numberAmong 3 := ⟨⟨gin 75 (by decide +kernel) rfl, gin 785 (by decide +kernel) rfl, by decide +kernel, by decide +kernel, by decide +kernel⟩, gin 783 (by decide +kernel) rfl, gin 784 (by decide +kernel) rfl⟩
def mX6_countOn : MT := (yX6_countOn, cX6_countOn, 4, (Option.some Jvm.ClassFile.FieldType.int))
theorem imX6_countOn : IMn mX6_countOn 0 := ⟨⟨gin 75 (by decide +kernel) rfl, gin 508 (by decide +kernel) rfl, by decide +kernel, by decide +kernel, by decide +kernel⟩, gin 506 (by decide +kernel) rfl, gin 507 (by decide +kernel) rfl⟩
def mX6_spare : MT := (yX6_spare, cX6_spare, 1, (Option.some (Jvm.ClassFile.FieldType.object "RuleDepths$Rule")))
theorem imX6_spare : IMn mX6_spare 0 := ⟨⟨gin 75 (by decide +kernel) rfl, gin 429 (by decide +kernel) rfl, by decide +kernel, by decide +kernel, by decide +kernel⟩, gin 427 (by decide +kernel) rfl, gin 428 (by decide +kernel) rfl⟩
def mX6_takeSpare : MT := (yX6_takeSpare, cX6_takeSpare, 1, (Option.some Jvm.ClassFile.FieldType.int))
theorem imX6_takeSpare : IMn mX6_takeSpare 0 := ⟨⟨gin 75 (by decide +kernel) rfl, gin 486 (by decide +kernel) rfl, by decide +kernel, by decide +kernel, by decide +kernel⟩, gin 484 (by decide +kernel) rfl, gin 485 (by decide +kernel) rfl⟩
def mX6_drop : MT := (yX6_drop, cX6_drop, 4, none)
theorem imX6_drop : IMn mX6_drop 1 := ⟨⟨gin 75 (by decide +kernel) rfl, gin 516 (by decide +kernel) rfl, by decide +kernel, by decide +kernel, by decide +kernel⟩, gin 514 (by decide +kernel) rfl, gin 515 (by decide +kernel) rfl⟩
def mX6_sortByRank : MT := (yX6_sortByRank, cX6_sortByRank, 3, none)
theorem imX6_sortByRank : IMn mX6_sortByRank 0 := ⟨⟨gin 75 (by decide +kernel) rfl, gin 490 (by decide +kernel) rfl, by decide +kernel, by decide +kernel, by decide +kernel⟩, gin 489 (by decide +kernel) rfl, gin 1 (by decide +kernel) rfl⟩
def mX6_rankOf : MT := (yX6_rankOf, cX6_rankOf, 3, (Option.some Jvm.ClassFile.FieldType.int))
theorem imX6_rankOf : IMn mX6_rankOf 1 := ⟨⟨gin 75 (by decide +kernel) rfl, gin 494 (by decide +kernel) rfl, by decide +kernel, by decide +kernel, by decide +kernel⟩, gin 493 (by decide +kernel) rfl, gin 2 (by decide +kernel) rfl⟩
def mX6_copyFrom : MT := (yX6_copyFrom, cX6_copyFrom, 5, none)
theorem imX6_copyFrom : IMn mX6_copyFrom 1 := ⟨⟨gin 75 (by decide +kernel) rfl, gin 457 (by decide +kernel) rfl, by decide +kernel, by decide +kernel, by decide +kernel⟩, gin 455 (by decide +kernel) rfl, gin 456 (by decide +kernel) rfl⟩
def mX7_init : MT := (yX7_init, cX7_init, 1, none)
theorem imX7_init : KMn mX7_init 0 := ⟨⟨gin 72 (by decide +kernel) rfl, gin 102 (by decide +kernel) rfl, by decide +kernel, by decide +kernel, by decide +kernel⟩, gin 101 (by decide +kernel) rfl, rfl, rfl⟩
def mX7_copyFrom : MT := (yX7_copyFrom, cX7_copyFrom, 2, none)
theorem imX7_copyFrom : IMn mX7_copyFrom 1 := ⟨⟨gin 72 (by decide +kernel) rfl, gin 441 (by decide +kernel) rfl, by decide +kernel, by decide +kernel, by decide +kernel⟩, gin 439 (by decide +kernel) rfl, gin 440 (by decide +kernel) rfl⟩
def mX7_tell : MT := (yX7_tell, cX7_tell, 2, (Option.some Jvm.ClassFile.FieldType.int))
theorem imX7_tell : IMn mX7_tell 1 := ⟨⟨gin 72 (by decide +kernel) rfl, gin 803 (by decide +kernel) rfl, by decide +kernel, by decide +kernel, by decide +kernel⟩, gin 801 (by decide +kernel) rfl, gin 802 (by decide +kernel) rfl⟩
def mX8_init : MT := (yX8_init, cX8_init, 2, none)
theorem imX8_init : KMn mX8_init 0 := ⟨⟨gin 73 (by decide +kernel) rfl, gin 108 (by decide +kernel) rfl, by decide +kernel, by decide +kernel, by decide +kernel⟩, gin 107 (by decide +kernel) rfl, rfl, rfl⟩
def mX8_isFull : MT := (yX8_isFull, cX8_isFull, 1, (Option.some Jvm.ClassFile.FieldType.boolean))
theorem imX8_isFull : IMn mX8_isFull 0 := ⟨⟨gin 73 (by decide +kernel) rfl, gin 543 (by decide +kernel) rfl, by decide +kernel, by decide +kernel, by decide +kernel⟩, gin 541 (by decide +kernel) rfl, gin 542 (by decide +kernel) rfl⟩
def mX8_rowAt : MT := (yX8_rowAt, cX8_rowAt, 2, (Option.some (Jvm.ClassFile.FieldType.object "RuleDepths$Row")))
theorem imX8_rowAt : IMn mX8_rowAt 1 := ⟨⟨gin 73 (by decide +kernel) rfl, gin 449 (by decide +kernel) rfl, by decide +kernel, by decide +kernel, by decide +kernel⟩, gin 447 (by decide +kernel) rfl, gin 448 (by decide +kernel) rfl⟩
def mX8_rowOf : MT := (yX8_rowOf, cX8_rowOf, 4, (Option.some (Jvm.ClassFile.FieldType.object "RuleDepths$Row")))
theorem imX8_rowOf : IMn mX8_rowOf 1 := ⟨⟨gin 73 (by decide +kernel) rfl, gin 539 (by decide +kernel) rfl, by decide +kernel, by decide +kernel, by decide +kernel⟩, gin 537 (by decide +kernel) rfl, gin 538 (by decide +kernel) rfl⟩
def mX8_take : MT := (yX8_take, cX8_take, 5, none)
theorem imX8_take : IMn mX8_take 1 := ⟨⟨gin 73 (by decide +kernel) rfl, gin 645 (by decide +kernel) rfl, by decide +kernel, by decide +kernel, by decide +kernel⟩, gin 643 (by decide +kernel) rfl, gin 644 (by decide +kernel) rfl⟩
def mX8_drop : MT := (yX8_drop, cX8_drop, 5, none)
theorem imX8_drop : IMn mX8_drop 1 := ⟨⟨gin 73 (by decide +kernel) rfl, gin 649 (by decide +kernel) rfl, by decide +kernel, by decide +kernel, by decide +kernel⟩, gin 647 (by decide +kernel) rfl, gin 648 (by decide +kernel) rfl⟩
def mX8_copyFrom : MT := (yX8_copyFrom, cX8_copyFrom, 5, none)
theorem imX8_copyFrom : IMn mX8_copyFrom 1 := ⟨⟨gin 73 (by decide +kernel) rfl, gin 445 (by decide +kernel) rfl, by decide +kernel, by decide +kernel, by decide +kernel⟩, gin 443 (by decide +kernel) rfl, gin 444 (by decide +kernel) rfl⟩
def mX9_init : MT := (yX9_init, cX9_init, 1, none)
theorem imX9_init : KMn mX9_init 0 := ⟨⟨gin 80 (by decide +kernel) rfl, gin 347 (by decide +kernel) rfl, by decide +kernel, by decide +kernel, by decide +kernel⟩, gin 346 (by decide +kernel) rfl, rfl, rfl⟩
def mX9_append : MT := (yX9_append, cX9_append, 2, (Option.some Jvm.ClassFile.FieldType.boolean))
theorem imX9_append : IMn mX9_append 1 := ⟨⟨gin 80 (by decide +kernel) rfl, gin 685 (by decide +kernel) rfl, by decide +kernel, by decide +kernel, by decide +kernel⟩, gin 683 (by decide +kernel) rfl, gin 684 (by decide +kernel) rfl⟩
def mX9_rewind : MT := (yX9_rewind, cX9_rewind, 1, none)
theorem imX9_rewind : IMn mX9_rewind 0 := ⟨⟨gin 80 (by decide +kernel) rfl, gin 701 (by decide +kernel) rfl, by decide +kernel, by decide +kernel, by decide +kernel⟩, gin 699 (by decide +kernel) rfl, gin 700 (by decide +kernel) rfl⟩
def mX9_countStatements : MT := (yX9_countStatements, cX9_countStatements, 2, (Option.some Jvm.ClassFile.FieldType.int))
theorem imX9_countStatements : IMn mX9_countStatements 0 := ⟨⟨gin 80 (by decide +kernel) rfl, gin 697 (by decide +kernel) rfl, by decide +kernel, by decide +kernel, by decide +kernel⟩, gin 695 (by decide +kernel) rfl, gin 696 (by decide +kernel) rfl⟩
def mX9_readStatement : MT := (yX9_readStatement, cX9_readStatement, 1, none)
theorem imX9_readStatement : IMn mX9_readStatement 0 := ⟨⟨gin 80 (by decide +kernel) rfl, gin 705 (by decide +kernel) rfl, by decide +kernel, by decide +kernel, by decide +kernel⟩, gin 703 (by decide +kernel) rfl, gin 704 (by decide +kernel) rfl⟩
def mX9_readInsert : MT := (yX9_readInsert, cX9_readInsert, 1, none)
theorem imX9_readInsert : IMn mX9_readInsert 0 := ⟨⟨gin 80 (by decide +kernel) rfl, gin 717 (by decide +kernel) rfl, by decide +kernel, by decide +kernel, by decide +kernel⟩, gin 716 (by decide +kernel) rfl, gin 20 (by decide +kernel) rfl⟩
def mX9_readUpdate : MT := (yX9_readUpdate, cX9_readUpdate, 1, none)
theorem imX9_readUpdate : IMn mX9_readUpdate 0 := ⟨⟨gin 80 (by decide +kernel) rfl, gin 736 (by decide +kernel) rfl, by decide +kernel, by decide +kernel, by decide +kernel⟩, gin 735 (by decide +kernel) rfl, gin 24 (by decide +kernel) rfl⟩
def mX9_readValue : MT := (yX9_readValue, cX9_readValue, 1, (Option.some Jvm.ClassFile.FieldType.int))
theorem imX9_readValue : IMn mX9_readValue 0 := ⟨⟨gin 80 (by decide +kernel) rfl, gin 732 (by decide +kernel) rfl, by decide +kernel, by decide +kernel, by decide +kernel⟩, gin 731 (by decide +kernel) rfl, gin 23 (by decide +kernel) rfl⟩
def mX9_readNumber : MT := (yX9_readNumber, cX9_readNumber, 4, (Option.some Jvm.ClassFile.FieldType.int))
theorem imX9_readNumber : IMn mX9_readNumber 1 := ⟨⟨gin 80 (by decide +kernel) rfl, gin 721 (by decide +kernel) rfl, by decide +kernel, by decide +kernel, by decide +kernel⟩, gin 720 (by decide +kernel) rfl, gin 21 (by decide +kernel) rfl⟩
def mX9_readDigit : MT := (yX9_readDigit, cX9_readDigit, 3, (Option.some Jvm.ClassFile.FieldType.int))
theorem imX9_readDigit : IMn mX9_readDigit 1 := ⟨⟨gin 80 (by decide +kernel) rfl, gin 725 (by decide +kernel) rfl, by decide +kernel, by decide +kernel, by decide +kernel⟩, gin 724 (by decide +kernel) rfl, gin 22 (by decide +kernel) rfl⟩
def mX9_isDigit : MT := (yX9_isDigit, cX9_isDigit, 2, (Option.some Jvm.ClassFile.FieldType.boolean))
theorem imX9_isDigit : SMn mX9_isDigit 2 := ⟨⟨gin 80 (by decide +kernel) rfl, gin 728 (by decide +kernel) rfl, by decide +kernel, by decide +kernel, by decide +kernel⟩, gin 727 (by decide +kernel) rfl⟩
def mX9_pass : MT := (yX9_pass, cX9_pass, 2, none)
theorem imX9_pass : IMn mX9_pass 1 := ⟨⟨gin 80 (by decide +kernel) rfl, gin 709 (by decide +kernel) rfl, by decide +kernel, by decide +kernel, by decide +kernel⟩, gin 708 (by decide +kernel) rfl, gin 18 (by decide +kernel) rfl⟩
def mX9_here : MT := (yX9_here, cX9_here, 1, (Option.some Jvm.ClassFile.FieldType.int))
theorem imX9_here : IMn mX9_here 0 := ⟨⟨gin 80 (by decide +kernel) rfl, gin 713 (by decide +kernel) rfl, by decide +kernel, by decide +kernel, by decide +kernel⟩, gin 712 (by decide +kernel) rfl, gin 19 (by decide +kernel) rfl⟩
def mX10_init : MT := (yX10_init, cX10_init, 1, none)
theorem imX10_init : KMn mX10_init 0 := ⟨⟨gin 70 (by decide +kernel) rfl, gin 88 (by decide +kernel) rfl, by decide +kernel, by decide +kernel, by decide +kernel⟩, gin 87 (by decide +kernel) rfl, rfl, rfl⟩
def mX10_addRule : MT := (yX10_addRule, cX10_addRule, 10, (Option.some Jvm.ClassFile.FieldType.int))
theorem imX10_addRule : IMn mX10_addRule 7 := ⟨⟨gin 70 (by decide +kernel) rfl, gin 410 (by decide +kernel) rfl, by decide +kernel, by decide +kernel, by decide +kernel⟩, gin 408 (by decide +kernel) rfl, gin 409 (by decide +kernel) rfl⟩
def mX10_setCondition : MT := (yX10_setCondition, cX10_setCondition, 6, (Option.some Jvm.ClassFile.FieldType.int))
theorem imX10_setCondition : IMn mX10_setCondition 4 := ⟨⟨gin 70 (by decide +kernel) rfl, gin 498 (by decide +kernel) rfl, by decide +kernel, by decide +kernel, by decide +kernel⟩, gin 496 (by decide +kernel) rfl, gin 497 (by decide +kernel) rfl⟩
def mX10_put : MT := (yX10_put, cX10_put, 4, (Option.some Jvm.ClassFile.FieldType.int))
theorem imX10_put : IMn mX10_put 2 := ⟨⟨gin 70 (by decide +kernel) rfl, gin 504 (by decide +kernel) rfl, by decide +kernel, by decide +kernel, by decide +kernel⟩, gin 502 (by decide +kernel) rfl, gin 503 (by decide +kernel) rfl⟩
def mX10_removeRule : MT := (yX10_removeRule, cX10_removeRule, 3, (Option.some Jvm.ClassFile.FieldType.int))
theorem imX10_removeRule : IMn mX10_removeRule 1 := ⟨⟨gin 70 (by decide +kernel) rfl, gin 512 (by decide +kernel) rfl, by decide +kernel, by decide +kernel, by decide +kernel⟩, gin 510 (by decide +kernel) rfl, gin 511 (by decide +kernel) rfl⟩
def mX10_set : MT := (yX10_set, cX10_set, 6, (Option.some Jvm.ClassFile.FieldType.int))
theorem imX10_set : IMn mX10_set 2 := ⟨⟨gin 70 (by decide +kernel) rfl, gin 520 (by decide +kernel) rfl, by decide +kernel, by decide +kernel, by decide +kernel⟩, gin 518 (by decide +kernel) rfl, gin 519 (by decide +kernel) rfl⟩
def mX10_insert : MT := (yX10_insert, cX10_insert, 5, (Option.some Jvm.ClassFile.FieldType.int))
theorem imX10_insert : IMn mX10_insert 4 := ⟨⟨gin 70 (by decide +kernel) rfl, gin 524 (by decide +kernel) rfl, by decide +kernel, by decide +kernel, by decide +kernel⟩, gin 522 (by decide +kernel) rfl, gin 523 (by decide +kernel) rfl⟩
def mX10_update : MT := (yX10_update, cX10_update, 4, (Option.some Jvm.ClassFile.FieldType.int))
theorem imX10_update : IMn mX10_update 3 := ⟨⟨gin 70 (by decide +kernel) rfl, gin 657 (by decide +kernel) rfl, by decide +kernel, by decide +kernel, by decide +kernel⟩, gin 655 (by decide +kernel) rfl, gin 656 (by decide +kernel) rfl⟩
def mX10_delete : MT := (yX10_delete, cX10_delete, 2, (Option.some Jvm.ClassFile.FieldType.int))
theorem imX10_delete : IMn mX10_delete 1 := ⟨⟨gin 70 (by decide +kernel) rfl, gin 669 (by decide +kernel) rfl, by decide +kernel, by decide +kernel, by decide +kernel⟩, gin 667 (by decide +kernel) rfl, gin 668 (by decide +kernel) rfl⟩
def mX10_type : MT := (yX10_type, cX10_type, 2, (Option.some Jvm.ClassFile.FieldType.int))
theorem imX10_type : IMn mX10_type 1 := ⟨⟨gin 70 (by decide +kernel) rfl, gin 681 (by decide +kernel) rfl, by decide +kernel, by decide +kernel, by decide +kernel⟩, gin 679 (by decide +kernel) rfl, gin 680 (by decide +kernel) rfl⟩
def mX10_clearText : MT := (yX10_clearText, cX10_clearText, 2, (Option.some Jvm.ClassFile.FieldType.int))
theorem imX10_clearText : IMn mX10_clearText 0 := ⟨⟨gin 70 (by decide +kernel) rfl, gin 689 (by decide +kernel) rfl, by decide +kernel, by decide +kernel, by decide +kernel⟩, gin 687 (by decide +kernel) rfl, gin 688 (by decide +kernel) rfl⟩
def mX10_perform : MT := (yX10_perform, cX10_perform, 4, (Option.some Jvm.ClassFile.FieldType.int))
theorem imX10_perform : IMn mX10_perform 0 := ⟨⟨gin 70 (by decide +kernel) rfl, gin 693 (by decide +kernel) rfl, by decide +kernel, by decide +kernel, by decide +kernel⟩, gin 691 (by decide +kernel) rfl, gin 692 (by decide +kernel) rfl⟩
def mX10_undo : MT := (yX10_undo, cX10_undo, 1, (Option.some Jvm.ClassFile.FieldType.int))
theorem imX10_undo : IMn mX10_undo 0 := ⟨⟨gin 70 (by decide +kernel) rfl, gin 746 (by decide +kernel) rfl, by decide +kernel, by decide +kernel, by decide +kernel⟩, gin 744 (by decide +kernel) rfl, gin 745 (by decide +kernel) rfl⟩
def mX10_keep : MT := (yX10_keep, cX10_keep, 1, (Option.some Jvm.ClassFile.FieldType.int))
theorem imX10_keep : IMn mX10_keep 0 := ⟨⟨gin 70 (by decide +kernel) rfl, gin 754 (by decide +kernel) rfl, by decide +kernel, by decide +kernel, by decide +kernel⟩, gin 752 (by decide +kernel) rfl, gin 753 (by decide +kernel) rfl⟩
def mX10_restore : MT := (yX10_restore, cX10_restore, 1, (Option.some Jvm.ClassFile.FieldType.int))
theorem imX10_restore : IMn mX10_restore 0 := ⟨⟨gin 70 (by decide +kernel) rfl, gin 758 (by decide +kernel) rfl, by decide +kernel, by decide +kernel, by decide +kernel⟩, gin 756 (by decide +kernel) rfl, gin 757 (by decide +kernel) rfl⟩
def mX10_field : MT := (yX10_field, cX10_field, 4, (Option.some Jvm.ClassFile.FieldType.int))
theorem imX10_field : IMn mX10_field 2 := ⟨⟨gin 70 (by decide +kernel) rfl, gin 762 (by decide +kernel) rfl, by decide +kernel, by decide +kernel, by decide +kernel⟩, gin 760 (by decide +kernel) rfl, gin 761 (by decide +kernel) rfl⟩
def mX10_keyAt : MT := (yX10_keyAt, cX10_keyAt, 3, (Option.some Jvm.ClassFile.FieldType.int))
theorem imX10_keyAt : IMn mX10_keyAt 1 := ⟨⟨gin 70 (by decide +kernel) rfl, gin 768 (by decide +kernel) rfl, by decide +kernel, by decide +kernel, by decide +kernel⟩, gin 766 (by decide +kernel) rfl, gin 767 (by decide +kernel) rfl⟩
def mX10_rule : MT := (yX10_rule, cX10_rule, 4, (Option.some Jvm.ClassFile.FieldType.int))
theorem imX10_rule : IMn mX10_rule 2 := ⟨⟨gin 70 (by decide +kernel) rfl, gin 773 (by decide +kernel) rfl, by decide +kernel, by decide +kernel, by decide +kernel⟩, gin 771 (by decide +kernel) rfl, gin 772 (by decide +kernel) rfl⟩
def mX10_order : MT := (yX10_order, cX10_order, 4, (Option.some Jvm.ClassFile.FieldType.int))
theorem imX10_order : IMn mX10_order 3 := ⟨⟨gin 70 (by decide +kernel) rfl, gin 781 (by decide +kernel) rfl, by decide +kernel, by decide +kernel, by decide +kernel⟩, gin 779 (by decide +kernel) rfl, gin 780 (by decide +kernel) rfl⟩
def mX10_firing : MT := (yX10_firing, cX10_firing, 3, (Option.some Jvm.ClassFile.FieldType.int))
theorem imX10_firing : IMn mX10_firing 2 := ⟨⟨gin 70 (by decide +kernel) rfl, gin 791 (by decide +kernel) rfl, by decide +kernel, by decide +kernel, by decide +kernel⟩, gin 789 (by decide +kernel) rfl, gin 790 (by decide +kernel) rfl⟩
def mX10_total : MT := (yX10_total, cX10_total, 2, (Option.some Jvm.ClassFile.FieldType.int))
theorem imX10_total : IMn mX10_total 1 := ⟨⟨gin 70 (by decide +kernel) rfl, gin 799 (by decide +kernel) rfl, by decide +kernel, by decide +kernel, by decide +kernel⟩, gin 797 (by decide +kernel) rfl, gin 798 (by decide +kernel) rfl⟩
def mX10_ifInserted : MT := (yX10_ifInserted, cX10_ifInserted, 7, (Option.some Jvm.ClassFile.FieldType.int))
theorem imX10_ifInserted : IMn mX10_ifInserted 5 := ⟨⟨gin 70 (by decide +kernel) rfl, gin 808 (by decide +kernel) rfl, by decide +kernel, by decide +kernel, by decide +kernel⟩, gin 806 (by decide +kernel) rfl, gin 807 (by decide +kernel) rfl⟩
def mX10_ifUpdated : MT := (yX10_ifUpdated, cX10_ifUpdated, 6, (Option.some Jvm.ClassFile.FieldType.int))
theorem imX10_ifUpdated : IMn mX10_ifUpdated 4 := ⟨⟨gin 70 (by decide +kernel) rfl, gin 820 (by decide +kernel) rfl, by decide +kernel, by decide +kernel, by decide +kernel⟩, gin 818 (by decide +kernel) rfl, gin 819 (by decide +kernel) rfl⟩
def mX10_ifDeleted : MT := (yX10_ifDeleted, cX10_ifDeleted, 4, (Option.some Jvm.ClassFile.FieldType.int))
theorem imX10_ifDeleted : IMn mX10_ifDeleted 2 := ⟨⟨gin 70 (by decide +kernel) rfl, gin 825 (by decide +kernel) rfl, by decide +kernel, by decide +kernel, by decide +kernel⟩, gin 823 (by decide +kernel) rfl, gin 824 (by decide +kernel) rfl⟩
def mX10_depthFor : MT := (yX10_depthFor, cX10_depthFor, 7, (Option.some Jvm.ClassFile.FieldType.int))
theorem imX10_depthFor : IMn mX10_depthFor 3 := ⟨⟨gin 70 (by decide +kernel) rfl, gin 830 (by decide +kernel) rfl, by decide +kernel, by decide +kernel, by decide +kernel⟩, gin 828 (by decide +kernel) rfl, gin 829 (by decide +kernel) rfl⟩
def mX10_settle : MT := (yX10_settle, cX10_settle, 2, (Option.some Jvm.ClassFile.FieldType.int))
theorem imX10_settle : IMn mX10_settle 1 := ⟨⟨gin 70 (by decide +kernel) rfl, gin 653 (by decide +kernel) rfl, by decide +kernel, by decide +kernel, by decide +kernel⟩, gin 652 (by decide +kernel) rfl, gin 17 (by decide +kernel) rfl⟩
def mX10_performStatement : MT := (yX10_performStatement, cX10_performStatement, 1, (Option.some Jvm.ClassFile.FieldType.int))
theorem imX10_performStatement : IMn mX10_performStatement 0 := ⟨⟨gin 70 (by decide +kernel) rfl, gin 742 (by decide +kernel) rfl, by decide +kernel, by decide +kernel, by decide +kernel⟩, gin 741 (by decide +kernel) rfl, gin 25 (by decide +kernel) rfl⟩
def mX10_isReport : MT := (yX10_isReport, cX10_isReport, 1, (Option.some Jvm.ClassFile.FieldType.boolean))
theorem imX10_isReport : SMn mX10_isReport 1 := ⟨⟨gin 70 (by decide +kernel) rfl, gin 812 (by decide +kernel) rfl, by decide +kernel, by decide +kernel, by decide +kernel⟩, gin 811 (by decide +kernel) rfl⟩
def mX10_isEvent : MT := (yX10_isEvent, cX10_isEvent, 1, (Option.some Jvm.ClassFile.FieldType.boolean))
theorem imX10_isEvent : SMn mX10_isEvent 1 := ⟨⟨gin 70 (by decide +kernel) rfl, gin 413 (by decide +kernel) rfl, by decide +kernel, by decide +kernel, by decide +kernel⟩, gin 412 (by decide +kernel) rfl⟩
def mX10_isMoment : MT := (yX10_isMoment, cX10_isMoment, 1, (Option.some Jvm.ClassFile.FieldType.boolean))
theorem imX10_isMoment : SMn mX10_isMoment 1 := ⟨⟨gin 70 (by decide +kernel) rfl, gin 419 (by decide +kernel) rfl, by decide +kernel, by decide +kernel, by decide +kernel⟩, gin 418 (by decide +kernel) rfl⟩
def mX10_isKindFor : MT := (yX10_isKindFor, cX10_isKindFor, 2, (Option.some Jvm.ClassFile.FieldType.boolean))
theorem imX10_isKindFor : SMn mX10_isKindFor 2 := ⟨⟨gin 70 (by decide +kernel) rfl, gin 422 (by decide +kernel) rfl, by decide +kernel, by decide +kernel, by decide +kernel⟩, gin 421 (by decide +kernel) rfl⟩
def mX10_isValue : MT := (yX10_isValue, cX10_isValue, 1, (Option.some Jvm.ClassFile.FieldType.boolean))
theorem imX10_isValue : SMn mX10_isValue 1 := ⟨⟨gin 70 (by decide +kernel) rfl, gin 425 (by decide +kernel) rfl, by decide +kernel, by decide +kernel, by decide +kernel⟩, gin 424 (by decide +kernel) rfl⟩
def mX10_within : MT := (yX10_within, cX10_within, 3, (Option.some Jvm.ClassFile.FieldType.boolean))
theorem imX10_within : SMn mX10_within 3 := ⟨⟨gin 70 (by decide +kernel) rfl, gin 416 (by decide +kernel) rfl, by decide +kernel, by decide +kernel, by decide +kernel⟩, gin 415 (by decide +kernel) rfl⟩
def mX11_init : MT := (yX11_init, cX11_init, 1, none)
theorem imX11_init : KMn mX11_init 0 := ⟨⟨gin 81 (by decide +kernel) rfl, gin 835 (by decide +kernel) rfl, by decide +kernel, by decide +kernel, by decide +kernel⟩, gin 834 (by decide +kernel) rfl, rfl, rfl⟩
def mX11_in : MT := (yX11_in, cX11_in, 3, (Option.some Jvm.ClassFile.FieldType.boolean))
theorem imX11_in : SMn mX11_in 3 := ⟨⟨gin 81 (by decide +kernel) rfl, gin 890 (by decide +kernel) rfl, by decide +kernel, by decide +kernel, by decide +kernel⟩, gin 889 (by decide +kernel) rfl⟩
def mX11_isKey : MT := (yX11_isKey, cX11_isKey, 1, (Option.some Jvm.ClassFile.FieldType.boolean))
theorem imX11_isKey : SMn mX11_isKey 1 := ⟨⟨gin 81 (by decide +kernel) rfl, gin 887 (by decide +kernel) rfl, by decide +kernel, by decide +kernel, by decide +kernel⟩, gin 886 (by decide +kernel) rfl⟩
def mX11_isValue : MT := (yX11_isValue, cX11_isValue, 1, (Option.some Jvm.ClassFile.FieldType.boolean))
theorem imX11_isValue : SMn mX11_isValue 1 := ⟨⟨gin 81 (by decide +kernel) rfl, gin 893 (by decide +kernel) rfl, by decide +kernel, by decide +kernel, by decide +kernel⟩, gin 892 (by decide +kernel) rfl⟩
def mX11_isRule : MT := (yX11_isRule, cX11_isRule, 2, (Option.some Jvm.ClassFile.FieldType.boolean))
theorem imX11_isRule : IMn mX11_isRule 1 := ⟨⟨gin 81 (by decide +kernel) rfl, gin 1027 (by decide +kernel) rfl, by decide +kernel, by decide +kernel, by decide +kernel⟩, gin 1026 (by decide +kernel) rfl, gin 54 (by decide +kernel) rfl⟩
def mX11_copies : MT := (yX11_copies, cX11_copies, 4, none)
theorem imX11_copies : IMn mX11_copies 2 := ⟨⟨gin 81 (by decide +kernel) rfl, gin 905 (by decide +kernel) rfl, by decide +kernel, by decide +kernel, by decide +kernel⟩, gin 904 (by decide +kernel) rfl, gin 29 (by decide +kernel) rfl⟩
def mX11_remembers : MT := (yX11_remembers, cX11_remembers, 2, none)
theorem imX11_remembers : IMn mX11_remembers 0 := ⟨⟨gin 81 (by decide +kernel) rfl, gin 991 (by decide +kernel) rfl, by decide +kernel, by decide +kernel, by decide +kernel⟩, gin 990 (by decide +kernel) rfl, gin 49 (by decide +kernel) rfl⟩
def mX11_lays : MT := (yX11_lays, cX11_lays, 1, none)
theorem imX11_lays : IMn mX11_lays 0 := ⟨⟨gin 81 (by decide +kernel) rfl, gin 987 (by decide +kernel) rfl, by decide +kernel, by decide +kernel, by decide +kernel⟩, gin 986 (by decide +kernel) rfl, gin 48 (by decide +kernel) rfl⟩
def mX11_rowOf : MT := (yX11_rowOf, cX11_rowOf, 4, (Option.some Jvm.ClassFile.FieldType.int))
theorem imX11_rowOf : IMn mX11_rowOf 2 := ⟨⟨gin 81 (by decide +kernel) rfl, gin 901 (by decide +kernel) rfl, by decide +kernel, by decide +kernel, by decide +kernel⟩, gin 900 (by decide +kernel) rfl, gin 28 (by decide +kernel) rfl⟩
def mX11_ruleAt : MT := (yX11_ruleAt, cX11_ruleAt, 2, (Option.some Jvm.ClassFile.FieldType.int))
theorem imX11_ruleAt : SMn mX11_ruleAt 2 := ⟨⟨gin 81 (by decide +kernel) rfl, gin 940 (by decide +kernel) rfl, by decide +kernel, by decide +kernel, by decide +kernel⟩, gin 939 (by decide +kernel) rfl⟩
def mX11_isOf : MT := (yX11_isOf, cX11_isOf, 6, (Option.some Jvm.ClassFile.FieldType.boolean))
theorem imX11_isOf : IMn mX11_isOf 4 := ⟨⟨gin 81 (by decide +kernel) rfl, gin 944 (by decide +kernel) rfl, by decide +kernel, by decide +kernel, by decide +kernel⟩, gin 943 (by decide +kernel) rfl, gin 38 (by decide +kernel) rfl⟩
def mX11_orderAt : MT := (yX11_orderAt, cX11_orderAt, 9, (Option.some Jvm.ClassFile.FieldType.int))
theorem imX11_orderAt : IMn mX11_orderAt 4 := ⟨⟨gin 81 (by decide +kernel) rfl, gin 937 (by decide +kernel) rfl, by decide +kernel, by decide +kernel, by decide +kernel⟩, gin 936 (by decide +kernel) rfl, gin 37 (by decide +kernel) rfl⟩
def mX11_image : MT := (yX11_image, cX11_image, 3, (Option.some Jvm.ClassFile.FieldType.int))
theorem imX11_image : IMn mX11_image 2 := ⟨⟨gin 81 (by decide +kernel) rfl, gin 960 (by decide +kernel) rfl, by decide +kernel, by decide +kernel, by decide +kernel⟩, gin 959 (by decide +kernel) rfl, gin 42 (by decide +kernel) rfl⟩
def mX11_asks : MT := (yX11_asks, cX11_asks, 5, none)
theorem imX11_asks : IMn mX11_asks 4 := ⟨⟨gin 81 (by decide +kernel) rfl, gin 913 (by decide +kernel) rfl, by decide +kernel, by decide +kernel, by decide +kernel⟩, gin 912 (by decide +kernel) rfl, gin 31 (by decide +kernel) rfl⟩
def mX11_refuses : MT := (yX11_refuses, cX11_refuses, 3, none)
theorem imX11_refuses : IMn mX11_refuses 2 := ⟨⟨gin 81 (by decide +kernel) rfl, gin 929 (by decide +kernel) rfl, by decide +kernel, by decide +kernel, by decide +kernel⟩, gin 928 (by decide +kernel) rfl, gin 35 (by decide +kernel) rfl⟩
def mX11_isNothing : MT := (yX11_isNothing, cX11_isNothing, 7, (Option.some Jvm.ClassFile.FieldType.boolean))
theorem imX11_isNothing : IMn mX11_isNothing 4 := ⟨⟨gin 81 (by decide +kernel) rfl, gin 925 (by decide +kernel) rfl, by decide +kernel, by decide +kernel, by decide +kernel⟩, gin 924 (by decide +kernel) rfl, gin 34 (by decide +kernel) rfl⟩
def mX11_begins : MT := (yX11_begins, cX11_begins, 8, (Option.some Jvm.ClassFile.FieldType.boolean))
theorem imX11_begins : IMn mX11_begins 4 := ⟨⟨gin 81 (by decide +kernel) rfl, gin 921 (by decide +kernel) rfl, by decide +kernel, by decide +kernel, by decide +kernel⟩, gin 920 (by decide +kernel) rfl, gin 33 (by decide +kernel) rfl⟩
def mX11_carriesOut : MT := (yX11_carriesOut, cX11_carriesOut, 7, none)
theorem imX11_carriesOut : IMn mX11_carriesOut 2 := ⟨⟨gin 81 (by decide +kernel) rfl, gin 948 (by decide +kernel) rfl, by decide +kernel, by decide +kernel, by decide +kernel⟩, gin 947 (by decide +kernel) rfl, gin 39 (by decide +kernel) rfl⟩
def mX11_compares : MT := (yX11_compares, cX11_compares, 3, (Option.some Jvm.ClassFile.FieldType.boolean))
theorem imX11_compares : SMn mX11_compares 3 := ⟨⟨gin 81 (by decide +kernel) rfl, gin 963 (by decide +kernel) rfl, by decide +kernel, by decide +kernel, by decide +kernel⟩, gin 962 (by decide +kernel) rfl⟩
def mX11_isFiring : MT := (yX11_isFiring, cX11_isFiring, 5, (Option.some Jvm.ClassFile.FieldType.boolean))
theorem imX11_isFiring : IMn mX11_isFiring 2 := ⟨⟨gin 81 (by decide +kernel) rfl, gin 956 (by decide +kernel) rfl, by decide +kernel, by decide +kernel, by decide +kernel⟩, gin 955 (by decide +kernel) rfl, gin 41 (by decide +kernel) rfl⟩
def mX11_fires : MT := (yX11_fires, cX11_fires, 7, (Option.some Jvm.ClassFile.FieldType.boolean))
theorem imX11_fires : IMn mX11_fires 3 := ⟨⟨gin 81 (by decide +kernel) rfl, gin 952 (by decide +kernel) rfl, by decide +kernel, by decide +kernel, by decide +kernel⟩, gin 951 (by decide +kernel) rfl, gin 40 (by decide +kernel) rfl⟩
def mX11_valueOf : MT := (yX11_valueOf, cX11_valueOf, 6, (Option.some Jvm.ClassFile.FieldType.int))
theorem imX11_valueOf : IMn mX11_valueOf 3 := ⟨⟨gin 81 (by decide +kernel) rfl, gin 971 (by decide +kernel) rfl, by decide +kernel, by decide +kernel, by decide +kernel⟩, gin 970 (by decide +kernel) rfl, gin 44 (by decide +kernel) rfl⟩
def mX11_counts : MT := (yX11_counts, cX11_counts, 5, none)
theorem imX11_counts : IMn mX11_counts 3 := ⟨⟨gin 81 (by decide +kernel) rfl, gin 975 (by decide +kernel) rfl, by decide +kernel, by decide +kernel, by decide +kernel⟩, gin 974 (by decide +kernel) rfl, gin 45 (by decide +kernel) rfl⟩
def mX11_operates : MT := (yX11_operates, cX11_operates, 7, (Option.some Jvm.ClassFile.FieldType.boolean))
theorem imX11_operates : IMn mX11_operates 4 := ⟨⟨gin 81 (by decide +kernel) rfl, gin 979 (by decide +kernel) rfl, by decide +kernel, by decide +kernel, by decide +kernel⟩, gin 978 (by decide +kernel) rfl, gin 46 (by decide +kernel) rfl⟩
def mX11_acts : MT := (yX11_acts, cX11_acts, 6, (Option.some Jvm.ClassFile.FieldType.int))
theorem imX11_acts : IMn mX11_acts 3 := ⟨⟨gin 81 (by decide +kernel) rfl, gin 967 (by decide +kernel) rfl, by decide +kernel, by decide +kernel, by decide +kernel⟩, gin 966 (by decide +kernel) rfl, gin 43 (by decide +kernel) rfl⟩
def mX11_goes : MT := (yX11_goes, cX11_goes, 5, (Option.some Jvm.ClassFile.FieldType.int))
theorem imX11_goes : IMn mX11_goes 2 := ⟨⟨gin 81 (by decide +kernel) rfl, gin 933 (by decide +kernel) rfl, by decide +kernel, by decide +kernel, by decide +kernel⟩, gin 932 (by decide +kernel) rfl, gin 36 (by decide +kernel) rfl⟩
def mX11_runs : MT := (yX11_runs, cX11_runs, 6, none)
theorem imX11_runs : IMn mX11_runs 3 := ⟨⟨gin 81 (by decide +kernel) rfl, gin 917 (by decide +kernel) rfl, by decide +kernel, by decide +kernel, by decide +kernel⟩, gin 916 (by decide +kernel) rfl, gin 32 (by decide +kernel) rfl⟩
def mX11_whyNotInsert : MT := (yX11_whyNotInsert, cX11_whyNotInsert, 3, (Option.some Jvm.ClassFile.FieldType.int))
theorem imX11_whyNotInsert : IMn mX11_whyNotInsert 2 := ⟨⟨gin 81 (by decide +kernel) rfl, gin 897 (by decide +kernel) rfl, by decide +kernel, by decide +kernel, by decide +kernel⟩, gin 896 (by decide +kernel) rfl, gin 27 (by decide +kernel) rfl⟩
def mX11_whyNotUpdate : MT := (yX11_whyNotUpdate, cX11_whyNotUpdate, 6, (Option.some Jvm.ClassFile.FieldType.int))
theorem imX11_whyNotUpdate : IMn mX11_whyNotUpdate 4 := ⟨⟨gin 81 (by decide +kernel) rfl, gin 1003 (by decide +kernel) rfl, by decide +kernel, by decide +kernel, by decide +kernel⟩, gin 1002 (by decide +kernel) rfl, gin 51 (by decide +kernel) rfl⟩
def mX11_runsInsert : MT := (yX11_runsInsert, cX11_runsInsert, 6, none)
theorem imX11_runsInsert : IMn mX11_runsInsert 5 := ⟨⟨gin 81 (by decide +kernel) rfl, gin 909 (by decide +kernel) rfl, by decide +kernel, by decide +kernel, by decide +kernel⟩, gin 908 (by decide +kernel) rfl, gin 30 (by decide +kernel) rfl⟩
def mX11_runsUpdate : MT := (yX11_runsUpdate, cX11_runsUpdate, 5, none)
theorem imX11_runsUpdate : IMn mX11_runsUpdate 4 := ⟨⟨gin 81 (by decide +kernel) rfl, gin 1007 (by decide +kernel) rfl, by decide +kernel, by decide +kernel, by decide +kernel⟩, gin 1006 (by decide +kernel) rfl, gin 52 (by decide +kernel) rfl⟩
def mX11_runsDelete : MT := (yX11_runsDelete, cX11_runsDelete, 3, none)
theorem imX11_runsDelete : IMn mX11_runsDelete 2 := ⟨⟨gin 81 (by decide +kernel) rfl, gin 1015 (by decide +kernel) rfl, by decide +kernel, by decide +kernel, by decide +kernel⟩, gin 1014 (by decide +kernel) rfl, gin 53 (by decide +kernel) rfl⟩
def mX11_ends : MT := (yX11_ends, cX11_ends, 1, (Option.some Jvm.ClassFile.FieldType.int))
theorem imX11_ends : IMn mX11_ends 0 := ⟨⟨gin 81 (by decide +kernel) rfl, gin 983 (by decide +kernel) rfl, by decide +kernel, by decide +kernel, by decide +kernel⟩, gin 982 (by decide +kernel) rfl, gin 47 (by decide +kernel) rfl⟩
def mX11_whyNotInsertHere : MT := (yX11_whyNotInsertHere, cX11_whyNotInsertHere, 6, (Option.some Jvm.ClassFile.FieldType.int))
theorem imX11_whyNotInsertHere : IMn mX11_whyNotInsertHere 4 := ⟨⟨gin 81 (by decide +kernel) rfl, gin 884 (by decide +kernel) rfl, by decide +kernel, by decide +kernel, by decide +kernel⟩, gin 883 (by decide +kernel) rfl, gin 26 (by decide +kernel) rfl⟩
def mX11_whyNotUpdateHere : MT := (yX11_whyNotUpdateHere, cX11_whyNotUpdateHere, 4, (Option.some Jvm.ClassFile.FieldType.int))
theorem imX11_whyNotUpdateHere : IMn mX11_whyNotUpdateHere 3 := ⟨⟨gin 81 (by decide +kernel) rfl, gin 999 (by decide +kernel) rfl, by decide +kernel, by decide +kernel, by decide +kernel⟩, gin 998 (by decide +kernel) rfl, gin 50 (by decide +kernel) rfl⟩
def mX11_insert : MT := (yX11_insert, cX11_insert, 6, (Option.some Jvm.ClassFile.FieldType.int))
theorem imX11_insert : IMn mX11_insert 4 := ⟨⟨gin 81 (by decide +kernel) rfl, gin 880 (by decide +kernel) rfl, by decide +kernel, by decide +kernel, by decide +kernel⟩, gin 878 (by decide +kernel) rfl, gin 879 (by decide +kernel) rfl⟩
def mX11_update : MT := (yX11_update, cX11_update, 5, (Option.some Jvm.ClassFile.FieldType.int))
theorem imX11_update : IMn mX11_update 3 := ⟨⟨gin 81 (by decide +kernel) rfl, gin 995 (by decide +kernel) rfl, by decide +kernel, by decide +kernel, by decide +kernel⟩, gin 993 (by decide +kernel) rfl, gin 994 (by decide +kernel) rfl⟩
def mX11_delete : MT := (yX11_delete, cX11_delete, 2, (Option.some Jvm.ClassFile.FieldType.int))
theorem imX11_delete : IMn mX11_delete 1 := ⟨⟨gin 81 (by decide +kernel) rfl, gin 1011 (by decide +kernel) rfl, by decide +kernel, by decide +kernel, by decide +kernel⟩, gin 1009 (by decide +kernel) rfl, gin 1010 (by decide +kernel) rfl⟩
def mX11_addRule : MT := (yX11_addRule, cX11_addRule, 11, (Option.some Jvm.ClassFile.FieldType.int))
theorem imX11_addRule : IMn mX11_addRule 7 := ⟨⟨gin 81 (by decide +kernel) rfl, gin 1019 (by decide +kernel) rfl, by decide +kernel, by decide +kernel, by decide +kernel⟩, gin 1017 (by decide +kernel) rfl, gin 1018 (by decide +kernel) rfl⟩
def mX11_setCondition : MT := (yX11_setCondition, cX11_setCondition, 5, (Option.some Jvm.ClassFile.FieldType.int))
theorem imX11_setCondition : IMn mX11_setCondition 4 := ⟨⟨gin 81 (by decide +kernel) rfl, gin 1023 (by decide +kernel) rfl, by decide +kernel, by decide +kernel, by decide +kernel⟩, gin 1021 (by decide +kernel) rfl, gin 1022 (by decide +kernel) rfl⟩
def mX11_rulesOn : MT := (yX11_rulesOn, cX11_rulesOn, 3, (Option.some Jvm.ClassFile.FieldType.int))
theorem imX11_rulesOn : IMn mX11_rulesOn 0 := ⟨⟨gin 81 (by decide +kernel) rfl, gin 1035 (by decide +kernel) rfl, by decide +kernel, by decide +kernel, by decide +kernel⟩, gin 1034 (by decide +kernel) rfl, gin 55 (by decide +kernel) rfl⟩
def mX11_put : MT := (yX11_put, cX11_put, 4, (Option.some Jvm.ClassFile.FieldType.int))
theorem imX11_put : IMn mX11_put 2 := ⟨⟨gin 81 (by decide +kernel) rfl, gin 1031 (by decide +kernel) rfl, by decide +kernel, by decide +kernel, by decide +kernel⟩, gin 1029 (by decide +kernel) rfl, gin 1030 (by decide +kernel) rfl⟩
def mX11_removeRule : MT := (yX11_removeRule, cX11_removeRule, 3, (Option.some Jvm.ClassFile.FieldType.int))
theorem imX11_removeRule : IMn mX11_removeRule 1 := ⟨⟨gin 81 (by decide +kernel) rfl, gin 1039 (by decide +kernel) rfl, by decide +kernel, by decide +kernel, by decide +kernel⟩, gin 1037 (by decide +kernel) rfl, gin 1038 (by decide +kernel) rfl⟩
def mX11_set : MT := (yX11_set, cX11_set, 4, (Option.some Jvm.ClassFile.FieldType.int))
theorem imX11_set : IMn mX11_set 2 := ⟨⟨gin 81 (by decide +kernel) rfl, gin 1043 (by decide +kernel) rfl, by decide +kernel, by decide +kernel, by decide +kernel⟩, gin 1041 (by decide +kernel) rfl, gin 1042 (by decide +kernel) rfl⟩
def mX11_type : MT := (yX11_type, cX11_type, 2, (Option.some Jvm.ClassFile.FieldType.int))
theorem imX11_type : IMn mX11_type 1 := ⟨⟨gin 81 (by decide +kernel) rfl, gin 1047 (by decide +kernel) rfl, by decide +kernel, by decide +kernel, by decide +kernel⟩, gin 1045 (by decide +kernel) rfl, gin 1046 (by decide +kernel) rfl⟩
def mX11_clearText : MT := (yX11_clearText, cX11_clearText, 2, (Option.some Jvm.ClassFile.FieldType.int))
theorem imX11_clearText : IMn mX11_clearText 0 := ⟨⟨gin 81 (by decide +kernel) rfl, gin 1051 (by decide +kernel) rfl, by decide +kernel, by decide +kernel, by decide +kernel⟩, gin 1049 (by decide +kernel) rfl, gin 1050 (by decide +kernel) rfl⟩
def mX11_sign : MT := (yX11_sign, cX11_sign, 2, (Option.some Jvm.ClassFile.FieldType.int))
theorem imX11_sign : IMn mX11_sign 1 := ⟨⟨gin 81 (by decide +kernel) rfl, gin 1067 (by decide +kernel) rfl, by decide +kernel, by decide +kernel, by decide +kernel⟩, gin 1066 (by decide +kernel) rfl, gin 58 (by decide +kernel) rfl⟩
def mX11_digit : MT := (yX11_digit, cX11_digit, 2, (Option.some Jvm.ClassFile.FieldType.int))
theorem imX11_digit : IMn mX11_digit 1 := ⟨⟨gin 81 (by decide +kernel) rfl, gin 1079 (by decide +kernel) rfl, by decide +kernel, by decide +kernel, by decide +kernel⟩, gin 1078 (by decide +kernel) rfl, gin 61 (by decide +kernel) rfl⟩
def mX11_numberEnd : MT := (yX11_numberEnd, cX11_numberEnd, 4, (Option.some Jvm.ClassFile.FieldType.int))
theorem imX11_numberEnd : IMn mX11_numberEnd 2 := ⟨⟨gin 81 (by decide +kernel) rfl, gin 1075 (by decide +kernel) rfl, by decide +kernel, by decide +kernel, by decide +kernel⟩, gin 1074 (by decide +kernel) rfl, gin 60 (by decide +kernel) rfl⟩
def mX11_valueEnd : MT := (yX11_valueEnd, cX11_valueEnd, 2, (Option.some Jvm.ClassFile.FieldType.int))
theorem imX11_valueEnd : IMn mX11_valueEnd 1 := ⟨⟨gin 81 (by decide +kernel) rfl, gin 1091 (by decide +kernel) rfl, by decide +kernel, by decide +kernel, by decide +kernel⟩, gin 1090 (by decide +kernel) rfl, gin 64 (by decide +kernel) rfl⟩
def mX11_behind : MT := (yX11_behind, cX11_behind, 3, (Option.some Jvm.ClassFile.FieldType.int))
theorem imX11_behind : IMn mX11_behind 2 := ⟨⟨gin 81 (by decide +kernel) rfl, gin 1087 (by decide +kernel) rfl, by decide +kernel, by decide +kernel, by decide +kernel⟩, gin 1086 (by decide +kernel) rfl, gin 63 (by decide +kernel) rfl⟩
def mX11_valueBehind : MT := (yX11_valueBehind, cX11_valueBehind, 4, (Option.some Jvm.ClassFile.FieldType.int))
theorem imX11_valueBehind : IMn mX11_valueBehind 2 := ⟨⟨gin 81 (by decide +kernel) rfl, gin 1083 (by decide +kernel) rfl, by decide +kernel, by decide +kernel, by decide +kernel⟩, gin 1082 (by decide +kernel) rfl, gin 62 (by decide +kernel) rfl⟩
def mX11_insertEnd : MT := (yX11_insertEnd, cX11_insertEnd, 3, (Option.some Jvm.ClassFile.FieldType.int))
theorem imX11_insertEnd : IMn mX11_insertEnd 1 := ⟨⟨gin 81 (by decide +kernel) rfl, gin 1071 (by decide +kernel) rfl, by decide +kernel, by decide +kernel, by decide +kernel⟩, gin 1070 (by decide +kernel) rfl, gin 59 (by decide +kernel) rfl⟩
def mX11_updateEnd : MT := (yX11_updateEnd, cX11_updateEnd, 3, (Option.some Jvm.ClassFile.FieldType.int))
theorem imX11_updateEnd : IMn mX11_updateEnd 1 := ⟨⟨gin 81 (by decide +kernel) rfl, gin 1095 (by decide +kernel) rfl, by decide +kernel, by decide +kernel, by decide +kernel⟩, gin 1094 (by decide +kernel) rfl, gin 65 (by decide +kernel) rfl⟩
def mX11_statementEnd : MT := (yX11_statementEnd, cX11_statementEnd, 2, (Option.some Jvm.ClassFile.FieldType.int))
theorem imX11_statementEnd : IMn mX11_statementEnd 1 := ⟨⟨gin 81 (by decide +kernel) rfl, gin 1063 (by decide +kernel) rfl, by decide +kernel, by decide +kernel, by decide +kernel⟩, gin 1062 (by decide +kernel) rfl, gin 57 (by decide +kernel) rfl⟩
def mX11_fault : MT := (yX11_fault, cX11_fault, 4, (Option.some Jvm.ClassFile.FieldType.int))
theorem imX11_fault : IMn mX11_fault 0 := ⟨⟨gin 81 (by decide +kernel) rfl, gin 1059 (by decide +kernel) rfl, by decide +kernel, by decide +kernel, by decide +kernel⟩, gin 1058 (by decide +kernel) rfl, gin 56 (by decide +kernel) rfl⟩
def mX11_numberAt : MT := (yX11_numberAt, cX11_numberAt, 5, (Option.some Jvm.ClassFile.FieldType.int))
theorem imX11_numberAt : IMn mX11_numberAt 1 := ⟨⟨gin 81 (by decide +kernel) rfl, gin 1103 (by decide +kernel) rfl, by decide +kernel, by decide +kernel, by decide +kernel⟩, gin 1102 (by decide +kernel) rfl, gin 67 (by decide +kernel) rfl⟩
def mX11_does : MT := (yX11_does, cX11_does, 7, (Option.some Jvm.ClassFile.FieldType.int))
theorem imX11_does : IMn mX11_does 1 := ⟨⟨gin 81 (by decide +kernel) rfl, gin 1099 (by decide +kernel) rfl, by decide +kernel, by decide +kernel, by decide +kernel⟩, gin 1098 (by decide +kernel) rfl, gin 66 (by decide +kernel) rfl⟩
def mX11_perform : MT := (yX11_perform, cX11_perform, 5, (Option.some Jvm.ClassFile.FieldType.int))
theorem imX11_perform : IMn mX11_perform 0 := ⟨⟨gin 81 (by decide +kernel) rfl, gin 1055 (by decide +kernel) rfl, by decide +kernel, by decide +kernel, by decide +kernel⟩, gin 1053 (by decide +kernel) rfl, gin 1054 (by decide +kernel) rfl⟩
def mX11_undo : MT := (yX11_undo, cX11_undo, 2, (Option.some Jvm.ClassFile.FieldType.int))
theorem imX11_undo : IMn mX11_undo 0 := ⟨⟨gin 81 (by decide +kernel) rfl, gin 1107 (by decide +kernel) rfl, by decide +kernel, by decide +kernel, by decide +kernel⟩, gin 1105 (by decide +kernel) rfl, gin 1106 (by decide +kernel) rfl⟩
def mX11_keep : MT := (yX11_keep, cX11_keep, 2, (Option.some Jvm.ClassFile.FieldType.int))
theorem imX11_keep : IMn mX11_keep 0 := ⟨⟨gin 81 (by decide +kernel) rfl, gin 1111 (by decide +kernel) rfl, by decide +kernel, by decide +kernel, by decide +kernel⟩, gin 1109 (by decide +kernel) rfl, gin 1110 (by decide +kernel) rfl⟩
def mX11_restore : MT := (yX11_restore, cX11_restore, 2, (Option.some Jvm.ClassFile.FieldType.int))
theorem imX11_restore : IMn mX11_restore 0 := ⟨⟨gin 81 (by decide +kernel) rfl, gin 1115 (by decide +kernel) rfl, by decide +kernel, by decide +kernel, by decide +kernel⟩, gin 1113 (by decide +kernel) rfl, gin 1114 (by decide +kernel) rfl⟩
def mX11_field : MT := (yX11_field, cX11_field, 4, (Option.some Jvm.ClassFile.FieldType.int))
theorem imX11_field : IMn mX11_field 2 := ⟨⟨gin 81 (by decide +kernel) rfl, gin 1119 (by decide +kernel) rfl, by decide +kernel, by decide +kernel, by decide +kernel⟩, gin 1117 (by decide +kernel) rfl, gin 1118 (by decide +kernel) rfl⟩
def mX11_keyAt : MT := (yX11_keyAt, cX11_keyAt, 4, (Option.some Jvm.ClassFile.FieldType.int))
theorem imX11_keyAt : IMn mX11_keyAt 1 := ⟨⟨gin 81 (by decide +kernel) rfl, gin 1123 (by decide +kernel) rfl, by decide +kernel, by decide +kernel, by decide +kernel⟩, gin 1121 (by decide +kernel) rfl, gin 1122 (by decide +kernel) rfl⟩
def mX11_rule : MT := (yX11_rule, cX11_rule, 3, (Option.some Jvm.ClassFile.FieldType.int))
theorem imX11_rule : IMn mX11_rule 2 := ⟨⟨gin 81 (by decide +kernel) rfl, gin 1127 (by decide +kernel) rfl, by decide +kernel, by decide +kernel, by decide +kernel⟩, gin 1125 (by decide +kernel) rfl, gin 1126 (by decide +kernel) rfl⟩
def mX11_order : MT := (yX11_order, cX11_order, 5, (Option.some Jvm.ClassFile.FieldType.int))
theorem imX11_order : IMn mX11_order 3 := ⟨⟨gin 81 (by decide +kernel) rfl, gin 1131 (by decide +kernel) rfl, by decide +kernel, by decide +kernel, by decide +kernel⟩, gin 1129 (by decide +kernel) rfl, gin 1130 (by decide +kernel) rfl⟩
def mX11_firing : MT := (yX11_firing, cX11_firing, 3, (Option.some Jvm.ClassFile.FieldType.int))
theorem imX11_firing : IMn mX11_firing 2 := ⟨⟨gin 81 (by decide +kernel) rfl, gin 1135 (by decide +kernel) rfl, by decide +kernel, by decide +kernel, by decide +kernel⟩, gin 1133 (by decide +kernel) rfl, gin 1134 (by decide +kernel) rfl⟩
def mX11_total : MT := (yX11_total, cX11_total, 2, (Option.some Jvm.ClassFile.FieldType.int))
theorem imX11_total : IMn mX11_total 1 := ⟨⟨gin 81 (by decide +kernel) rfl, gin 1139 (by decide +kernel) rfl, by decide +kernel, by decide +kernel, by decide +kernel⟩, gin 1137 (by decide +kernel) rfl, gin 1138 (by decide +kernel) rfl⟩
def mX11_told : MT := (yX11_told, cX11_told, 2, (Option.some Jvm.ClassFile.FieldType.int))
theorem imX11_told : IMn mX11_told 1 := ⟨⟨gin 81 (by decide +kernel) rfl, gin 1147 (by decide +kernel) rfl, by decide +kernel, by decide +kernel, by decide +kernel⟩, gin 1146 (by decide +kernel) rfl, gin 68 (by decide +kernel) rfl⟩
def mX11_ifInserted : MT := (yX11_ifInserted, cX11_ifInserted, 7, (Option.some Jvm.ClassFile.FieldType.int))
theorem imX11_ifInserted : IMn mX11_ifInserted 5 := ⟨⟨gin 81 (by decide +kernel) rfl, gin 1143 (by decide +kernel) rfl, by decide +kernel, by decide +kernel, by decide +kernel⟩, gin 1141 (by decide +kernel) rfl, gin 1142 (by decide +kernel) rfl⟩
def mX11_ifUpdated : MT := (yX11_ifUpdated, cX11_ifUpdated, 6, (Option.some Jvm.ClassFile.FieldType.int))
theorem imX11_ifUpdated : IMn mX11_ifUpdated 4 := ⟨⟨gin 81 (by decide +kernel) rfl, gin 1151 (by decide +kernel) rfl, by decide +kernel, by decide +kernel, by decide +kernel⟩, gin 1149 (by decide +kernel) rfl, gin 1150 (by decide +kernel) rfl⟩
def mX11_ifDeleted : MT := (yX11_ifDeleted, cX11_ifDeleted, 3, (Option.some Jvm.ClassFile.FieldType.int))
theorem imX11_ifDeleted : IMn mX11_ifDeleted 2 := ⟨⟨gin 81 (by decide +kernel) rfl, gin 1155 (by decide +kernel) rfl, by decide +kernel, by decide +kernel, by decide +kernel⟩, gin 1153 (by decide +kernel) rfl, gin 1154 (by decide +kernel) rfl⟩
def mX11_depthFor : MT := (yX11_depthFor, cX11_depthFor, 6, (Option.some Jvm.ClassFile.FieldType.int))
theorem imX11_depthFor : IMn mX11_depthFor 3 := ⟨⟨gin 81 (by decide +kernel) rfl, gin 1159 (by decide +kernel) rfl, by decide +kernel, by decide +kernel, by decide +kernel⟩, gin 1157 (by decide +kernel) rfl, gin 1158 (by decide +kernel) rfl⟩
theorem ln_L_9 : Cond.methodLink RL 9 yX10_init ∈ gtbl := gin 86 (by decide +kernel) rfl
theorem ln_X10_1 : Cond.methodLink RX10 1 objectInit ∈ gtbl := gin 89 (by decide +kernel) rfl
theorem ln_X10_9 : Cond.methodLink RX10 9 yX0_init ∈ gtbl := gin 94 (by decide +kernel) rfl
theorem ln_X0_3 : Cond.methodLink RX0 3 objectInit ∈ gtbl := gin 97 (by decide +kernel) rfl
theorem ln_X7_3 : Cond.methodLink RX7 3 objectInit ∈ gtbl := gin 103 (by decide +kernel) rfl
theorem ln_X7_11 : Cond.methodLink RX7 11 yX8_init ∈ gtbl := gin 106 (by decide +kernel) rfl
theorem ln_X8_3 : Cond.methodLink RX8 3 objectInit ∈ gtbl := gin 109 (by decide +kernel) rfl
theorem ln_X4_1 : Cond.methodLink RX4 1 objectInit ∈ gtbl := gin 116 (by decide +kernel) rfl
theorem ln_X7_20 : Cond.methodLink RX7 20 yX6_init ∈ gtbl := gin 144 (by decide +kernel) rfl
theorem ln_X6_3 : Cond.methodLink RX6 3 objectInit ∈ gtbl := gin 147 (by decide +kernel) rfl
theorem ln_X5_3 : Cond.methodLink RX5 3 objectInit ∈ gtbl := gin 154 (by decide +kernel) rfl
theorem ln_X1_3 : Cond.methodLink RX1 3 objectInit ∈ gtbl := gin 218 (by decide +kernel) rfl
theorem ln_X0_24 : Cond.methodLink RX0 24 yX3_init ∈ gtbl := gin 278 (by decide +kernel) rfl
theorem ln_X3_1 : Cond.methodLink RX3 1 objectInit ∈ gtbl := gin 281 (by decide +kernel) rfl
theorem ln_X10_28 : Cond.methodLink RX10 28 yX2_init ∈ gtbl := gin 328 (by decide +kernel) rfl
theorem ln_X2_3 : Cond.methodLink RX2 3 objectInit ∈ gtbl := gin 331 (by decide +kernel) rfl
theorem ln_X9_3 : Cond.methodLink RX9 3 objectInit ∈ gtbl := gin 348 (by decide +kernel) rfl
theorem ln_L_13 : Cond.methodLink RL 13 yX10_addRule ∈ gtbl := gin 407 (by decide +kernel) rfl
theorem ln_X10_40 : Cond.methodLink RX10 40 yX10_isEvent ∈ gtbl := gin 411 (by decide +kernel) rfl
theorem ln_X10_47 : Cond.methodLink RX10 47 yX10_within ∈ gtbl := gin 414 (by decide +kernel) rfl
theorem ln_X10_44 : Cond.methodLink RX10 44 yX10_isMoment ∈ gtbl := gin 417 (by decide +kernel) rfl
theorem ln_X10_51 : Cond.methodLink RX10 51 yX10_isKindFor ∈ gtbl := gin 420 (by decide +kernel) rfl
theorem ln_X10_55 : Cond.methodLink RX10 55 yX10_isValue ∈ gtbl := gin 423 (by decide +kernel) rfl
theorem ln_X10_65 : Cond.methodLink RX10 65 yX6_spare ∈ gtbl := gin 426 (by decide +kernel) rfl
theorem ln_X10_71 : Cond.methodLink RX10 71 yX2_push ∈ gtbl := gin 430 (by decide +kernel) rfl
theorem ln_X2_22 : Cond.methodLink RX2 22 yX2_dropOldest ∈ gtbl := gin 434 (by decide +kernel) rfl
theorem ln_X2_25 : Cond.methodLink RX2 25 yX7_copyFrom ∈ gtbl := gin 438 (by decide +kernel) rfl
theorem ln_X7_36 : Cond.methodLink RX7 36 yX8_copyFrom ∈ gtbl := gin 442 (by decide +kernel) rfl
theorem ln_X8_29 : Cond.methodLink RX8 29 yX8_rowAt ∈ gtbl := gin 446 (by decide +kernel) rfl
theorem ln_X8_25 : Cond.methodLink RX8 25 yX4_copyFrom ∈ gtbl := gin 450 (by decide +kernel) rfl
theorem ln_X7_40 : Cond.methodLink RX7 40 yX6_copyFrom ∈ gtbl := gin 454 (by decide +kernel) rfl
theorem ln_X6_30 : Cond.methodLink RX6 30 yX6_ruleOf ∈ gtbl := gin 458 (by decide +kernel) rfl
theorem ln_X6_51 : Cond.methodLink RX6 51 yX5_copyFrom ∈ gtbl := gin 462 (by decide +kernel) rfl
theorem ln_X5_53 : Cond.methodLink RX5 53 yX5_define ∈ gtbl := gin 466 (by decide +kernel) rfl
theorem ln_X5_33 : Cond.methodLink RX5 33 yX5_demand ∈ gtbl := gin 470 (by decide +kernel) rfl
theorem ln_X6_55 : Cond.methodLink RX6 55 arraycopyName ∈ gtbl := gin 474 (by decide +kernel) rfl
theorem ln_X7_43 : Cond.methodLink RX7 43 yX1_copyFrom ∈ gtbl := gin 477 (by decide +kernel) rfl
theorem ln_X1_25 : Cond.methodLink RX1 25 arraycopyName ∈ gtbl := gin 481 (by decide +kernel) rfl
theorem ln_X10_75 : Cond.methodLink RX10 75 yX5_define ∈ gtbl := gin 482 (by decide +kernel) rfl
theorem ln_X10_81 : Cond.methodLink RX10 81 yX6_takeSpare ∈ gtbl := gin 483 (by decide +kernel) rfl
theorem ln_X6_42 : Cond.methodLink RX6 42 yX6_sortByRank ∈ gtbl := gin 487 (by decide +kernel) rfl
theorem ln_X6_45 : Cond.methodLink RX6 45 yX6_rankOf ∈ gtbl := gin 491 (by decide +kernel) rfl
theorem ln_L_18 : Cond.methodLink RL 18 yX10_setCondition ∈ gtbl := gin 495 (by decide +kernel) rfl
theorem ln_X10_85 : Cond.methodLink RX10 85 yX6_ruleOf ∈ gtbl := gin 499 (by decide +kernel) rfl
theorem ln_X10_89 : Cond.methodLink RX10 89 yX5_demand ∈ gtbl := gin 500 (by decide +kernel) rfl
theorem ln_L_23 : Cond.methodLink RL 23 yX10_put ∈ gtbl := gin 501 (by decide +kernel) rfl
theorem ln_X10_97 : Cond.methodLink RX10 97 yX6_countOn ∈ gtbl := gin 505 (by decide +kernel) rfl
theorem ln_L_28 : Cond.methodLink RL 28 yX10_removeRule ∈ gtbl := gin 509 (by decide +kernel) rfl
theorem ln_X10_100 : Cond.methodLink RX10 100 yX6_drop ∈ gtbl := gin 513 (by decide +kernel) rfl
theorem ln_L_33 : Cond.methodLink RL 33 yX10_set ∈ gtbl := gin 517 (by decide +kernel) rfl
theorem ln_L_38 : Cond.methodLink RL 38 yX10_insert ∈ gtbl := gin 521 (by decide +kernel) rfl
theorem ln_X10_114 : Cond.methodLink RX10 114 yX7_copyFrom ∈ gtbl := gin 525 (by decide +kernel) rfl
theorem ln_X10_117 : Cond.methodLink RX10 117 yX0_runInsert ∈ gtbl := gin 526 (by decide +kernel) rfl
theorem ln_X0_59 : Cond.methodLink RX0 59 yX0_insertFault ∈ gtbl := gin 530 (by decide +kernel) rfl
theorem ln_X0_43 : Cond.methodLink RX0 43 yX8_rowOf ∈ gtbl := gin 536 (by decide +kernel) rfl
theorem ln_X0_49 : Cond.methodLink RX0 49 yX8_isFull ∈ gtbl := gin 540 (by decide +kernel) rfl
theorem ln_X0_67 : Cond.methodLink RX0 67 yX4_fill ∈ gtbl := gin 544 (by decide +kernel) rfl
theorem ln_X0_71 : Cond.methodLink RX0 71 yX0_run ∈ gtbl := gin 548 (by decide +kernel) rfl
theorem ln_X0_89 : Cond.methodLink RX0 89 yX0_begin ∈ gtbl := gin 552 (by decide +kernel) rfl
theorem ln_X0_92 : Cond.methodLink RX0 92 yX0_operate ∈ gtbl := gin 556 (by decide +kernel) rfl
theorem ln_X0_159 : Cond.methodLink RX0 159 yX0_refuse ∈ gtbl := gin 560 (by decide +kernel) rfl
theorem ln_X0_115 : Cond.methodLink RX0 115 Lib.Math.max.name ∈ gtbl := gin 564 (by decide +kernel) rfl
theorem ln_X0_165 : Cond.methodLink RX0 165 yX0_fireRules ∈ gtbl := gin 567 (by decide +kernel) rfl
theorem ln_X0_187 : Cond.methodLink RX0 187 yX6_numberAt ∈ gtbl := gin 571 (by decide +kernel) rfl
theorem ln_X0_190 : Cond.methodLink RX0 190 yX6_ruleOf ∈ gtbl := gin 575 (by decide +kernel) rfl
theorem ln_X0_198 : Cond.methodLink RX0 198 yX5_isFor ∈ gtbl := gin 576 (by decide +kernel) rfl
theorem ln_X0_202 : Cond.methodLink RX0 202 yX0_isHeldBack ∈ gtbl := gin 580 (by decide +kernel) rfl
theorem ln_X0_205 : Cond.methodLink RX0 205 yX5_holdsFor ∈ gtbl := gin 584 (by decide +kernel) rfl
theorem ln_X5_57 : Cond.methodLink RX5 57 yX4_valueOf ∈ gtbl := gin 588 (by decide +kernel) rfl
theorem ln_X0_209 : Cond.methodLink RX0 209 yX0_fire ∈ gtbl := gin 592 (by decide +kernel) rfl
theorem ln_X0_214 : Cond.methodLink RX0 214 yX1_add ∈ gtbl := gin 596 (by decide +kernel) rfl
theorem ln_X0_141 : Cond.methodLink RX0 141 yX5_valueFor ∈ gtbl := gin 600 (by decide +kernel) rfl
theorem ln_X5_63 : Cond.methodLink RX5 63 Lib.Math.min.name ∈ gtbl := gin 604 (by decide +kernel) rfl
theorem ln_X5_69 : Cond.methodLink RX5 69 Lib.Math.max.name ∈ gtbl := gin 607 (by decide +kernel) rfl
theorem ln_X0_137 : Cond.methodLink RX0 137 yX4_change ∈ gtbl := gin 608 (by decide +kernel) rfl
theorem ln_X0_218 : Cond.methodLink RX0 218 yX0_cause ∈ gtbl := gin 612 (by decide +kernel) rfl
theorem ln_X0_228 : Cond.methodLink RX0 228 yX0_prepareCaused ∈ gtbl := gin 616 (by decide +kernel) rfl
theorem ln_X0_133 : Cond.methodLink RX0 133 yX4_copyFrom ∈ gtbl := gin 620 (by decide +kernel) rfl
theorem ln_X0_153 : Cond.methodLink RX0 153 yX0_canTake ∈ gtbl := gin 621 (by decide +kernel) rfl
theorem ln_X0_78 : Cond.methodLink RX0 78 yX0_prepareUpdate ∈ gtbl := gin 625 (by decide +kernel) rfl
theorem ln_X0_53 : Cond.methodLink RX0 53 yX4_valueOf ∈ gtbl := gin 629 (by decide +kernel) rfl
theorem ln_X0_85 : Cond.methodLink RX0 85 yX0_prepareDelete ∈ gtbl := gin 630 (by decide +kernel) rfl
theorem ln_X0_232 : Cond.methodLink RX0 232 yX0_mark ∈ gtbl := gin 634 (by decide +kernel) rfl
theorem ln_X0_169 : Cond.methodLink RX0 169 yX0_carryOut ∈ gtbl := gin 638 (by decide +kernel) rfl
theorem ln_X0_173 : Cond.methodLink RX0 173 yX8_take ∈ gtbl := gin 642 (by decide +kernel) rfl
theorem ln_X0_176 : Cond.methodLink RX0 176 yX8_drop ∈ gtbl := gin 646 (by decide +kernel) rfl
theorem ln_X10_121 : Cond.methodLink RX10 121 yX10_settle ∈ gtbl := gin 650 (by decide +kernel) rfl
theorem ln_L_42 : Cond.methodLink RL 42 yX10_update ∈ gtbl := gin 654 (by decide +kernel) rfl
theorem ln_X10_125 : Cond.methodLink RX10 125 yX0_runUpdate ∈ gtbl := gin 658 (by decide +kernel) rfl
theorem ln_X0_74 : Cond.methodLink RX0 74 yX0_updateFault ∈ gtbl := gin 662 (by decide +kernel) rfl
theorem ln_L_47 : Cond.methodLink RL 47 yX10_delete ∈ gtbl := gin 666 (by decide +kernel) rfl
theorem ln_X10_129 : Cond.methodLink RX10 129 yX0_runDelete ∈ gtbl := gin 670 (by decide +kernel) rfl
theorem ln_X0_82 : Cond.methodLink RX0 82 yX0_deleteFault ∈ gtbl := gin 674 (by decide +kernel) rfl
theorem ln_L_51 : Cond.methodLink RL 51 yX10_type ∈ gtbl := gin 678 (by decide +kernel) rfl
theorem ln_X10_132 : Cond.methodLink RX10 132 yX9_append ∈ gtbl := gin 682 (by decide +kernel) rfl
theorem ln_L_56 : Cond.methodLink RL 56 yX10_clearText ∈ gtbl := gin 686 (by decide +kernel) rfl
theorem ln_L_61 : Cond.methodLink RL 61 yX10_perform ∈ gtbl := gin 690 (by decide +kernel) rfl
theorem ln_X10_139 : Cond.methodLink RX10 139 yX9_countStatements ∈ gtbl := gin 694 (by decide +kernel) rfl
theorem ln_X9_26 : Cond.methodLink RX9 26 yX9_rewind ∈ gtbl := gin 698 (by decide +kernel) rfl
theorem ln_X9_29 : Cond.methodLink RX9 29 yX9_readStatement ∈ gtbl := gin 702 (by decide +kernel) rfl
theorem ln_X9_32 : Cond.methodLink RX9 32 yX9_pass ∈ gtbl := gin 706 (by decide +kernel) rfl
theorem ln_X9_36 : Cond.methodLink RX9 36 yX9_here ∈ gtbl := gin 710 (by decide +kernel) rfl
theorem ln_X9_40 : Cond.methodLink RX9 40 yX9_readInsert ∈ gtbl := gin 714 (by decide +kernel) rfl
theorem ln_X9_49 : Cond.methodLink RX9 49 yX9_readNumber ∈ gtbl := gin 718 (by decide +kernel) rfl
theorem ln_X9_68 : Cond.methodLink RX9 68 yX9_readDigit ∈ gtbl := gin 722 (by decide +kernel) rfl
theorem ln_X9_74 : Cond.methodLink RX9 74 yX9_isDigit ∈ gtbl := gin 726 (by decide +kernel) rfl
theorem ln_X9_56 : Cond.methodLink RX9 56 yX9_readValue ∈ gtbl := gin 729 (by decide +kernel) rfl
theorem ln_X9_43 : Cond.methodLink RX9 43 yX9_readUpdate ∈ gtbl := gin 733 (by decide +kernel) rfl
theorem ln_X10_142 : Cond.methodLink RX10 142 yX9_rewind ∈ gtbl := gin 737 (by decide +kernel) rfl
theorem ln_X10_145 : Cond.methodLink RX10 145 yX9_readStatement ∈ gtbl := gin 738 (by decide +kernel) rfl
theorem ln_X10_148 : Cond.methodLink RX10 148 yX10_performStatement ∈ gtbl := gin 739 (by decide +kernel) rfl
theorem ln_L_65 : Cond.methodLink RL 65 yX10_undo ∈ gtbl := gin 743 (by decide +kernel) rfl
theorem ln_X10_151 : Cond.methodLink RX10 151 yX2_popInto ∈ gtbl := gin 747 (by decide +kernel) rfl
theorem ln_L_69 : Cond.methodLink RL 69 yX10_keep ∈ gtbl := gin 751 (by decide +kernel) rfl
theorem ln_L_73 : Cond.methodLink RL 73 yX10_restore ∈ gtbl := gin 755 (by decide +kernel) rfl
theorem ln_L_77 : Cond.methodLink RL 77 yX10_field ∈ gtbl := gin 759 (by decide +kernel) rfl
theorem ln_X10_166 : Cond.methodLink RX10 166 yX8_rowOf ∈ gtbl := gin 763 (by decide +kernel) rfl
theorem ln_X10_170 : Cond.methodLink RX10 170 yX4_valueOf ∈ gtbl := gin 764 (by decide +kernel) rfl
theorem ln_L_81 : Cond.methodLink RL 81 yX10_keyAt ∈ gtbl := gin 765 (by decide +kernel) rfl
theorem ln_X10_175 : Cond.methodLink RX10 175 yX8_rowAt ∈ gtbl := gin 769 (by decide +kernel) rfl
theorem ln_L_85 : Cond.methodLink RL 85 yX10_rule ∈ gtbl := gin 770 (by decide +kernel) rfl
theorem ln_X10_181 : Cond.methodLink RX10 181 yX5_tell ∈ gtbl := gin 774 (by decide +kernel) rfl
theorem ln_L_89 : Cond.methodLink RL 89 yX10_order ∈ gtbl := gin 778 (by decide +kernel) rfl
theorem ln_X10_184 : Cond.methodLink RX10 184 yX6_numberAmong ∈ gtbl := gin 782 (by decide +kernel) rfl
theorem ln_X6_26 : Cond.methodLink RX6 26 yX6_numberAt ∈ gtbl := gin 786 (by decide +kernel) rfl
theorem ln_X6_34 : Cond.methodLink RX6 34 yX5_isFor ∈ gtbl := gin 787 (by decide +kernel) rfl
theorem ln_L_93 : Cond.methodLink RL 93 yX10_firing ∈ gtbl := gin 788 (by decide +kernel) rfl
theorem ln_X10_191 : Cond.methodLink RX10 191 yX1_tell ∈ gtbl := gin 792 (by decide +kernel) rfl
theorem ln_L_97 : Cond.methodLink RL 97 yX10_total ∈ gtbl := gin 796 (by decide +kernel) rfl
theorem ln_X10_196 : Cond.methodLink RX10 196 yX7_tell ∈ gtbl := gin 800 (by decide +kernel) rfl
theorem ln_X7_65 : Cond.methodLink RX7 65 yX6_countOn ∈ gtbl := gin 804 (by decide +kernel) rfl
theorem ln_L_101 : Cond.methodLink RL 101 yX10_ifInserted ∈ gtbl := gin 805 (by decide +kernel) rfl
theorem ln_X10_197 : Cond.methodLink RX10 197 yX0_insertFault ∈ gtbl := gin 809 (by decide +kernel) rfl
theorem ln_X10_200 : Cond.methodLink RX10 200 yX10_isReport ∈ gtbl := gin 810 (by decide +kernel) rfl
theorem ln_X10_203 : Cond.methodLink RX10 203 yX0_report ∈ gtbl := gin 813 (by decide +kernel) rfl
theorem ln_L_106 : Cond.methodLink RL 106 yX10_ifUpdated ∈ gtbl := gin 817 (by decide +kernel) rfl
theorem ln_X10_206 : Cond.methodLink RX10 206 yX0_updateFault ∈ gtbl := gin 821 (by decide +kernel) rfl
theorem ln_L_110 : Cond.methodLink RL 110 yX10_ifDeleted ∈ gtbl := gin 822 (by decide +kernel) rfl
theorem ln_X10_209 : Cond.methodLink RX10 209 yX0_deleteFault ∈ gtbl := gin 826 (by decide +kernel) rfl
theorem ln_L_114 : Cond.methodLink RL 114 yX10_depthFor ∈ gtbl := gin 827 (by decide +kernel) rfl
theorem ln_L_12 : Cond.methodLink RL 12 yX11_init ∈ gtbl := gin 833 (by decide +kernel) rfl
theorem ln_X11_1 : Cond.methodLink RX11 1 objectInit ∈ gtbl := gin 836 (by decide +kernel) rfl
theorem ln_L_41 : Cond.methodLink RL 41 yX11_insert ∈ gtbl := gin 877 (by decide +kernel) rfl
theorem ln_X11_135 : Cond.methodLink RX11 135 yX11_whyNotInsertHere ∈ gtbl := gin 881 (by decide +kernel) rfl
theorem ln_X11_57 : Cond.methodLink RX11 57 yX11_isKey ∈ gtbl := gin 885 (by decide +kernel) rfl
theorem ln_X11_25 : Cond.methodLink RX11 25 yX11_in ∈ gtbl := gin 888 (by decide +kernel) rfl
theorem ln_X11_126 : Cond.methodLink RX11 126 yX11_isValue ∈ gtbl := gin 891 (by decide +kernel) rfl
theorem ln_X11_129 : Cond.methodLink RX11 129 yX11_whyNotInsert ∈ gtbl := gin 894 (by decide +kernel) rfl
theorem ln_X11_54 : Cond.methodLink RX11 54 yX11_rowOf ∈ gtbl := gin 898 (by decide +kernel) rfl
theorem ln_X11_36 : Cond.methodLink RX11 36 yX11_copies ∈ gtbl := gin 902 (by decide +kernel) rfl
theorem ln_X11_138 : Cond.methodLink RX11 138 yX11_runsInsert ∈ gtbl := gin 906 (by decide +kernel) rfl
theorem ln_X11_86 : Cond.methodLink RX11 86 yX11_asks ∈ gtbl := gin 910 (by decide +kernel) rfl
theorem ln_X11_120 : Cond.methodLink RX11 120 yX11_runs ∈ gtbl := gin 914 (by decide +kernel) rfl
theorem ln_X11_90 : Cond.methodLink RX11 90 yX11_begins ∈ gtbl := gin 918 (by decide +kernel) rfl
theorem ln_X11_61 : Cond.methodLink RX11 61 yX11_isNothing ∈ gtbl := gin 922 (by decide +kernel) rfl
theorem ln_X11_67 : Cond.methodLink RX11 67 yX11_refuses ∈ gtbl := gin 926 (by decide +kernel) rfl
theorem ln_X11_117 : Cond.methodLink RX11 117 yX11_goes ∈ gtbl := gin 930 (by decide +kernel) rfl
theorem ln_X11_104 : Cond.methodLink RX11 104 yX11_orderAt ∈ gtbl := gin 934 (by decide +kernel) rfl
theorem ln_X11_40 : Cond.methodLink RX11 40 yX11_ruleAt ∈ gtbl := gin 938 (by decide +kernel) rfl
theorem ln_X11_44 : Cond.methodLink RX11 44 yX11_isOf ∈ gtbl := gin 941 (by decide +kernel) rfl
theorem ln_X11_108 : Cond.methodLink RX11 108 yX11_carriesOut ∈ gtbl := gin 945 (by decide +kernel) rfl
theorem ln_X11_111 : Cond.methodLink RX11 111 yX11_fires ∈ gtbl := gin 949 (by decide +kernel) rfl
theorem ln_X11_73 : Cond.methodLink RX11 73 yX11_isFiring ∈ gtbl := gin 953 (by decide +kernel) rfl
theorem ln_X11_77 : Cond.methodLink RX11 77 yX11_image ∈ gtbl := gin 957 (by decide +kernel) rfl
theorem ln_X11_80 : Cond.methodLink RX11 80 yX11_compares ∈ gtbl := gin 961 (by decide +kernel) rfl
theorem ln_X11_114 : Cond.methodLink RX11 114 yX11_acts ∈ gtbl := gin 964 (by decide +kernel) rfl
theorem ln_X11_93 : Cond.methodLink RX11 93 yX11_valueOf ∈ gtbl := gin 968 (by decide +kernel) rfl
theorem ln_X11_97 : Cond.methodLink RX11 97 yX11_counts ∈ gtbl := gin 972 (by decide +kernel) rfl
theorem ln_X11_101 : Cond.methodLink RX11 101 yX11_operates ∈ gtbl := gin 976 (by decide +kernel) rfl
theorem ln_X11_142 : Cond.methodLink RX11 142 yX11_ends ∈ gtbl := gin 980 (by decide +kernel) rfl
theorem ln_X11_123 : Cond.methodLink RX11 123 yX11_lays ∈ gtbl := gin 984 (by decide +kernel) rfl
theorem ln_X11_33 : Cond.methodLink RX11 33 yX11_remembers ∈ gtbl := gin 988 (by decide +kernel) rfl
theorem ln_L_46 : Cond.methodLink RL 46 yX11_update ∈ gtbl := gin 992 (by decide +kernel) rfl
theorem ln_X11_146 : Cond.methodLink RX11 146 yX11_whyNotUpdateHere ∈ gtbl := gin 996 (by decide +kernel) rfl
theorem ln_X11_132 : Cond.methodLink RX11 132 yX11_whyNotUpdate ∈ gtbl := gin 1000 (by decide +kernel) rfl
theorem ln_X11_149 : Cond.methodLink RX11 149 yX11_runsUpdate ∈ gtbl := gin 1004 (by decide +kernel) rfl
theorem ln_L_50 : Cond.methodLink RL 50 yX11_delete ∈ gtbl := gin 1008 (by decide +kernel) rfl
theorem ln_X11_152 : Cond.methodLink RX11 152 yX11_runsDelete ∈ gtbl := gin 1012 (by decide +kernel) rfl
theorem ln_L_17 : Cond.methodLink RL 17 yX11_addRule ∈ gtbl := gin 1016 (by decide +kernel) rfl
theorem ln_L_22 : Cond.methodLink RL 22 yX11_setCondition ∈ gtbl := gin 1020 (by decide +kernel) rfl
theorem ln_X11_155 : Cond.methodLink RX11 155 yX11_isRule ∈ gtbl := gin 1024 (by decide +kernel) rfl
theorem ln_L_27 : Cond.methodLink RL 27 yX11_put ∈ gtbl := gin 1028 (by decide +kernel) rfl
theorem ln_X11_158 : Cond.methodLink RX11 158 yX11_rulesOn ∈ gtbl := gin 1032 (by decide +kernel) rfl
theorem ln_L_32 : Cond.methodLink RL 32 yX11_removeRule ∈ gtbl := gin 1036 (by decide +kernel) rfl
theorem ln_L_37 : Cond.methodLink RL 37 yX11_set ∈ gtbl := gin 1040 (by decide +kernel) rfl
theorem ln_L_55 : Cond.methodLink RL 55 yX11_type ∈ gtbl := gin 1044 (by decide +kernel) rfl
theorem ln_L_60 : Cond.methodLink RL 60 yX11_clearText ∈ gtbl := gin 1048 (by decide +kernel) rfl
theorem ln_L_64 : Cond.methodLink RL 64 yX11_perform ∈ gtbl := gin 1052 (by decide +kernel) rfl
theorem ln_X11_195 : Cond.methodLink RX11 195 yX11_fault ∈ gtbl := gin 1056 (by decide +kernel) rfl
theorem ln_X11_189 : Cond.methodLink RX11 189 yX11_statementEnd ∈ gtbl := gin 1060 (by decide +kernel) rfl
theorem ln_X11_164 : Cond.methodLink RX11 164 yX11_sign ∈ gtbl := gin 1064 (by decide +kernel) rfl
theorem ln_X11_183 : Cond.methodLink RX11 183 yX11_insertEnd ∈ gtbl := gin 1068 (by decide +kernel) rfl
theorem ln_X11_171 : Cond.methodLink RX11 171 yX11_numberEnd ∈ gtbl := gin 1072 (by decide +kernel) rfl
theorem ln_X11_168 : Cond.methodLink RX11 168 yX11_digit ∈ gtbl := gin 1076 (by decide +kernel) rfl
theorem ln_X11_180 : Cond.methodLink RX11 180 yX11_valueBehind ∈ gtbl := gin 1080 (by decide +kernel) rfl
theorem ln_X11_174 : Cond.methodLink RX11 174 yX11_behind ∈ gtbl := gin 1084 (by decide +kernel) rfl
theorem ln_X11_177 : Cond.methodLink RX11 177 yX11_valueEnd ∈ gtbl := gin 1088 (by decide +kernel) rfl
theorem ln_X11_186 : Cond.methodLink RX11 186 yX11_updateEnd ∈ gtbl := gin 1092 (by decide +kernel) rfl
theorem ln_X11_198 : Cond.methodLink RX11 198 yX11_does ∈ gtbl := gin 1096 (by decide +kernel) rfl
theorem ln_X11_192 : Cond.methodLink RX11 192 yX11_numberAt ∈ gtbl := gin 1100 (by decide +kernel) rfl
theorem ln_L_68 : Cond.methodLink RL 68 yX11_undo ∈ gtbl := gin 1104 (by decide +kernel) rfl
theorem ln_L_72 : Cond.methodLink RL 72 yX11_keep ∈ gtbl := gin 1108 (by decide +kernel) rfl
theorem ln_L_76 : Cond.methodLink RL 76 yX11_restore ∈ gtbl := gin 1112 (by decide +kernel) rfl
theorem ln_L_80 : Cond.methodLink RL 80 yX11_field ∈ gtbl := gin 1116 (by decide +kernel) rfl
theorem ln_L_84 : Cond.methodLink RL 84 yX11_keyAt ∈ gtbl := gin 1120 (by decide +kernel) rfl
theorem ln_L_88 : Cond.methodLink RL 88 yX11_rule ∈ gtbl := gin 1124 (by decide +kernel) rfl
theorem ln_L_92 : Cond.methodLink RL 92 yX11_order ∈ gtbl := gin 1128 (by decide +kernel) rfl
theorem ln_L_96 : Cond.methodLink RL 96 yX11_firing ∈ gtbl := gin 1132 (by decide +kernel) rfl
theorem ln_L_100 : Cond.methodLink RL 100 yX11_total ∈ gtbl := gin 1136 (by decide +kernel) rfl
theorem ln_L_105 : Cond.methodLink RL 105 yX11_ifInserted ∈ gtbl := gin 1140 (by decide +kernel) rfl
theorem ln_X11_205 : Cond.methodLink RX11 205 yX11_told ∈ gtbl := gin 1144 (by decide +kernel) rfl
theorem ln_L_109 : Cond.methodLink RL 109 yX11_ifUpdated ∈ gtbl := gin 1148 (by decide +kernel) rfl
theorem ln_L_113 : Cond.methodLink RL 113 yX11_ifDeleted ∈ gtbl := gin 1152 (by decide +kernel) rfl
theorem ln_L_117 : Cond.methodLink RL 117 yX11_depthFor ∈ gtbl := gin 1156 (by decide +kernel) rfl
theorem fl_X4_7 : FL RX4 7 4 0 := ⟨by decide, by decide, gin 117 (by decide +kernel) rfl⟩
theorem fl_X8_22 : FL RX8 22 4 0 := ⟨by decide, by decide, gin 118 (by decide +kernel) rfl⟩
theorem fl_X0_150 : FL RX0 150 4 0 := ⟨by decide, by decide, gin 119 (by decide +kernel) rfl⟩
theorem fl_X10_178 : FL RX10 178 4 0 := ⟨by decide, by decide, gin 120 (by decide +kernel) rfl⟩
theorem fl_X4_13 : FL RX4 13 4 1 := ⟨by decide, by decide, gin 121 (by decide +kernel) rfl⟩
theorem fl_X4_16 : FL RX4 16 4 2 := ⟨by decide, by decide, gin 122 (by decide +kernel) rfl⟩
theorem fl_X4_19 : FL RX4 19 4 3 := ⟨by decide, by decide, gin 123 (by decide +kernel) rfl⟩
theorem fl_X8_11 : FL RX8 11 8 0 := ⟨by decide, by decide, gin 133 (by decide +kernel) rfl⟩
theorem fl_X8_18 : FL RX8 18 8 1 := ⟨by decide, by decide, gin 134 (by decide +kernel) rfl⟩
theorem fl_X7_61 : FL RX7 61 8 1 := ⟨by decide, by decide, gin 135 (by decide +kernel) rfl⟩
theorem fl_X10_163 : FL RX10 163 8 1 := ⟨by decide, by decide, gin 136 (by decide +kernel) rfl⟩
theorem fl_X5_9 : FL RX5 9 5 0 := ⟨by decide, by decide, gin 155 (by decide +kernel) rfl⟩
theorem fl_X5_15 : FL RX5 15 5 1 := ⟨by decide, by decide, gin 156 (by decide +kernel) rfl⟩
theorem fl_X5_18 : FL RX5 18 5 2 := ⟨by decide, by decide, gin 157 (by decide +kernel) rfl⟩
theorem fl_X6_48 : FL RX6 48 5 2 := ⟨by decide, by decide, gin 158 (by decide +kernel) rfl⟩
theorem fl_X5_21 : FL RX5 21 5 3 := ⟨by decide, by decide, gin 159 (by decide +kernel) rfl⟩
theorem fl_X0_147 : FL RX0 147 5 3 := ⟨by decide, by decide, gin 160 (by decide +kernel) rfl⟩
theorem fl_X5_24 : FL RX5 24 5 4 := ⟨by decide, by decide, gin 161 (by decide +kernel) rfl⟩
theorem fl_X0_156 : FL RX0 156 5 4 := ⟨by decide, by decide, gin 162 (by decide +kernel) rfl⟩
theorem fl_X5_27 : FL RX5 27 5 5 := ⟨by decide, by decide, gin 163 (by decide +kernel) rfl⟩
theorem fl_X5_30 : FL RX5 30 5 6 := ⟨by decide, by decide, gin 164 (by decide +kernel) rfl⟩
theorem fl_X5_44 : FL RX5 44 5 7 := ⟨by decide, by decide, gin 165 (by decide +kernel) rfl⟩
theorem fl_X5_47 : FL RX5 47 5 8 := ⟨by decide, by decide, gin 166 (by decide +kernel) rfl⟩
theorem fl_X5_50 : FL RX5 50 5 9 := ⟨by decide, by decide, gin 167 (by decide +kernel) rfl⟩
theorem fl_X5_37 : FL RX5 37 5 10 := ⟨by decide, by decide, gin 168 (by decide +kernel) rfl⟩
theorem fl_X10_93 : FL RX10 93 5 10 := ⟨by decide, by decide, gin 169 (by decide +kernel) rfl⟩
theorem fl_X6_38 : FL RX6 38 5 10 := ⟨by decide, by decide, gin 170 (by decide +kernel) rfl⟩
theorem fl_X0_194 : FL RX0 194 5 10 := ⟨by decide, by decide, gin 171 (by decide +kernel) rfl⟩
theorem fl_X5_41 : FL RX5 41 5 11 := ⟨by decide, by decide, gin 172 (by decide +kernel) rfl⟩
theorem fl_X0_213 : FL RX0 213 5 11 := ⟨by decide, by decide, gin 173 (by decide +kernel) rfl⟩
theorem fl_X6_11 : FL RX6 11 6 0 := ⟨by decide, by decide, gin 200 (by decide +kernel) rfl⟩
theorem fl_X6_17 : FL RX6 17 6 1 := ⟨by decide, by decide, gin 201 (by decide +kernel) rfl⟩
theorem fl_X6_22 : FL RX6 22 6 2 := ⟨by decide, by decide, gin 202 (by decide +kernel) rfl⟩
theorem fl_X7_64 : FL RX7 64 6 2 := ⟨by decide, by decide, gin 203 (by decide +kernel) rfl⟩
theorem fl_X10_104 : FL RX10 104 6 2 := ⟨by decide, by decide, gin 204 (by decide +kernel) rfl⟩
theorem fl_X0_184 : FL RX0 184 6 2 := ⟨by decide, by decide, gin 205 (by decide +kernel) rfl⟩
theorem fl_X1_9 : FL RX1 9 1 0 := ⟨by decide, by decide, gin 219 (by decide +kernel) rfl⟩
theorem fl_X1_15 : FL RX1 15 1 1 := ⟨by decide, by decide, gin 220 (by decide +kernel) rfl⟩
theorem fl_X1_18 : FL RX1 18 1 2 := ⟨by decide, by decide, gin 221 (by decide +kernel) rfl⟩
theorem fl_X1_21 : FL RX1 21 1 3 := ⟨by decide, by decide, gin 222 (by decide +kernel) rfl⟩
theorem fl_X7_69 : FL RX7 69 1 3 := ⟨by decide, by decide, gin 223 (by decide +kernel) rfl⟩
theorem fl_X0_128 : FL RX0 128 1 3 := ⟨by decide, by decide, gin 224 (by decide +kernel) rfl⟩
theorem fl_X7_12 : FL RX7 12 7 0 := ⟨by decide, by decide, gin 234 (by decide +kernel) rfl⟩
theorem fl_X0_39 : FL RX0 39 7 0 := ⟨by decide, by decide, gin 235 (by decide +kernel) rfl⟩
theorem fl_X10_159 : FL RX10 159 7 0 := ⟨by decide, by decide, gin 236 (by decide +kernel) rfl⟩
theorem fl_X7_21 : FL RX7 21 7 1 := ⟨by decide, by decide, gin 237 (by decide +kernel) rfl⟩
theorem fl_X10_61 : FL RX10 61 7 1 := ⟨by decide, by decide, gin 238 (by decide +kernel) rfl⟩
theorem fl_X0_180 : FL RX0 180 7 1 := ⟨by decide, by decide, gin 239 (by decide +kernel) rfl⟩
theorem fl_X7_28 : FL RX7 28 7 2 := ⟨by decide, by decide, gin 240 (by decide +kernel) rfl⟩
theorem fl_X0_124 : FL RX0 124 7 2 := ⟨by decide, by decide, gin 241 (by decide +kernel) rfl⟩
theorem fl_X10_187 : FL RX10 187 7 2 := ⟨by decide, by decide, gin 242 (by decide +kernel) rfl⟩
theorem fl_X7_32 : FL RX7 32 7 3 := ⟨by decide, by decide, gin 243 (by decide +kernel) rfl⟩
theorem fl_X10_108 : FL RX10 108 7 3 := ⟨by decide, by decide, gin 244 (by decide +kernel) rfl⟩
theorem fl_X0_225 : FL RX0 225 7 3 := ⟨by decide, by decide, gin 245 (by decide +kernel) rfl⟩
theorem fl_X7_46 : FL RX7 46 7 4 := ⟨by decide, by decide, gin 246 (by decide +kernel) rfl⟩
theorem fl_X10_111 : FL RX10 111 7 4 := ⟨by decide, by decide, gin 247 (by decide +kernel) rfl⟩
theorem fl_X0_236 : FL RX0 236 7 4 := ⟨by decide, by decide, gin 248 (by decide +kernel) rfl⟩
theorem fl_X7_49 : FL RX7 49 7 5 := ⟨by decide, by decide, gin 249 (by decide +kernel) rfl⟩
theorem fl_X0_100 : FL RX0 100 7 5 := ⟨by decide, by decide, gin 250 (by decide +kernel) rfl⟩
theorem fl_X7_52 : FL RX7 52 7 6 := ⟨by decide, by decide, gin 251 (by decide +kernel) rfl⟩
theorem fl_X0_103 : FL RX0 103 7 6 := ⟨by decide, by decide, gin 252 (by decide +kernel) rfl⟩
theorem fl_X7_55 : FL RX7 55 7 7 := ⟨by decide, by decide, gin 253 (by decide +kernel) rfl⟩
theorem fl_X0_107 : FL RX0 107 7 7 := ⟨by decide, by decide, gin 254 (by decide +kernel) rfl⟩
theorem fl_X7_58 : FL RX7 58 7 8 := ⟨by decide, by decide, gin 255 (by decide +kernel) rfl⟩
theorem fl_X0_111 : FL RX0 111 7 8 := ⟨by decide, by decide, gin 256 (by decide +kernel) rfl⟩
theorem fl_X3_16 : FL RX3 16 3 0 := ⟨by decide, by decide, gin 284 (by decide +kernel) rfl⟩
theorem fl_X0_162 : FL RX0 162 3 0 := ⟨by decide, by decide, gin 285 (by decide +kernel) rfl⟩
theorem fl_X3_20 : FL RX3 20 3 1 := ⟨by decide, by decide, gin 286 (by decide +kernel) rfl⟩
theorem fl_X0_222 : FL RX0 222 3 1 := ⟨by decide, by decide, gin 287 (by decide +kernel) rfl⟩
theorem fl_X3_10 : FL RX3 10 3 2 := ⟨by decide, by decide, gin 288 (by decide +kernel) rfl⟩
theorem fl_X0_63 : FL RX0 63 3 2 := ⟨by decide, by decide, gin 289 (by decide +kernel) rfl⟩
theorem fl_X0_12 : FL RX0 12 0 0 := ⟨by decide, by decide, gin 298 (by decide +kernel) rfl⟩
theorem fl_X10_58 : FL RX10 58 0 0 := ⟨by decide, by decide, gin 299 (by decide +kernel) rfl⟩
theorem fl_X0_27 : FL RX0 27 0 1 := ⟨by decide, by decide, gin 300 (by decide +kernel) rfl⟩
theorem fl_X0_18 : FL RX0 18 0 2 := ⟨by decide, by decide, gin 301 (by decide +kernel) rfl⟩
theorem fl_X0_106 : FL RX0 106 0 3 := ⟨by decide, by decide, gin 302 (by decide +kernel) rfl⟩
theorem fl_X0_110 : FL RX0 110 0 4 := ⟨by decide, by decide, gin 303 (by decide +kernel) rfl⟩
theorem fl_X0_114 : FL RX0 114 0 5 := ⟨by decide, by decide, gin 304 (by decide +kernel) rfl⟩
theorem fl_X0_96 : FL RX0 96 0 6 := ⟨by decide, by decide, gin 305 (by decide +kernel) rfl⟩
theorem fl_X0_121 : FL RX0 121 0 7 := ⟨by decide, by decide, gin 306 (by decide +kernel) rfl⟩
theorem fl_X2_11 : FL RX2 11 2 0 := ⟨by decide, by decide, gin 335 (by decide +kernel) rfl⟩
theorem fl_X2_18 : FL RX2 18 2 1 := ⟨by decide, by decide, gin 336 (by decide +kernel) rfl⟩
theorem fl_X10_155 : FL RX10 155 2 1 := ⟨by decide, by decide, gin 337 (by decide +kernel) rfl⟩
theorem fl_X9_9 : FL RX9 9 9 0 := ⟨by decide, by decide, gin 349 (by decide +kernel) rfl⟩
theorem fl_X9_15 : FL RX9 15 9 1 := ⟨by decide, by decide, gin 350 (by decide +kernel) rfl⟩
theorem fl_X10_136 : FL RX10 136 9 1 := ⟨by decide, by decide, gin 351 (by decide +kernel) rfl⟩
theorem fl_X9_19 : FL RX9 19 9 2 := ⟨by decide, by decide, gin 352 (by decide +kernel) rfl⟩
theorem fl_X9_22 : FL RX9 22 9 3 := ⟨by decide, by decide, gin 353 (by decide +kernel) rfl⟩
theorem fl_X9_46 : FL RX9 46 9 4 := ⟨by decide, by decide, gin 354 (by decide +kernel) rfl⟩
theorem fl_X10_212 : FL RX10 212 9 4 := ⟨by decide, by decide, gin 355 (by decide +kernel) rfl⟩
theorem fl_X9_53 : FL RX9 53 9 5 := ⟨by decide, by decide, gin 356 (by decide +kernel) rfl⟩
theorem fl_X10_215 : FL RX10 215 9 5 := ⟨by decide, by decide, gin 357 (by decide +kernel) rfl⟩
theorem fl_X9_71 : FL RX9 71 9 6 := ⟨by decide, by decide, gin 358 (by decide +kernel) rfl⟩
theorem fl_X10_225 : FL RX10 225 9 6 := ⟨by decide, by decide, gin 359 (by decide +kernel) rfl⟩
theorem fl_X9_59 : FL RX9 59 9 7 := ⟨by decide, by decide, gin 360 (by decide +kernel) rfl⟩
theorem fl_X10_216 : FL RX10 216 9 7 := ⟨by decide, by decide, gin 361 (by decide +kernel) rfl⟩
theorem fl_X9_62 : FL RX9 62 9 8 := ⟨by decide, by decide, gin 362 (by decide +kernel) rfl⟩
theorem fl_X10_219 : FL RX10 219 9 8 := ⟨by decide, by decide, gin 363 (by decide +kernel) rfl⟩
theorem fl_X9_65 : FL RX9 65 9 9 := ⟨by decide, by decide, gin 364 (by decide +kernel) rfl⟩
theorem fl_X10_222 : FL RX10 222 9 9 := ⟨by decide, by decide, gin 365 (by decide +kernel) rfl⟩
theorem fl_X10_10 : FL RX10 10 10 0 := ⟨by decide, by decide, gin 388 (by decide +kernel) rfl⟩
theorem fl_X10_19 : FL RX10 19 10 1 := ⟨by decide, by decide, gin 389 (by decide +kernel) rfl⟩
theorem fl_X10_23 : FL RX10 23 10 2 := ⟨by decide, by decide, gin 390 (by decide +kernel) rfl⟩
theorem fl_X10_156 : FL RX10 156 10 3 := ⟨by decide, by decide, gin 391 (by decide +kernel) rfl⟩
theorem fl_X10_29 : FL RX10 29 10 4 := ⟨by decide, by decide, gin 392 (by decide +kernel) rfl⟩
theorem fl_X10_36 : FL RX10 36 10 5 := ⟨by decide, by decide, gin 393 (by decide +kernel) rfl⟩
theorem fl_X11_7 : FL RX11 7 11 0 := ⟨by decide, by decide, gin 837 (by decide +kernel) rfl⟩
theorem fl_X11_13 : FL RX11 13 11 1 := ⟨by decide, by decide, gin 838 (by decide +kernel) rfl⟩
theorem fl_X11_29 : FL RX11 29 11 2 := ⟨by decide, by decide, gin 839 (by decide +kernel) rfl⟩
theorem fl_X11_16 : FL RX11 16 11 3 := ⟨by decide, by decide, gin 840 (by decide +kernel) rfl⟩
theorem fl_X11_201 : FL RX11 201 11 4 := ⟨by decide, by decide, gin 841 (by decide +kernel) rfl⟩
theorem fl_X11_19 : FL RX11 19 11 5 := ⟨by decide, by decide, gin 842 (by decide +kernel) rfl⟩
theorem fl_X11_161 : FL RX11 161 11 6 := ⟨by decide, by decide, gin 843 (by decide +kernel) rfl⟩
theorem fl_X11_22 : FL RX11 22 11 7 := ⟨by decide, by decide, gin 844 (by decide +kernel) rfl⟩
theorem fl_X11_64 : FL RX11 64 11 8 := ⟨by decide, by decide, gin 845 (by decide +kernel) rfl⟩
theorem fl_X11_83 : FL RX11 83 11 9 := ⟨by decide, by decide, gin 846 (by decide +kernel) rfl⟩
theorem fl_X11_70 : FL RX11 70 11 10 := ⟨by decide, by decide, gin 847 (by decide +kernel) rfl⟩
theorem fl_X11_48 : FL RX11 48 11 11 := ⟨by decide, by decide, gin 848 (by decide +kernel) rfl⟩
theorem fl_X11_51 : FL RX11 51 11 12 := ⟨by decide, by decide, gin 849 (by decide +kernel) rfl⟩
theorem cl_L_7 : Cond.classLink RL 7 RX10 ∈ gtbl := gin 84 (by decide +kernel) rfl
theorem cl_X10_7 : Cond.classLink RX10 7 RX0 ∈ gtbl := gin 92 (by decide +kernel) rfl
theorem cl_X0_9 : Cond.classLink RX0 9 RX7 ∈ gtbl := gin 98 (by decide +kernel) rfl
theorem cl_X7_9 : Cond.classLink RX7 9 RX8 ∈ gtbl := gin 104 (by decide +kernel) rfl
theorem cl_X8_9 : Cond.classLink RX8 9 RX4 ∈ gtbl := gin 110 (by decide +kernel) rfl
theorem cl_X7_18 : Cond.classLink RX7 18 RX6 ∈ gtbl := gin 142 (by decide +kernel) rfl
theorem cl_X6_9 : Cond.classLink RX6 9 RX5 ∈ gtbl := gin 148 (by decide +kernel) rfl
theorem cl_X7_25 : Cond.classLink RX7 25 RX1 ∈ gtbl := gin 213 (by decide +kernel) rfl
theorem cl_X0_22 : Cond.classLink RX0 22 RX3 ∈ gtbl := gin 276 (by decide +kernel) rfl
theorem cl_X3_7 : Cond.classLink RX3 7 RX4 ∈ gtbl := gin 282 (by decide +kernel) rfl
theorem cl_X10_16 : Cond.classLink RX10 16 RX7 ∈ gtbl := gin 324 (by decide +kernel) rfl
theorem cl_X10_26 : Cond.classLink RX10 26 RX2 ∈ gtbl := gin 326 (by decide +kernel) rfl
theorem cl_X2_9 : Cond.classLink RX2 9 RX7 ∈ gtbl := gin 332 (by decide +kernel) rfl
theorem cl_X10_33 : Cond.classLink RX10 33 RX9 ∈ gtbl := gin 343 (by decide +kernel) rfl
theorem cl_L_10 : Cond.classLink RL 10 RX11 ∈ gtbl := gin 831 (by decide +kernel) rfl
theorem nw_X10 : Cond.instantiable RX10 6 ∈ gtbl ∧ Cond.initialized RX10 ∈ gtbl := ⟨gin 85 (by decide +kernel) rfl, gin 70 (by decide +kernel) rfl⟩
theorem nw_X0 : Cond.instantiable RX0 8 ∈ gtbl ∧ Cond.initialized RX0 ∈ gtbl := ⟨gin 93 (by decide +kernel) rfl, gin 71 (by decide +kernel) rfl⟩
theorem nw_X7 : Cond.instantiable RX7 9 ∈ gtbl ∧ Cond.initialized RX7 ∈ gtbl := ⟨gin 99 (by decide +kernel) rfl, gin 72 (by decide +kernel) rfl⟩
theorem nw_X8 : Cond.instantiable RX8 2 ∈ gtbl ∧ Cond.initialized RX8 ∈ gtbl := ⟨gin 105 (by decide +kernel) rfl, gin 73 (by decide +kernel) rfl⟩
theorem nw_X4 : Cond.instantiable RX4 4 ∈ gtbl ∧ Cond.initialized RX4 ∈ gtbl := ⟨gin 112 (by decide +kernel) rfl, gin 74 (by decide +kernel) rfl⟩
theorem nw_X6 : Cond.instantiable RX6 3 ∈ gtbl ∧ Cond.initialized RX6 ∈ gtbl := ⟨gin 143 (by decide +kernel) rfl, gin 75 (by decide +kernel) rfl⟩
theorem nw_X5 : Cond.instantiable RX5 12 ∈ gtbl ∧ Cond.initialized RX5 ∈ gtbl := ⟨gin 150 (by decide +kernel) rfl, gin 76 (by decide +kernel) rfl⟩
theorem nw_X1 : Cond.instantiable RX1 4 ∈ gtbl ∧ Cond.initialized RX1 ∈ gtbl := ⟨gin 214 (by decide +kernel) rfl, gin 77 (by decide +kernel) rfl⟩
theorem nw_X3 : Cond.instantiable RX3 3 ∈ gtbl ∧ Cond.initialized RX3 ∈ gtbl := ⟨gin 277 (by decide +kernel) rfl, gin 78 (by decide +kernel) rfl⟩
theorem nw_X2 : Cond.instantiable RX2 2 ∈ gtbl ∧ Cond.initialized RX2 ∈ gtbl := ⟨gin 327 (by decide +kernel) rfl, gin 79 (by decide +kernel) rfl⟩
theorem nw_X9 : Cond.instantiable RX9 10 ∈ gtbl ∧ Cond.initialized RX9 ∈ gtbl := ⟨gin 344 (by decide +kernel) rfl, gin 80 (by decide +kernel) rfl⟩
theorem nw_X11 : Cond.instantiable RX11 13 ∈ gtbl ∧ Cond.initialized RX11 ∈ gtbl := ⟨gin 832 (by decide +kernel) rfl, gin 81 (by decide +kernel) rfl⟩
theorem ow : Cond.instanceMethod objectInit ∈ gtbl ∧ Cond.code objectInit ⟨#[0xb1]⟩ 1 none ∈ gtbl := ⟨gin 90 (by decide +kernel) rfl, gin 91 (by decide +kernel) rfl⟩
theorem mw_max : mW Lib.Math.max.name Lib.Math.max.code := ⟨gin 565 (by decide +kernel) rfl, gin 83 (by decide +kernel) rfl, gin 566 (by decide +kernel) rfl⟩
theorem mw_min : mW Lib.Math.min.name Lib.Math.min.code := ⟨gin 605 (by decide +kernel) rfl, gin 83 (by decide +kernel) rfl, gin 606 (by decide +kernel) rfl⟩
theorem aw : Cond.native arraycopyName ∈ gtbl ∧ Cond.static arraycopyName ∈ gtbl ∧ Cond.initialized "java/lang/System" ∈ gtbl := ⟨gin 476 (by decide +kernel) rfl, gin 475 (by decide +kernel) rfl, gin 82 (by decide +kernel) rfl⟩
theorem ac_int : Cond.arrayClass .int ∈ gtbl := gin 199 (by decide +kernel) rfl
theorem ac_boolean : Cond.arrayClass .boolean ∈ gtbl := gin 297 (by decide +kernel) rfl
theorem ac_char : Cond.arrayClass .char ∈ gtbl := gin 387 (by decide +kernel) rfl
end
section
/-! LIBRARY: numbers, indexes, the layout of the cells -/
theorem Sp.on {Y : MT} {d mc ms : Nat} {as : List Value} {g : Geo} {I : MI} {R : MR} {Φ : Po} (hp : plainName Y.1.cls = true) (hc : as.all (fun v => v.category == 1) = true) (hn : Nat.ble as.length Y.2.2.1 = true) (h : ∀ J, OkM Y d mc ms g.1 Φ J → J 0 0 0 (ent as Y.2.2.1) [] g I R) : Sp d mc ms Y as g I R Φ :=
  Sp.of hp (fun v hv => by simpa using List.all_eq_true.mp hc v hv) (Nat.le_of_ble_eq_true hn) h
def Rt (r0 : Option Value) (g : Geo) (I2 : MI) (R2 : MR) : Po := fun r g' I' R' => r = r0 ∧ g = g' ∧ I2 = I' ∧ R2 = R'
theorem i_ne {x k : Int32} (h : ¬ x = k) : x.toInt ≠ k.toInt := fun q => h (Int32.toInt_inj.mp q)
theorem tsw_out3 {x : Int32} (h0 : ¬ x = 0) (h1 : ¬ x = 1) (h2 : ¬ x = 2) : x.toInt < 0 ∨ 2 < x.toInt := by
  have e0 : x.toInt ≠ 0 := i_ne h0
  have e1 : x.toInt ≠ 1 := i_ne h1
  have e2 : x.toInt ≠ 2 := i_ne h2
  omega
theorem tsw_out4 {x : Int32} (h0 : ¬ x = 0) (h1 : ¬ x = 1) (h2 : ¬ x = 2) (h3 : ¬ x = 3) : x.toInt < 0 ∨ 3 < x.toInt := by
  have e0 : x.toInt ≠ 0 := i_ne h0
  have e1 : x.toInt ≠ 1 := i_ne h1
  have e2 : x.toInt ≠ 2 := i_ne h2
  have e3 : x.toInt ≠ 3 := i_ne h3
  omega
theorem tsw_out5 {x : Int32} (h0 : ¬ x = 0) (h1 : ¬ x = 1) (h2 : ¬ x = 2) (h3 : ¬ x = 3) (h4 : ¬ x = 4) : x.toInt < 0 ∨ 4 < x.toInt := by
  have e0 : x.toInt ≠ 0 := i_ne h0
  have e1 : x.toInt ≠ 1 := i_ne h1
  have e2 : x.toInt ≠ 2 := i_ne h2
  have e3 : x.toInt ≠ 3 := i_ne h3
  have e4 : x.toInt ≠ 4 := i_ne h4
  omega
theorem tsw_out10 {x : Int32} (h0 : ¬ x = 0) (h1 : ¬ x = 1) (h2 : ¬ x = 2) (h3 : ¬ x = 3) (h4 : ¬ x = 4) (h5 : ¬ x = 5) (h6 : ¬ x = 6) (h7 : ¬ x = 7) (h8 : ¬ x = 8) (h9 : ¬ x = 9) : x.toInt < 0 ∨ 9 < x.toInt := by
  have e0 : x.toInt ≠ 0 := i_ne h0
  have e1 : x.toInt ≠ 1 := i_ne h1
  have e2 : x.toInt ≠ 2 := i_ne h2
  have e3 : x.toInt ≠ 3 := i_ne h3
  have e4 : x.toInt ≠ 4 := i_ne h4
  have e5 : x.toInt ≠ 5 := i_ne h5
  have e6 : x.toInt ≠ 6 := i_ne h6
  have e7 : x.toInt ≠ 7 := i_ne h7
  have e8 : x.toInt ≠ 8 := i_ne h8
  have e9 : x.toInt ≠ 9 := i_ne h9
  omega
theorem tsw_out12 {x : Int32} (h0 : ¬ x = 0) (h1 : ¬ x = 1) (h2 : ¬ x = 2) (h3 : ¬ x = 3) (h4 : ¬ x = 4) (h5 : ¬ x = 5) (h6 : ¬ x = 6) (h7 : ¬ x = 7) (h8 : ¬ x = 8) (h9 : ¬ x = 9) (h10 : ¬ x = 10) (h11 : ¬ x = 11) : x.toInt < 0 ∨ 11 < x.toInt := by
  have e0 := tsw_out10 h0 h1 h2 h3 h4 h5 h6 h7 h8 h9
  have e10 : x.toInt ≠ 10 := i_ne h10
  have e11 : x.toInt ≠ 11 := i_ne h11
  omega
theorem lsw_out2 {x k0 k1 : Int32} {a0 a1 o0 o1 d : Int} (e0 : k0.toInt = a0) (h0 : ¬ x = k0) (e1 : k1.toInt = a1) (h1 : ¬ x = k1) : Op.lookupswitch.offset [(a0, o0), (a1, o1)] d x.toInt = d := by
  rw [lv_osw h0 e0, lv_osw h1 e1]; rfl
theorem lsw_out3 {x k0 k1 k2 : Int32} {a0 a1 a2 o0 o1 o2 d : Int} (e0 : k0.toInt = a0) (h0 : ¬ x = k0) (e1 : k1.toInt = a1) (h1 : ¬ x = k1) (e2 : k2.toInt = a2) (h2 : ¬ x = k2) : Op.lookupswitch.offset [(a0, o0), (a1, o1), (a2, o2)] d x.toInt = d := by
  rw [lv_osw h0 e0, lv_osw h1 e1, lv_osw h2 e2]; rfl
theorem ix_nI {j n : Nat} (h : j < n) (hn : n ≤ 2000000) : ix (nI j) j n := ⟨nI_toInt (by omega), h⟩
theorem nI_mul (a b : Nat) : nI a * nI b = nI (a * b) := (Int32.ofNat_mul a b).symm
theorem nI_sub {a b : Nat} (h : b ≤ a) : nI a - nI b = nI (a - b) := by
  have e : nI a = nI (a - b) + nI b := by rw [nI_add]; congr 1; omega
  rw [e, Int32.add_sub_cancel]
theorem up2_app {α : Type} (f : Nat → Nat → α) (a k : Nat) (v : α) (b j : Nat) : up2 f a k v b j = if b = a ∧ j = k then v else f b j := rfl
/-! the layout: a state's forty-two cells, and all three hundred and twenty-three -/
def stK (o : Nat) : Nat × Nat := if o = 0 then (7, 0) else if o = 1 then (8, 0) else if o = 2 then (15, 20) else if o < 23 then (4, 0) else if o = 23 then (6, 0) else if o = 24 then (16, 12) else if o = 25 then (13, 12) else if o < 38 then (5, 0) else if o = 38 then (1, 0) else (13, 60)
def K0 (a : Nat) : Nat × Nat :=
  if a = 0 then (10, 0) else if a = 1 then (0, 0) else if a < 44 then stK (a - 2) else if a = 44 then (14, 12) else if a < 61 then (if a % 2 = 1 then (3, 0) else (4, 0))
  else if a < 103 then stK (a - 61) else if a < 145 then stK (a - 103) else if a = 145 then (2, 0) else if a = 146 then (17, 4) else if a < 315 then stK ((a - 147) % 42) else if a = 315 then (9, 0) else if a = 316 then (12, 80)
  else if a = 317 then (11, 0) else if a = 318 then (13, 826) else if a = 319 then (13, 1652) else if a = 320 then (13, 413) else if a = 321 then (13, 80) else if a = 322 then (13, 72) else (0, 0)
def g0 : Geo := (323, K0)
def isB (b : Nat) : Prop := b = 2 ∨ b = 61 ∨ b = 103 ∨ b = 147 ∨ b = 189 ∨ b = 231 ∨ b = 273
theorem ka0 {a k n : Nat} (h : decide (a < 323 ∧ K0 a = (k, n)) = true) : KA g0 a k n := (of_decide_eq_true h : a < 323 ∧ K0 a = (k, n))
theorem ka_st {b o : Nat} (hB : isB b) (ho : o < 42) : KA g0 (b + o) (stK o).1 (stK o).2 := by
  have key : ∀ o, o < 42 → (2 + o < 323 ∧ K0 (2 + o) = stK o) ∧ (61 + o < 323 ∧ K0 (61 + o) = stK o) ∧ (103 + o < 323 ∧ K0 (103 + o) = stK o) ∧ (147 + o < 323 ∧ K0 (147 + o) = stK o) ∧ (189 + o < 323 ∧ K0 (189 + o) = stK o) ∧ (231 + o < 323 ∧ K0 (231 + o) = stK o) ∧ (273 + o < 323 ∧ K0 (273 + o) = stK o) := by decide +kernel
  obtain ⟨h1, h2, h3, h4, h5, h6, h7⟩ := key o ho
  rcases hB with rfl | rfl | rfl | rfl | rfl | rfl | rfl <;> assumption
theorem ka_sta {b : Nat} (hB : isB b) : KA g0 b 7 0 := ka_st (o := 0) hB (by decide)
theorem ka_tbl {b : Nat} (hB : isB b) : KA g0 (b + 1) 8 0 := ka_st (o := 1) hB (by decide)
theorem ka_rws {b : Nat} (hB : isB b) : KA g0 (b + 2) 15 20 := ka_st (o := 2) hB (by decide)
theorem ka_rls {b : Nat} (hB : isB b) : KA g0 (b + 23) 6 0 := ka_st (o := 23) hB (by decide)
theorem ka_rla {b : Nat} (hB : isB b) : KA g0 (b + 24) 16 12 := ka_st (o := 24) hB (by decide)
theorem ka_num {b : Nat} (hB : isB b) : KA g0 (b + 25) 13 12 := ka_st (o := 25) hB (by decide)
theorem ka_log {b : Nat} (hB : isB b) : KA g0 (b + 38) 1 0 := ka_st (o := 38) hB (by decide)
theorem ka_l0 {b : Nat} (hB : isB b) : KA g0 (b + 39) 13 60 := ka_st (o := 39) hB (by decide)
theorem ka_l1 {b : Nat} (hB : isB b) : KA g0 (b + 40) 13 60 := ka_st (o := 40) hB (by decide)
theorem ka_l2 {b : Nat} (hB : isB b) : KA g0 (b + 41) 13 60 := ka_st (o := 41) hB (by decide)
theorem ka_row {b a : Nat} (hB : isB b) (h1 : b + 3 ≤ a) (h2 : a < b + 23) : KA g0 a 4 0 := by
  have h := ka_st (o := a - b) hB (by omega)
  rw [show b + (a - b) = a by omega] at h
  have e : stK (a - b) = (4, 0) := by
    have h3 : ¬ a - b = 0 := by omega
    have h4 : ¬ a - b = 1 := by omega
    have h5 : ¬ a - b = 2 := by omega
    have h6 : a - b < 23 := by omega
    simp only [stK, if_neg h3, if_neg h4, if_neg h5, if_pos h6]
  rw [e] at h
  exact h
theorem ka_rul {b a : Nat} (hB : isB b) (h1 : b + 26 ≤ a) (h2 : a < b + 38) : KA g0 a 5 0 := by
  have h := ka_st (o := a - b) hB (by omega)
  rw [show b + (a - b) = a by omega] at h
  have e : stK (a - b) = (5, 0) := by
    have key : ∀ o, 26 ≤ o → o < 38 → stK o = (5, 0) := by
      intro o h1 h2
      have : ∀ o, o < 38 → 26 ≤ o → stK o = (5, 0) := by decide +kernel
      exact this o h2 h1
    exact key _ (by omega) (by omega)
  rw [e] at h
  exact h
/-- the references that never change -/
def SR (R : MR) (b : Nat) : Prop := R b 0 = some (b + 1) ∧ R b 1 = some (b + 23) ∧ R b 2 = some (b + 38) ∧ R (b + 1) 0 = some (b + 2) ∧ R (b + 23) 0 = some (b + 24) ∧ R (b + 23) 1 = some (b + 25) ∧ R (b + 38) 0 = some (b + 39) ∧ R (b + 38) 1 = some (b + 40) ∧ R (b + 38) 2 = some (b + 41)
def FR (R : MR) : Prop := (∀ b, isB b → SR R b) ∧ (R 0 0 = some 1 ∧ R 0 1 = some 61 ∧ R 0 2 = some 103 ∧ R 0 4 = some 145 ∧ R 0 5 = some 315) ∧ (R 1 0 = some 2 ∧ R 1 1 = some 59 ∧ R 1 2 = some 44) ∧ (R 145 0 = some 146 ∧ R 315 0 = some 316) ∧ (∀ d, 1 ≤ d → d ≤ 8 → R (61 - 2 * d) 2 = some (62 - 2 * d) ∧ R (61 - 2 * d) 1 = if d = 8 then none else some (59 - 2 * d)) ∧ (R 317 0 = some 318 ∧ R 317 1 = some 319 ∧ R 317 3 = some 320 ∧ R 317 5 = some 321 ∧ R 317 7 = some 322)
def raA (a : Nat) : Prop := 15 ≤ (K0 a).1
theorem raA_2 {b : Nat} (hB : isB b) : raA (b + 2) := by
  rcases hB with rfl | rfl | rfl | rfl | rfl | rfl | rfl <;> (unfold raA; decide)
theorem raA_24 {b : Nat} (hB : isB b) : raA (b + 24) := by
  rcases hB with rfl | rfl | rfl | rfl | rfl | rfl | rfl <;> (unfold raA; decide)
theorem FR.upd {R : MR} (h : FR R) {a k : Nat} {v : Option Nat} (ha : raA a) : FR (up2 R a k v) := by
  have ne : ∀ c, ¬ raA c → up2 R a k v c = R c := fun c hc => up2_other R a k v (fun e => hc (e ▸ ha))
  obtain ⟨h1, ⟨h2, h3, h4, h5, h6⟩, ⟨h7, h8, h9⟩, ⟨h10, h11⟩, h12, ⟨h13, h14, h15, h16, h17⟩⟩ := h
  have n0 : ¬ raA 0 := by unfold raA; decide
  have n1 : ¬ raA 1 := by unfold raA; decide
  have n145 : ¬ raA 145 := by unfold raA; decide
  have n315 : ¬ raA 315 := by unfold raA; decide
  have n317 : ¬ raA 317 := by unfold raA; decide
  refine ⟨fun b hB => ?_, ?_, ?_, ?_, fun d hd1 hd8 => ?_, ?_⟩
  · have m0 : ¬ raA b := by rcases hB with rfl | rfl | rfl | rfl | rfl | rfl | rfl <;> (unfold raA; decide)
    have m1 : ¬ raA (b + 1) := by rcases hB with rfl | rfl | rfl | rfl | rfl | rfl | rfl <;> (unfold raA; decide)
    have m23 : ¬ raA (b + 23) := by rcases hB with rfl | rfl | rfl | rfl | rfl | rfl | rfl <;> (unfold raA; decide)
    have m38 : ¬ raA (b + 38) := by rcases hB with rfl | rfl | rfl | rfl | rfl | rfl | rfl <;> (unfold raA; decide)
    have q := h1 b hB
    unfold SR at q ⊢
    rw [ne _ m0, ne _ m1, ne _ m23, ne _ m38]
    exact q
  · rw [ne _ n0]; exact ⟨h2, h3, h4, h5, h6⟩
  · rw [ne _ n1]; exact ⟨h7, h8, h9⟩
  · rw [ne _ n145, ne _ n315]; exact ⟨h10, h11⟩
  · have m : ¬ raA (61 - 2 * d) := by
      have key : ∀ d, d ≤ 8 → 1 ≤ d → ¬ 15 ≤ (K0 (61 - 2 * d)).1 := by decide +kernel
      exact key d hd8 hd1
    rw [ne _ m]
    exact h12 d hd1 hd8
  · rw [ne _ n317]; exact ⟨h13, h14, h15, h16, h17⟩
end
section
/-! ROW AND RULE, and the ranges -/
def inR (x lo hi : Int32) : Int32 := if x < lo then 0 else if hi < x then 0 else 1
def rowF (i : Nat → Int32) (f : Int32) : Int32 := if f = 0 then i 1 else if f = 1 then i 2 else if f = 2 then i 3 else i 0
def rwS (I : MI) (a : Nat) (k z o t : Int32) : MI := up2 (up2 (up2 (up2 I a 0 k) a 1 z) a 2 o) a 3 t
def rwC (I : MI) (a : Nat) (f x : Int32) : MI := if f = 0 then up2 I a 1 x else if f = 1 then up2 I a 2 x else up2 I a 3 x
set_option maxRecDepth 100000 in
set_option maxHeartbeats 400000 in
theorem S_within (x lo hi : Int32) (I : MI) (R : MR) : Sp 0 0 0 mX10_within [.int x, .int lo, .int hi] g0 I R (Rt (some (.int (inR x lo hi))) g0 I R) := by
  refine Sp.on (by decide +kernel) rfl rfl (fun J hM => ?_)
  have hJ := hM.ok
  refine q_iload_n hJ dX10_within_0 (q := 1) rfl rfl ?_
  refine q_iload_n hJ dX10_within_1 (q := 2) rfl rfl ?_
  refine q_icmp_lt hJ (tgt := 14) dX10_within_2 (q := 5) rfl (by decide) (fun c1 => ?_) (fun c1 => ?_)
  · refine q_iconst hJ (v := 0) dX10_within_14 (q := 15) rfl (by decide) ?_
    refine q_iret hM dX10_within_15 rfl (by (first | decide | assumption)) ?_
    exact ⟨by simp [inR, *], rfl, rfl, rfl⟩
  · refine q_iload_n hJ dX10_within_5 (q := 6) rfl rfl ?_
    refine q_iload_n hJ dX10_within_6 (q := 7) rfl rfl ?_
    refine q_icmp_gt hJ (tgt := 14) dX10_within_7 (q := 10) rfl (by decide) (fun c2 => ?_) (fun c2 => ?_)
    · refine q_iconst hJ (v := 0) dX10_within_14 (q := 15) rfl (by decide) ?_
      refine q_iret hM dX10_within_15 rfl (by (first | decide | assumption)) ?_
      exact ⟨by simp [inR, *], rfl, rfl, rfl⟩
    · refine q_iconst hJ (v := 1) dX10_within_10 (q := 11) rfl (by decide) ?_
      refine q_goto hJ (tgt := 15) dX10_within_11 (by decide) ?_
      refine q_iret hM dX10_within_15 rfl (by (first | decide | assumption)) ?_
      exact ⟨by simp [inR, *], rfl, rfl, rfl⟩

theorem inR_01 (x lo hi : Int32) : inR x lo hi = 0 ∨ inR x lo hi = 1 := by
  unfold inR
  split
  · exact Or.inl rfl
  · split
    · exact Or.inl rfl
    · exact Or.inr rfl
theorem nz {ty : FieldType} {x : Int32} (ht : ty = .boolean) (h : x = 0 ∨ x = 1) : narrow ty (.int x) = .int x := by
  subst ht
  rcases h with rfl | rfl <;> decide
set_option maxRecDepth 100000 in
set_option maxHeartbeats 400000 in
theorem S_isReport (x : Int32) (I : MI) (R : MR) : Sp 1 0 0 mX10_isReport [.int x] g0 I R (Rt (some (.int (inR x (0) (4)))) g0 I R) := by
  refine Sp.on (by decide +kernel) rfl rfl (fun J hM => ?_)
  have hJ := hM.ok
  refine q_iload_n hJ dX10_isReport_0 (q := 1) rfl rfl ?_
  refine q_iconst hJ (v := 0) dX10_isReport_1 (q := 2) rfl (by decide) ?_
  refine q_iconst hJ (v := 4) dX10_isReport_2 (q := 3) rfl (by decide) ?_
  refine q_callS hJ dX10_isReport_3 (q := 6) rfl (S_within x (0) (4) I R) imX10_within ln_X10_47 rfl rfl rfl (Nat.le_of_ble_eq_true rfl) (by decide) (by decide) rfl rfl (fun rv gv Iv Rv hv => ?_)
  obtain ⟨rfl, rfl, rfl, rfl⟩ := hv
  refine q_iret hM dX10_isReport_6 rfl (nz rfl (inR_01 _ _ _)) ?_
  exact ⟨rfl, rfl, rfl, rfl⟩

set_option maxRecDepth 100000 in
set_option maxHeartbeats 400000 in
theorem S_isEvent (x : Int32) (I : MI) (R : MR) : Sp 1 0 0 mX10_isEvent [.int x] g0 I R (Rt (some (.int (inR x (0) (2)))) g0 I R) := by
  refine Sp.on (by decide +kernel) rfl rfl (fun J hM => ?_)
  have hJ := hM.ok
  refine q_iload_n hJ dX10_isEvent_0 (q := 1) rfl rfl ?_
  refine q_iconst hJ (v := 0) dX10_isEvent_1 (q := 2) rfl (by decide) ?_
  refine q_iconst hJ (v := 2) dX10_isEvent_2 (q := 3) rfl (by decide) ?_
  refine q_callS hJ dX10_isEvent_3 (q := 6) rfl (S_within x (0) (2) I R) imX10_within ln_X10_47 rfl rfl rfl (Nat.le_of_ble_eq_true rfl) (by decide) (by decide) rfl rfl (fun rv gv Iv Rv hv => ?_)
  obtain ⟨rfl, rfl, rfl, rfl⟩ := hv
  refine q_iret hM dX10_isEvent_6 rfl (nz rfl (inR_01 _ _ _)) ?_
  exact ⟨rfl, rfl, rfl, rfl⟩

set_option maxRecDepth 100000 in
set_option maxHeartbeats 400000 in
theorem S_isMoment (x : Int32) (I : MI) (R : MR) : Sp 1 0 0 mX10_isMoment [.int x] g0 I R (Rt (some (.int (inR x (0) (1)))) g0 I R) := by
  refine Sp.on (by decide +kernel) rfl rfl (fun J hM => ?_)
  have hJ := hM.ok
  refine q_iload_n hJ dX10_isMoment_0 (q := 1) rfl rfl ?_
  refine q_iconst hJ (v := 0) dX10_isMoment_1 (q := 2) rfl (by decide) ?_
  refine q_iconst hJ (v := 1) dX10_isMoment_2 (q := 3) rfl (by decide) ?_
  refine q_callS hJ dX10_isMoment_3 (q := 6) rfl (S_within x (0) (1) I R) imX10_within ln_X10_47 rfl rfl rfl (Nat.le_of_ble_eq_true rfl) (by decide) (by decide) rfl rfl (fun rv gv Iv Rv hv => ?_)
  obtain ⟨rfl, rfl, rfl, rfl⟩ := hv
  refine q_iret hM dX10_isMoment_6 rfl (nz rfl (inR_01 _ _ _)) ?_
  exact ⟨rfl, rfl, rfl, rfl⟩

set_option maxRecDepth 100000 in
set_option maxHeartbeats 400000 in
theorem S_isValue (x : Int32) (I : MI) (R : MR) : Sp 1 0 0 mX10_isValue [.int x] g0 I R (Rt (some (.int (inR x (-999) (999)))) g0 I R) := by
  refine Sp.on (by decide +kernel) rfl rfl (fun J hM => ?_)
  have hJ := hM.ok
  refine q_iload_n hJ dX10_isValue_0 (q := 1) rfl rfl ?_
  refine q_sipush hJ (v := (-999)) dX10_isValue_1 (q := 4) rfl (by decide) ?_
  refine q_sipush hJ (v := 999) dX10_isValue_4 (q := 7) rfl (by decide) ?_
  refine q_callS hJ dX10_isValue_7 (q := 10) rfl (S_within x (-999) (999) I R) imX10_within ln_X10_47 rfl rfl rfl (Nat.le_of_ble_eq_true rfl) (by decide) (by decide) rfl rfl (fun rv gv Iv Rv hv => ?_)
  obtain ⟨rfl, rfl, rfl, rfl⟩ := hv
  refine q_iret hM dX10_isValue_10 rfl (nz rfl (inR_01 _ _ _)) ?_
  exact ⟨rfl, rfl, rfl, rfl⟩

set_option maxRecDepth 100000 in
set_option maxHeartbeats 400000 in
theorem S_valueOf (a : Nat) (f : Int32) (I : MI) (R : MR) (hk : KA g0 a 4 0) : Sp 0 0 0 mX4_valueOf [.ref a, .int f] g0 I R (Rt (some (.int (rowF (I a) f))) g0 I R) := by
  refine Sp.on (by decide +kernel) rfl rfl (fun J hM => ?_)
  have hJ := hM.ok
  refine q_iload_n hJ dX4_valueOf_0 (q := 1) rfl rfl ?_
  by_cases k1_0 : f = 0
  · refine q_tswIn hJ (off := 27) (tgt := 28) dX4_valueOf_1 (by rw [k1_0]; decide) (by rw [k1_0]; decide) (by rw [k1_0]; decide) (by decide) ?_
    refine q_aload_n hJ dX4_valueOf_28 (q := 29) rfl rfl rfl ?_
    refine q_getI hJ dX4_valueOf_29 (q := 32) rfl fl_X4_13 rfl (by assumption) rfl ?_
    refine q_iret hM dX4_valueOf_32 rfl rfl ?_
    exact ⟨by simp [rowF, *], rfl, rfl, rfl⟩
  by_cases k1_1 : f = 1
  · refine q_tswIn hJ (off := 32) (tgt := 33) dX4_valueOf_1 (by rw [k1_1]; decide) (by rw [k1_1]; decide) (by rw [k1_1]; decide) (by decide) ?_
    refine q_aload_n hJ dX4_valueOf_33 (q := 34) rfl rfl rfl ?_
    refine q_getI hJ dX4_valueOf_34 (q := 37) rfl fl_X4_16 rfl (by assumption) rfl ?_
    refine q_iret hM dX4_valueOf_37 rfl rfl ?_
    exact ⟨by simp [rowF, *], rfl, rfl, rfl⟩
  by_cases k1_2 : f = 2
  · refine q_tswIn hJ (off := 37) (tgt := 38) dX4_valueOf_1 (by rw [k1_2]; decide) (by rw [k1_2]; decide) (by rw [k1_2]; decide) (by decide) ?_
    refine q_aload_n hJ dX4_valueOf_38 (q := 39) rfl rfl rfl ?_
    refine q_getI hJ dX4_valueOf_39 (q := 42) rfl fl_X4_19 rfl (by assumption) rfl ?_
    refine q_iret hM dX4_valueOf_42 rfl rfl ?_
    exact ⟨by simp [rowF, *], rfl, rfl, rfl⟩
  refine q_tswOut hJ (tgt := 43) dX4_valueOf_1 (tsw_out3 k1_0 k1_1 k1_2) (by decide) ?_
  refine q_aload_n hJ dX4_valueOf_43 (q := 44) rfl rfl rfl ?_
  refine q_getI hJ dX4_valueOf_44 (q := 47) rfl fl_X4_7 rfl (by assumption) rfl ?_
  refine q_iret hM dX4_valueOf_47 rfl rfl ?_
  exact ⟨by simp [rowF, *], rfl, rfl, rfl⟩

set_option maxRecDepth 100000 in
set_option maxHeartbeats 400000 in
theorem S_fill (a : Nat) (k z o t : Int32) (I : MI) (R : MR) (hk : KA g0 a 4 0) : Sp 0 0 0 mX4_fill [.ref a, .int k, .int z, .int o, .int t] g0 I R (Rt none g0 (rwS I a k z o t) R) := by
  refine Sp.on (by decide +kernel) rfl rfl (fun J hM => ?_)
  have hJ := hM.ok
  refine q_aload_n hJ dX4_fill_0 (q := 1) rfl rfl rfl ?_
  refine q_iload_n hJ dX4_fill_1 (q := 2) rfl rfl ?_
  refine q_putI hJ dX4_fill_2 (q := 5) rfl fl_X4_7 rfl rfl (by assumption) rfl rfl ?_
  refine q_aload_n hJ dX4_fill_5 (q := 6) rfl rfl rfl ?_
  refine q_iload_n hJ dX4_fill_6 (q := 7) rfl rfl ?_
  refine q_putI hJ dX4_fill_7 (q := 10) rfl fl_X4_13 rfl rfl (by assumption) rfl rfl ?_
  refine q_aload_n hJ dX4_fill_10 (q := 11) rfl rfl rfl ?_
  refine q_iload_n hJ dX4_fill_11 (q := 12) rfl rfl ?_
  refine q_putI hJ dX4_fill_12 (q := 15) rfl fl_X4_16 rfl rfl (by assumption) rfl rfl ?_
  refine q_aload_n hJ dX4_fill_15 (q := 16) rfl rfl rfl ?_
  refine q_iload hJ dX4_fill_16 (q := 18) rfl rfl ?_
  refine q_putI hJ dX4_fill_18 (q := 21) rfl fl_X4_19 rfl rfl (by assumption) rfl rfl ?_
  refine q_vret hM dX4_fill_21 rfl ?_
  exact ⟨rfl, rfl, rfl, rfl⟩

set_option maxRecDepth 100000 in
set_option maxHeartbeats 400000 in
theorem S_rowCopy (a b : Nat) (I : MI) (R : MR) (hk : KA g0 a 4 0) (hk2 : KA g0 b 4 0) : Sp 0 0 0 mX4_copyFrom [.ref a, .ref b] g0 I R (Rt none g0 (rwS I a (I b 0) (I b 1) (I b 2) (I b 3)) R) := by
  refine Sp.on (by decide +kernel) rfl rfl (fun J hM => ?_)
  have hJ := hM.ok
  refine q_aload_n hJ dX4_copyFrom_0 (q := 1) rfl rfl rfl ?_
  refine q_aload_n hJ dX4_copyFrom_1 (q := 2) rfl rfl rfl ?_
  refine q_getI hJ dX4_copyFrom_2 (q := 5) rfl fl_X4_7 rfl (by assumption) rfl ?_
  refine q_putI hJ dX4_copyFrom_5 (q := 8) rfl fl_X4_7 rfl rfl (by assumption) rfl rfl ?_
  refine q_aload_n hJ dX4_copyFrom_8 (q := 9) rfl rfl rfl ?_
  refine q_aload_n hJ dX4_copyFrom_9 (q := 10) rfl rfl rfl ?_
  refine q_getI hJ dX4_copyFrom_10 (q := 13) rfl fl_X4_13 rfl (by assumption) rfl ?_
  refine q_putI hJ dX4_copyFrom_13 (q := 16) rfl fl_X4_13 rfl rfl (by assumption) rfl rfl ?_
  refine q_aload_n hJ dX4_copyFrom_16 (q := 17) rfl rfl rfl ?_
  refine q_aload_n hJ dX4_copyFrom_17 (q := 18) rfl rfl rfl ?_
  refine q_getI hJ dX4_copyFrom_18 (q := 21) rfl fl_X4_16 rfl (by assumption) rfl ?_
  refine q_putI hJ dX4_copyFrom_21 (q := 24) rfl fl_X4_16 rfl rfl (by assumption) rfl rfl ?_
  refine q_aload_n hJ dX4_copyFrom_24 (q := 25) rfl rfl rfl ?_
  refine q_aload_n hJ dX4_copyFrom_25 (q := 26) rfl rfl rfl ?_
  refine q_getI hJ dX4_copyFrom_26 (q := 29) rfl fl_X4_19 rfl (by assumption) rfl ?_
  refine q_putI hJ dX4_copyFrom_29 (q := 32) rfl fl_X4_19 rfl rfl (by assumption) rfl rfl ?_
  refine q_vret hM dX4_copyFrom_32 rfl ?_
  exact ⟨rfl, rfl, by simp [rwS, up2_app], rfl⟩

set_option maxRecDepth 100000 in
set_option maxHeartbeats 400000 in
theorem S_change (a : Nat) (f x : Int32) (I : MI) (R : MR) (hk : KA g0 a 4 0) : Sp 0 0 0 mX4_change [.ref a, .int f, .int x] g0 I R (Rt none g0 (rwC I a f x) R) := by
  refine Sp.on (by decide +kernel) rfl rfl (fun J hM => ?_)
  have hJ := hM.ok
  refine q_iload_n hJ dX4_change_0 (q := 1) rfl rfl ?_
  by_cases k1_0 : f = 0
  · refine q_lsw hJ (off := 27) (tgt := 28) dX4_change_1 (by decide) (by rw [k1_0]; decide) (by decide) ?_
    refine q_aload_n hJ dX4_change_28 (q := 29) rfl rfl rfl ?_
    refine q_iload_n hJ dX4_change_29 (q := 30) rfl rfl ?_
    refine q_putI hJ dX4_change_30 (q := 33) rfl fl_X4_13 rfl rfl (by assumption) rfl rfl ?_
    refine q_goto hJ (tgt := 49) dX4_change_33 (by decide) ?_
    refine q_vret hM dX4_change_49 rfl ?_
    exact ⟨rfl, rfl, by simp [rwC, *], rfl⟩
  by_cases k1_1 : f = 1
  · refine q_lsw hJ (off := 35) (tgt := 36) dX4_change_1 (by decide) (by rw [k1_1]; decide) (by decide) ?_
    refine q_aload_n hJ dX4_change_36 (q := 37) rfl rfl rfl ?_
    refine q_iload_n hJ dX4_change_37 (q := 38) rfl rfl ?_
    refine q_putI hJ dX4_change_38 (q := 41) rfl fl_X4_16 rfl rfl (by assumption) rfl rfl ?_
    refine q_goto hJ (tgt := 49) dX4_change_41 (by decide) ?_
    refine q_vret hM dX4_change_49 rfl ?_
    exact ⟨rfl, rfl, by simp [rwC, *], rfl⟩
  refine q_lsw hJ (off := 43) (tgt := 44) dX4_change_1 (by decide) (lsw_out2 (k0 := 0) (by decide) k1_0 (k1 := 1) (by decide) k1_1) (by decide) ?_
  refine q_aload_n hJ dX4_change_44 (q := 45) rfl rfl rfl ?_
  refine q_iload_n hJ dX4_change_45 (q := 46) rfl rfl ?_
  refine q_putI hJ dX4_change_46 (q := 49) rfl fl_X4_19 rfl rfl (by assumption) rfl rfl ?_
  refine q_vret hM dX4_change_49 rfl ?_
  exact ⟨rfl, rfl, by simp [rwC, *], rfl⟩

def ruD (I : MI) (a : Nat) (f c n : Int32) : MI := up2 (up2 (up2 I a 7 f) a 8 c) a 9 n
def ru7 (I : MI) (a : Nat) (e m r k x y z : Int32) : MI := up2 (up2 (up2 (up2 (up2 (up2 (up2 I a 0 e) a 1 m) a 2 r) a 3 k) a 4 x) a 5 y) a 6 z
def ruN (I : MI) (a : Nat) (e m r k x y z : Int32) : MI := up2 (up2 (ruD (ru7 I a e m r k x y z) a 3 4 0) a 10 1) a 11 0
set_option maxRecDepth 100000 in
set_option maxHeartbeats 400000 in
theorem S_demand (a : Nat) (f c n : Int32) (I : MI) (R : MR) (hk : KA g0 a 5 0) : Sp 0 0 0 mX5_demand [.ref a, .int f, .int c, .int n] g0 I R (Rt none g0 (ruD I a f c n) R) := by
  refine Sp.on (by decide +kernel) rfl rfl (fun J hM => ?_)
  have hJ := hM.ok
  refine q_aload_n hJ dX5_demand_0 (q := 1) rfl rfl rfl ?_
  refine q_iload_n hJ dX5_demand_1 (q := 2) rfl rfl ?_
  refine q_putI hJ dX5_demand_2 (q := 5) rfl fl_X5_44 rfl rfl (by assumption) rfl rfl ?_
  refine q_aload_n hJ dX5_demand_5 (q := 6) rfl rfl rfl ?_
  refine q_iload_n hJ dX5_demand_6 (q := 7) rfl rfl ?_
  refine q_putI hJ dX5_demand_7 (q := 10) rfl fl_X5_47 rfl rfl (by assumption) rfl rfl ?_
  refine q_aload_n hJ dX5_demand_10 (q := 11) rfl rfl rfl ?_
  refine q_iload_n hJ dX5_demand_11 (q := 12) rfl rfl ?_
  refine q_putI hJ dX5_demand_12 (q := 15) rfl fl_X5_50 rfl rfl (by assumption) rfl rfl ?_
  refine q_vret hM dX5_demand_15 rfl ?_
  exact ⟨rfl, rfl, rfl, rfl⟩

set_option maxRecDepth 100000 in
set_option maxHeartbeats 400000 in
theorem S_define (a : Nat) (e m r k x y z : Int32) (I : MI) (R : MR) (hk : KA g0 a 5 0) : Sp 1 0 0 mX5_define [.ref a, .int e, .int m, .int r, .int k, .int x, .int y, .int z] g0 I R (Rt none g0 (ruN I a e m r k x y z) R) := by
  refine Sp.on (by decide +kernel) rfl rfl (fun J hM => ?_)
  have hJ := hM.ok
  refine q_aload_n hJ dX5_define_0 (q := 1) rfl rfl rfl ?_
  refine q_iload_n hJ dX5_define_1 (q := 2) rfl rfl ?_
  refine q_putI hJ dX5_define_2 (q := 5) rfl fl_X5_9 rfl rfl (by assumption) rfl rfl ?_
  refine q_aload_n hJ dX5_define_5 (q := 6) rfl rfl rfl ?_
  refine q_iload_n hJ dX5_define_6 (q := 7) rfl rfl ?_
  refine q_putI hJ dX5_define_7 (q := 10) rfl fl_X5_15 rfl rfl (by assumption) rfl rfl ?_
  refine q_aload_n hJ dX5_define_10 (q := 11) rfl rfl rfl ?_
  refine q_iload_n hJ dX5_define_11 (q := 12) rfl rfl ?_
  refine q_putI hJ dX5_define_12 (q := 15) rfl fl_X5_18 rfl rfl (by assumption) rfl rfl ?_
  refine q_aload_n hJ dX5_define_15 (q := 16) rfl rfl rfl ?_
  refine q_iload hJ dX5_define_16 (q := 18) rfl rfl ?_
  refine q_putI hJ dX5_define_18 (q := 21) rfl fl_X5_21 rfl rfl (by assumption) rfl rfl ?_
  refine q_aload_n hJ dX5_define_21 (q := 22) rfl rfl rfl ?_
  refine q_iload hJ dX5_define_22 (q := 24) rfl rfl ?_
  refine q_putI hJ dX5_define_24 (q := 27) rfl fl_X5_24 rfl rfl (by assumption) rfl rfl ?_
  refine q_aload_n hJ dX5_define_27 (q := 28) rfl rfl rfl ?_
  refine q_iload hJ dX5_define_28 (q := 30) rfl rfl ?_
  refine q_putI hJ dX5_define_30 (q := 33) rfl fl_X5_27 rfl rfl (by assumption) rfl rfl ?_
  refine q_aload_n hJ dX5_define_33 (q := 34) rfl rfl rfl ?_
  refine q_iload hJ dX5_define_34 (q := 36) rfl rfl ?_
  refine q_putI hJ dX5_define_36 (q := 39) rfl fl_X5_30 rfl rfl (by assumption) rfl rfl ?_
  refine q_aload_n hJ dX5_define_39 (q := 40) rfl rfl rfl ?_
  refine q_iconst hJ (v := 3) dX5_define_40 (q := 41) rfl (by decide) ?_
  refine q_iconst hJ (v := 4) dX5_define_41 (q := 42) rfl (by decide) ?_
  refine q_iconst hJ (v := 0) dX5_define_42 (q := 43) rfl (by decide) ?_
  refine q_callV hJ dX5_define_43 (q := 46) rfl (S_demand a 3 4 0 _ R hk) imX5_demand ln_X5_33 (by assumption) (by decide) rfl rfl rfl rfl (Nat.le_of_ble_eq_true rfl) (by decide) (by decide) rfl rfl (fun rv gv Iv Rv hv => ?_)
  obtain ⟨rfl, rfl, rfl, rfl⟩ := hv
  refine q_aload_n hJ dX5_define_46 (q := 47) rfl rfl rfl ?_
  refine q_iconst hJ (v := 1) dX5_define_47 (q := 48) rfl (by decide) ?_
  refine q_putI hJ dX5_define_48 (q := 51) rfl fl_X5_37 rfl rfl (by assumption) (by (first | decide | assumption)) (by (first | decide | assumption)) ?_
  refine q_aload_n hJ dX5_define_51 (q := 52) rfl rfl rfl ?_
  refine q_iconst hJ (v := 0) dX5_define_52 (q := 53) rfl (by decide) ?_
  refine q_putI hJ dX5_define_53 (q := 56) rfl fl_X5_41 rfl rfl (by assumption) rfl rfl ?_
  refine q_vret hM dX5_define_56 rfl ?_
  exact ⟨rfl, rfl, rfl, rfl⟩
end
section
/-! RULE, second part; TABLE -/
def cmpF (h v n : Int32) : Int32 := if h = 0 then (if n ≤ v then 0 else 1) else if h = 1 then (if n < v then 0 else 1) else if h = 2 then (if v = n then 1 else 0) else if h = 3 then (if v = n then 0 else 1) else if h = 4 then (if v < n then 0 else 1) else (if v ≤ n then 0 else 1)
def clampF (v : Int32) : Int32 := if -999 < (if v < 999 then v else 999) then (if v < 999 then v else 999) else -999
def tellF (i : Nat → Int32) (w : Int32) : Int32 := if w = 0 then i 0 else if w = 1 then i 1 else if w = 2 then i 2 else if w = 3 then i 3 else if w = 4 then i 4 else if w = 5 then i 5 else if w = 6 then i 6 else if w = 7 then i 7 else if w = 8 then i 8 else if w = 9 then i 9 else if w = 10 then (if i 10 = 0 then 0 else 1) else if w = 11 then i 11 else -1002
theorem cmpF_01 (h v n : Int32) : cmpF h v n = 0 ∨ cmpF h v n = 1 := by
  unfold cmpF
  repeat' split
  all_goals first | exact Or.inl rfl | exact Or.inr rfl
theorem ruN_cp (I : MI) (a b : Nat) (hne : b ≠ a) : up2 (up2 (ruD (ruN I a (I b 0) (I b 1) (I b 2) (I b 3) (I b 4) (I b 5) (I b 6)) a (I b 7) (I b 8) (I b 9)) a 10 (I b 10)) a 11 (I b 11) = cp0 I b a 12 := by
  funext c j
  by_cases hc : c = a
  · subst hc
    match j with
    | 0 | 1 | 2 | 3 | 4 | 5 | 6 | 7 | 8 | 9 | 10 | 11 => simp [cp0, ruN, ruD, ru7, up2_app]
    | j + 12 =>
      have e : ¬ j + 12 < 12 := by omega
      simp [cp0, ruN, ruD, ru7, up2_app, e]
  · simp [cp0, ruN, ruD, ru7, up2_app, hc]
theorem ruN_other {I : MI} {a b : Nat} (hne : b ≠ a) (e m r k x y z : Int32) (j : Nat) : ruN I a e m r k x y z b j = I b j := by simp [ruN, ruD, ru7, up2_app, hne]
theorem ruD_other {I : MI} {a b : Nat} (hne : b ≠ a) (x y z : Int32) (j : Nat) : ruD I a x y z b j = I b j := by simp [ruD, up2_app, hne]
theorem rwS_cp (I : MI) (a b : Nat) : rwS I a (I b 0) (I b 1) (I b 2) (I b 3) = cp0 I b a 4 := by
  funext c j
  by_cases hc : c = a
  · subst hc
    match j with
    | 0 | 1 | 2 | 3 => simp [cp0, rwS, up2_app]
    | j + 4 =>
      have e : ¬ j + 4 < 4 := by omega
      simp [cp0, rwS, up2_app, e]
  · simp [cp0, rwS, up2_app, hc]
set_option maxRecDepth 100000 in
set_option maxHeartbeats 400000 in
theorem S_isFor (a : Nat) (e m : Int32) (I : MI) (R : MR) (hk : KA g0 a 5 0) : Sp 0 0 0 mX5_isFor [.ref a, .int e, .int m] g0 I R (Rt (some (.int (if I a 0 = e ∧ I a 1 = m then 1 else 0))) g0 I R) := by
  refine Sp.on (by decide +kernel) rfl rfl (fun J hM => ?_)
  have hJ := hM.ok
  refine q_aload_n hJ dX5_isFor_0 (q := 1) rfl rfl rfl ?_
  refine q_getI hJ dX5_isFor_1 (q := 4) rfl fl_X5_9 rfl (by assumption) rfl ?_
  refine q_iload_n hJ dX5_isFor_4 (q := 5) rfl rfl ?_
  refine q_icmp_ne hJ (tgt := 20) dX5_isFor_5 (q := 8) rfl (by decide) (fun c1 => ?_) (fun c1 => ?_)
  · refine q_iconst hJ (v := 0) dX5_isFor_20 (q := 21) rfl (by decide) ?_
    refine q_iret hM dX5_isFor_21 rfl (nz rfl (by decide)) ?_
    exact ⟨by simp [*], rfl, rfl, rfl⟩
  · refine q_aload_n hJ dX5_isFor_8 (q := 9) rfl rfl rfl ?_
    refine q_getI hJ dX5_isFor_9 (q := 12) rfl fl_X5_15 rfl (by assumption) rfl ?_
    refine q_iload_n hJ dX5_isFor_12 (q := 13) rfl rfl ?_
    refine q_icmp_ne hJ (tgt := 20) dX5_isFor_13 (q := 16) rfl (by decide) (fun c2 => ?_) (fun c2 => ?_)
    · refine q_iconst hJ (v := 0) dX5_isFor_20 (q := 21) rfl (by decide) ?_
      refine q_iret hM dX5_isFor_21 rfl (nz rfl (by decide)) ?_
      exact ⟨by simp [*], rfl, rfl, rfl⟩
    · refine q_iconst hJ (v := 1) dX5_isFor_16 (q := 17) rfl (by decide) ?_
      refine q_goto hJ (tgt := 21) dX5_isFor_17 (by decide) ?_
      refine q_iret hM dX5_isFor_21 rfl (nz rfl (by decide)) ?_
      exact ⟨by simp [*], rfl, rfl, rfl⟩

set_option maxRecDepth 100000 in
set_option maxHeartbeats 400000 in
theorem S_holdsFor (a x : Nat) (I : MI) (R : MR) (hk : KA g0 a 5 0) (hk2 : KA g0 x 4 0) : Sp 1 0 0 mX5_holdsFor [.ref a, .ref x] g0 I R (Rt (some (.int (cmpF (I a 8) (rowF (I x) (I a 7)) (I a 9)))) g0 I R) := by
  refine Sp.on (by decide +kernel) rfl rfl (fun J hM => ?_)
  have hJ := hM.ok
  refine q_aload_n hJ dX5_holdsFor_0 (q := 1) rfl rfl rfl ?_
  refine q_aload_n hJ dX5_holdsFor_1 (q := 2) rfl rfl rfl ?_
  refine q_getI hJ dX5_holdsFor_2 (q := 5) rfl fl_X5_44 rfl (by assumption) rfl ?_
  refine q_callV hJ dX5_holdsFor_5 (q := 8) rfl (S_valueOf x (I a 7) I R hk2) imX4_valueOf ln_X5_57 (by assumption) (by decide) rfl rfl rfl rfl (Nat.le_of_ble_eq_true rfl) (by decide) (by decide) rfl rfl (fun rv gv Iv Rv hv => ?_)
  obtain ⟨rfl, rfl, rfl, rfl⟩ := hv
  refine q_istore_n hJ dX5_holdsFor_8 (q := 9) rfl (by decide) ?_
  refine q_aload_n hJ dX5_holdsFor_9 (q := 10) rfl rfl rfl ?_
  refine q_getI hJ dX5_holdsFor_10 (q := 13) rfl fl_X5_47 rfl (by assumption) rfl ?_
  by_cases k1_0 : I a 8 = 0
  · refine q_tswIn hJ (off := 35) (tgt := 48) dX5_holdsFor_13 (by rw [k1_0]; decide) (by rw [k1_0]; decide) (by rw [k1_0]; decide) (by decide) ?_
    refine q_iload_n hJ dX5_holdsFor_48 (q := 49) rfl rfl ?_
    refine q_aload_n hJ dX5_holdsFor_49 (q := 50) rfl rfl rfl ?_
    refine q_getI hJ dX5_holdsFor_50 (q := 53) rfl fl_X5_50 rfl (by assumption) rfl ?_
    refine q_icmp_ge hJ (tgt := 60) dX5_holdsFor_53 (q := 56) rfl (by decide) (fun c2 => ?_) (fun c2 => ?_)
    · refine q_iconst hJ (v := 0) dX5_holdsFor_60 (q := 61) rfl (by decide) ?_
      refine q_iret hM dX5_holdsFor_61 rfl (nz rfl (by decide)) ?_
      exact ⟨by simp [cmpF, *], rfl, rfl, rfl⟩
    · refine q_iconst hJ (v := 1) dX5_holdsFor_56 (q := 57) rfl (by decide) ?_
      refine q_goto hJ (tgt := 61) dX5_holdsFor_57 (by decide) ?_
      refine q_iret hM dX5_holdsFor_61 rfl (nz rfl (by decide)) ?_
      exact ⟨by simp [cmpF, *], rfl, rfl, rfl⟩
  by_cases k1_1 : I a 8 = 1
  · refine q_tswIn hJ (off := 49) (tgt := 62) dX5_holdsFor_13 (by rw [k1_1]; decide) (by rw [k1_1]; decide) (by rw [k1_1]; decide) (by decide) ?_
    refine q_iload_n hJ dX5_holdsFor_62 (q := 63) rfl rfl ?_
    refine q_aload_n hJ dX5_holdsFor_63 (q := 64) rfl rfl rfl ?_
    refine q_getI hJ dX5_holdsFor_64 (q := 67) rfl fl_X5_50 rfl (by assumption) rfl ?_
    refine q_icmp_gt hJ (tgt := 74) dX5_holdsFor_67 (q := 70) rfl (by decide) (fun c3 => ?_) (fun c3 => ?_)
    · refine q_iconst hJ (v := 0) dX5_holdsFor_74 (q := 75) rfl (by decide) ?_
      refine q_iret hM dX5_holdsFor_75 rfl (nz rfl (by decide)) ?_
      exact ⟨by simp [cmpF, *], rfl, rfl, rfl⟩
    · refine q_iconst hJ (v := 1) dX5_holdsFor_70 (q := 71) rfl (by decide) ?_
      refine q_goto hJ (tgt := 75) dX5_holdsFor_71 (by decide) ?_
      refine q_iret hM dX5_holdsFor_75 rfl (nz rfl (by decide)) ?_
      exact ⟨by simp [cmpF, *], rfl, rfl, rfl⟩
  by_cases k1_2 : I a 8 = 2
  · refine q_tswIn hJ (off := 63) (tgt := 76) dX5_holdsFor_13 (by rw [k1_2]; decide) (by rw [k1_2]; decide) (by rw [k1_2]; decide) (by decide) ?_
    refine q_iload_n hJ dX5_holdsFor_76 (q := 77) rfl rfl ?_
    refine q_aload_n hJ dX5_holdsFor_77 (q := 78) rfl rfl rfl ?_
    refine q_getI hJ dX5_holdsFor_78 (q := 81) rfl fl_X5_50 rfl (by assumption) rfl ?_
    refine q_icmp_ne hJ (tgt := 88) dX5_holdsFor_81 (q := 84) rfl (by decide) (fun c4 => ?_) (fun c4 => ?_)
    · refine q_iconst hJ (v := 0) dX5_holdsFor_88 (q := 89) rfl (by decide) ?_
      refine q_iret hM dX5_holdsFor_89 rfl (nz rfl (by decide)) ?_
      exact ⟨by simp [cmpF, *], rfl, rfl, rfl⟩
    · refine q_iconst hJ (v := 1) dX5_holdsFor_84 (q := 85) rfl (by decide) ?_
      refine q_goto hJ (tgt := 89) dX5_holdsFor_85 (by decide) ?_
      refine q_iret hM dX5_holdsFor_89 rfl (nz rfl (by decide)) ?_
      exact ⟨by simp [cmpF, *], rfl, rfl, rfl⟩
  by_cases k1_3 : I a 8 = 3
  · refine q_tswIn hJ (off := 77) (tgt := 90) dX5_holdsFor_13 (by rw [k1_3]; decide) (by rw [k1_3]; decide) (by rw [k1_3]; decide) (by decide) ?_
    refine q_iload_n hJ dX5_holdsFor_90 (q := 91) rfl rfl ?_
    refine q_aload_n hJ dX5_holdsFor_91 (q := 92) rfl rfl rfl ?_
    refine q_getI hJ dX5_holdsFor_92 (q := 95) rfl fl_X5_50 rfl (by assumption) rfl ?_
    refine q_icmp_eq hJ (tgt := 102) dX5_holdsFor_95 (q := 98) rfl (by decide) (fun c5 => ?_) (fun c5 => ?_)
    · refine q_iconst hJ (v := 0) dX5_holdsFor_102 (q := 103) rfl (by decide) ?_
      refine q_iret hM dX5_holdsFor_103 rfl (nz rfl (by decide)) ?_
      exact ⟨by simp [cmpF, *], rfl, rfl, rfl⟩
    · refine q_iconst hJ (v := 1) dX5_holdsFor_98 (q := 99) rfl (by decide) ?_
      refine q_goto hJ (tgt := 103) dX5_holdsFor_99 (by decide) ?_
      refine q_iret hM dX5_holdsFor_103 rfl (nz rfl (by decide)) ?_
      exact ⟨by simp [cmpF, *], rfl, rfl, rfl⟩
  by_cases k1_4 : I a 8 = 4
  · refine q_tswIn hJ (off := 91) (tgt := 104) dX5_holdsFor_13 (by rw [k1_4]; decide) (by rw [k1_4]; decide) (by rw [k1_4]; decide) (by decide) ?_
    refine q_iload_n hJ dX5_holdsFor_104 (q := 105) rfl rfl ?_
    refine q_aload_n hJ dX5_holdsFor_105 (q := 106) rfl rfl rfl ?_
    refine q_getI hJ dX5_holdsFor_106 (q := 109) rfl fl_X5_50 rfl (by assumption) rfl ?_
    refine q_icmp_lt hJ (tgt := 116) dX5_holdsFor_109 (q := 112) rfl (by decide) (fun c6 => ?_) (fun c6 => ?_)
    · refine q_iconst hJ (v := 0) dX5_holdsFor_116 (q := 117) rfl (by decide) ?_
      refine q_iret hM dX5_holdsFor_117 rfl (nz rfl (by decide)) ?_
      exact ⟨by simp [cmpF, *], rfl, rfl, rfl⟩
    · refine q_iconst hJ (v := 1) dX5_holdsFor_112 (q := 113) rfl (by decide) ?_
      refine q_goto hJ (tgt := 117) dX5_holdsFor_113 (by decide) ?_
      refine q_iret hM dX5_holdsFor_117 rfl (nz rfl (by decide)) ?_
      exact ⟨by simp [cmpF, *], rfl, rfl, rfl⟩
  refine q_tswOut hJ (tgt := 118) dX5_holdsFor_13 (tsw_out5 k1_0 k1_1 k1_2 k1_3 k1_4) (by decide) ?_
  refine q_iload_n hJ dX5_holdsFor_118 (q := 119) rfl rfl ?_
  refine q_aload_n hJ dX5_holdsFor_119 (q := 120) rfl rfl rfl ?_
  refine q_getI hJ dX5_holdsFor_120 (q := 123) rfl fl_X5_50 rfl (by assumption) rfl ?_
  refine q_icmp_le hJ (tgt := 130) dX5_holdsFor_123 (q := 126) rfl (by decide) (fun c7 => ?_) (fun c7 => ?_)
  · refine q_iconst hJ (v := 0) dX5_holdsFor_130 (q := 131) rfl (by decide) ?_
    refine q_iret hM dX5_holdsFor_131 rfl (nz rfl (by decide)) ?_
    exact ⟨by simp [cmpF, *], rfl, rfl, rfl⟩
  · refine q_iconst hJ (v := 1) dX5_holdsFor_126 (q := 127) rfl (by decide) ?_
    refine q_goto hJ (tgt := 131) dX5_holdsFor_127 (by decide) ?_
    refine q_iret hM dX5_holdsFor_131 rfl (nz rfl (by decide)) ?_
    exact ⟨by simp [cmpF, *], rfl, rfl, rfl⟩

set_option maxRecDepth 100000 in
set_option maxHeartbeats 400000 in
theorem S_valueFor (a x : Nat) (I : MI) (R : MR) (hk : KA g0 a 5 0) (hk2 : KA g0 x 4 0) : Sp 1 0 0 mX5_valueFor [.ref a, .ref x] g0 I R (Rt (some (.int (clampF (rowF (I x) (I a 5) + I a 6)))) g0 I R) := by
  refine Sp.on (by decide +kernel) rfl rfl (fun J hM => ?_)
  have hJ := hM.ok
  refine q_sipush hJ (v := (-999)) dX5_valueFor_0 (q := 3) rfl (by decide) ?_
  refine q_sipush hJ (v := 999) dX5_valueFor_3 (q := 6) rfl (by decide) ?_
  refine q_aload_n hJ dX5_valueFor_6 (q := 7) rfl rfl rfl ?_
  refine q_aload_n hJ dX5_valueFor_7 (q := 8) rfl rfl rfl ?_
  refine q_getI hJ dX5_valueFor_8 (q := 11) rfl fl_X5_27 rfl (by assumption) rfl ?_
  refine q_callV hJ dX5_valueFor_11 (q := 14) rfl (S_valueOf x (I a 5) I R hk2) imX4_valueOf ln_X5_57 (by assumption) (by decide) rfl rfl rfl rfl (Nat.le_of_ble_eq_true rfl) (by decide) (by decide) rfl rfl (fun rv gv Iv Rv hv => ?_)
  obtain ⟨rfl, rfl, rfl, rfl⟩ := hv
  refine q_aload_n hJ dX5_valueFor_14 (q := 15) rfl rfl rfl ?_
  refine q_getI hJ dX5_valueFor_15 (q := 18) rfl fl_X5_30 rfl (by assumption) rfl ?_
  refine q_iadd hJ dX5_valueFor_18 (q := 19) rfl ?_
  refine q_min hJ dX5_valueFor_19 (q := 22) rfl ln_X5_63 mw_min rfl (Nat.le_of_ble_eq_true rfl) (by decide) (by decide) ?_
  refine q_max hJ dX5_valueFor_22 (q := 25) rfl ln_X5_69 mw_max rfl (Nat.le_of_ble_eq_true rfl) (by decide) (by decide) ?_
  refine q_iret hM dX5_valueFor_25 rfl rfl ?_
  exact ⟨rfl, rfl, rfl, rfl⟩

set_option maxRecDepth 100000 in
set_option maxHeartbeats 400000 in
theorem S_ruleTell (a : Nat) (w : Int32) (I : MI) (R : MR) (hk : KA g0 a 5 0) : Sp 0 0 0 mX5_tell [.ref a, .int w] g0 I R (Rt (some (.int (tellF (I a) w))) g0 I R) := by
  refine Sp.on (by decide +kernel) rfl rfl (fun J hM => ?_)
  have hJ := hM.ok
  refine q_iload_n hJ dX5_tell_0 (q := 1) rfl rfl ?_
  by_cases k1_0 : w = 0
  · refine q_tswIn hJ (off := 63) (tgt := 64) dX5_tell_1 (by rw [k1_0]; decide) (by rw [k1_0]; decide) (by rw [k1_0]; decide) (by decide) ?_
    refine q_aload_n hJ dX5_tell_64 (q := 65) rfl rfl rfl ?_
    refine q_getI hJ dX5_tell_65 (q := 68) rfl fl_X5_9 rfl (by assumption) rfl ?_
    refine q_iret hM dX5_tell_68 rfl rfl ?_
    exact ⟨by simp [tellF, *], rfl, rfl, rfl⟩
  by_cases k1_1 : w = 1
  · refine q_tswIn hJ (off := 68) (tgt := 69) dX5_tell_1 (by rw [k1_1]; decide) (by rw [k1_1]; decide) (by rw [k1_1]; decide) (by decide) ?_
    refine q_aload_n hJ dX5_tell_69 (q := 70) rfl rfl rfl ?_
    refine q_getI hJ dX5_tell_70 (q := 73) rfl fl_X5_15 rfl (by assumption) rfl ?_
    refine q_iret hM dX5_tell_73 rfl rfl ?_
    exact ⟨by simp [tellF, *], rfl, rfl, rfl⟩
  by_cases k1_2 : w = 2
  · refine q_tswIn hJ (off := 73) (tgt := 74) dX5_tell_1 (by rw [k1_2]; decide) (by rw [k1_2]; decide) (by rw [k1_2]; decide) (by decide) ?_
    refine q_aload_n hJ dX5_tell_74 (q := 75) rfl rfl rfl ?_
    refine q_getI hJ dX5_tell_75 (q := 78) rfl fl_X5_18 rfl (by assumption) rfl ?_
    refine q_iret hM dX5_tell_78 rfl rfl ?_
    exact ⟨by simp [tellF, *], rfl, rfl, rfl⟩
  by_cases k1_3 : w = 3
  · refine q_tswIn hJ (off := 78) (tgt := 79) dX5_tell_1 (by rw [k1_3]; decide) (by rw [k1_3]; decide) (by rw [k1_3]; decide) (by decide) ?_
    refine q_aload_n hJ dX5_tell_79 (q := 80) rfl rfl rfl ?_
    refine q_getI hJ dX5_tell_80 (q := 83) rfl fl_X5_21 rfl (by assumption) rfl ?_
    refine q_iret hM dX5_tell_83 rfl rfl ?_
    exact ⟨by simp [tellF, *], rfl, rfl, rfl⟩
  by_cases k1_4 : w = 4
  · refine q_tswIn hJ (off := 83) (tgt := 84) dX5_tell_1 (by rw [k1_4]; decide) (by rw [k1_4]; decide) (by rw [k1_4]; decide) (by decide) ?_
    refine q_aload_n hJ dX5_tell_84 (q := 85) rfl rfl rfl ?_
    refine q_getI hJ dX5_tell_85 (q := 88) rfl fl_X5_24 rfl (by assumption) rfl ?_
    refine q_iret hM dX5_tell_88 rfl rfl ?_
    exact ⟨by simp [tellF, *], rfl, rfl, rfl⟩
  by_cases k1_5 : w = 5
  · refine q_tswIn hJ (off := 88) (tgt := 89) dX5_tell_1 (by rw [k1_5]; decide) (by rw [k1_5]; decide) (by rw [k1_5]; decide) (by decide) ?_
    refine q_aload_n hJ dX5_tell_89 (q := 90) rfl rfl rfl ?_
    refine q_getI hJ dX5_tell_90 (q := 93) rfl fl_X5_27 rfl (by assumption) rfl ?_
    refine q_iret hM dX5_tell_93 rfl rfl ?_
    exact ⟨by simp [tellF, *], rfl, rfl, rfl⟩
  by_cases k1_6 : w = 6
  · refine q_tswIn hJ (off := 93) (tgt := 94) dX5_tell_1 (by rw [k1_6]; decide) (by rw [k1_6]; decide) (by rw [k1_6]; decide) (by decide) ?_
    refine q_aload_n hJ dX5_tell_94 (q := 95) rfl rfl rfl ?_
    refine q_getI hJ dX5_tell_95 (q := 98) rfl fl_X5_30 rfl (by assumption) rfl ?_
    refine q_iret hM dX5_tell_98 rfl rfl ?_
    exact ⟨by simp [tellF, *], rfl, rfl, rfl⟩
  by_cases k1_7 : w = 7
  · refine q_tswIn hJ (off := 98) (tgt := 99) dX5_tell_1 (by rw [k1_7]; decide) (by rw [k1_7]; decide) (by rw [k1_7]; decide) (by decide) ?_
    refine q_aload_n hJ dX5_tell_99 (q := 100) rfl rfl rfl ?_
    refine q_getI hJ dX5_tell_100 (q := 103) rfl fl_X5_44 rfl (by assumption) rfl ?_
    refine q_iret hM dX5_tell_103 rfl rfl ?_
    exact ⟨by simp [tellF, *], rfl, rfl, rfl⟩
  by_cases k1_8 : w = 8
  · refine q_tswIn hJ (off := 103) (tgt := 104) dX5_tell_1 (by rw [k1_8]; decide) (by rw [k1_8]; decide) (by rw [k1_8]; decide) (by decide) ?_
    refine q_aload_n hJ dX5_tell_104 (q := 105) rfl rfl rfl ?_
    refine q_getI hJ dX5_tell_105 (q := 108) rfl fl_X5_47 rfl (by assumption) rfl ?_
    refine q_iret hM dX5_tell_108 rfl rfl ?_
    exact ⟨by simp [tellF, *], rfl, rfl, rfl⟩
  by_cases k1_9 : w = 9
  · refine q_tswIn hJ (off := 108) (tgt := 109) dX5_tell_1 (by rw [k1_9]; decide) (by rw [k1_9]; decide) (by rw [k1_9]; decide) (by decide) ?_
    refine q_aload_n hJ dX5_tell_109 (q := 110) rfl rfl rfl ?_
    refine q_getI hJ dX5_tell_110 (q := 113) rfl fl_X5_50 rfl (by assumption) rfl ?_
    refine q_iret hM dX5_tell_113 rfl rfl ?_
    exact ⟨by simp [tellF, *], rfl, rfl, rfl⟩
  by_cases k1_10 : w = 10
  · refine q_tswIn hJ (off := 113) (tgt := 114) dX5_tell_1 (by rw [k1_10]; decide) (by rw [k1_10]; decide) (by rw [k1_10]; decide) (by decide) ?_
    refine q_aload_n hJ dX5_tell_114 (q := 115) rfl rfl rfl ?_
    refine q_getI hJ dX5_tell_115 (q := 118) rfl fl_X5_37 rfl (by assumption) rfl ?_
    refine q_if_eq hJ (tgt := 125) dX5_tell_118 (q := 121) rfl (by decide) (fun c2 => ?_) (fun c2 => ?_)
    · refine q_iconst hJ (v := 0) dX5_tell_125 (q := 126) rfl (by decide) ?_
      refine q_iret hM dX5_tell_126 rfl rfl ?_
      exact ⟨by simp [tellF, *], rfl, rfl, rfl⟩
    · refine q_iconst hJ (v := 1) dX5_tell_121 (q := 122) rfl (by decide) ?_
      refine q_goto hJ (tgt := 126) dX5_tell_122 (by decide) ?_
      refine q_iret hM dX5_tell_126 rfl rfl ?_
      exact ⟨by simp [tellF, *], rfl, rfl, rfl⟩
  by_cases k1_11 : w = 11
  · refine q_tswIn hJ (off := 126) (tgt := 127) dX5_tell_1 (by rw [k1_11]; decide) (by rw [k1_11]; decide) (by rw [k1_11]; decide) (by decide) ?_
    refine q_aload_n hJ dX5_tell_127 (q := 128) rfl rfl rfl ?_
    refine q_getI hJ dX5_tell_128 (q := 131) rfl fl_X5_41 rfl (by assumption) rfl ?_
    refine q_iret hM dX5_tell_131 rfl rfl ?_
    exact ⟨by simp [tellF, *], rfl, rfl, rfl⟩
  refine q_tswOut hJ (tgt := 132) dX5_tell_1 (tsw_out12 k1_0 k1_1 k1_2 k1_3 k1_4 k1_5 k1_6 k1_7 k1_8 k1_9 k1_10 k1_11) (by decide) ?_
  refine q_sipush hJ (v := (-1002)) dX5_tell_132 (q := 135) rfl (by decide) ?_
  refine q_iret hM dX5_tell_135 rfl rfl ?_
  exact ⟨by simp [tellF, *], rfl, rfl, rfl⟩

set_option maxRecDepth 100000 in
set_option maxHeartbeats 400000 in
theorem S_ruleCopy (a b : Nat) (I : MI) (R : MR) (hk : KA g0 a 5 0) (hk2 : KA g0 b 5 0) (hne : b ≠ a) (hon : I b 10 = 0 ∨ I b 10 = 1) : Sp 2 0 0 mX5_copyFrom [.ref a, .ref b] g0 I R (Rt none g0 (cp0 I b a 12) R) := by
  refine Sp.on (by decide +kernel) rfl rfl (fun J hM => ?_)
  have hJ := hM.ok
  refine q_aload_n hJ dX5_copyFrom_0 (q := 1) rfl rfl rfl ?_
  refine q_aload_n hJ dX5_copyFrom_1 (q := 2) rfl rfl rfl ?_
  refine q_getI hJ dX5_copyFrom_2 (q := 5) rfl fl_X5_9 rfl (by assumption) rfl ?_
  refine q_aload_n hJ dX5_copyFrom_5 (q := 6) rfl rfl rfl ?_
  refine q_getI hJ dX5_copyFrom_6 (q := 9) rfl fl_X5_15 rfl (by assumption) rfl ?_
  refine q_aload_n hJ dX5_copyFrom_9 (q := 10) rfl rfl rfl ?_
  refine q_getI hJ dX5_copyFrom_10 (q := 13) rfl fl_X5_18 rfl (by assumption) rfl ?_
  refine q_aload_n hJ dX5_copyFrom_13 (q := 14) rfl rfl rfl ?_
  refine q_getI hJ dX5_copyFrom_14 (q := 17) rfl fl_X5_21 rfl (by assumption) rfl ?_
  refine q_aload_n hJ dX5_copyFrom_17 (q := 18) rfl rfl rfl ?_
  refine q_getI hJ dX5_copyFrom_18 (q := 21) rfl fl_X5_24 rfl (by assumption) rfl ?_
  refine q_aload_n hJ dX5_copyFrom_21 (q := 22) rfl rfl rfl ?_
  refine q_getI hJ dX5_copyFrom_22 (q := 25) rfl fl_X5_27 rfl (by assumption) rfl ?_
  refine q_aload_n hJ dX5_copyFrom_25 (q := 26) rfl rfl rfl ?_
  refine q_getI hJ dX5_copyFrom_26 (q := 29) rfl fl_X5_30 rfl (by assumption) rfl ?_
  refine q_callV hJ dX5_copyFrom_29 (q := 32) rfl (S_define a (I b 0) (I b 1) (I b 2) (I b 3) (I b 4) (I b 5) (I b 6) I R hk) imX5_define ln_X5_53 (by assumption) (by decide) rfl rfl rfl rfl (Nat.le_of_ble_eq_true rfl) (by decide) (by decide) rfl rfl (fun rv gv Iv Rv hv => ?_)
  obtain ⟨rfl, rfl, rfl, rfl⟩ := hv
  refine q_aload_n hJ dX5_copyFrom_32 (q := 33) rfl rfl rfl ?_
  refine q_aload_n hJ dX5_copyFrom_33 (q := 34) rfl rfl rfl ?_
  refine q_getI hJ dX5_copyFrom_34 (q := 37) rfl fl_X5_44 rfl (by assumption) (ruN_other hne _ _ _ _ _ _ _ _) ?_
  refine q_aload_n hJ dX5_copyFrom_37 (q := 38) rfl rfl rfl ?_
  refine q_getI hJ dX5_copyFrom_38 (q := 41) rfl fl_X5_47 rfl (by assumption) (ruN_other hne _ _ _ _ _ _ _ _) ?_
  refine q_aload_n hJ dX5_copyFrom_41 (q := 42) rfl rfl rfl ?_
  refine q_getI hJ dX5_copyFrom_42 (q := 45) rfl fl_X5_50 rfl (by assumption) (ruN_other hne _ _ _ _ _ _ _ _) ?_
  refine q_callV hJ dX5_copyFrom_45 (q := 48) rfl (S_demand a (I b 7) (I b 8) (I b 9) _ R hk) imX5_demand ln_X5_33 (by assumption) (by decide) rfl rfl rfl rfl (Nat.le_of_ble_eq_true rfl) (by decide) (by decide) rfl rfl (fun rv gv Iv Rv hv => ?_)
  obtain ⟨rfl, rfl, rfl, rfl⟩ := hv
  refine q_aload_n hJ dX5_copyFrom_48 (q := 49) rfl rfl rfl ?_
  refine q_aload_n hJ dX5_copyFrom_49 (q := 50) rfl rfl rfl ?_
  refine q_getI hJ dX5_copyFrom_50 (q := 53) rfl fl_X5_37 rfl (by assumption) ((ruD_other hne _ _ _ _).trans (ruN_other hne _ _ _ _ _ _ _ _)) ?_
  refine q_putI hJ dX5_copyFrom_53 (q := 56) rfl fl_X5_37 rfl rfl (by assumption) (nz rfl hon) (by rcases hon with h | h <;> rw [h] <;> decide) ?_
  refine q_aload_n hJ dX5_copyFrom_56 (q := 57) rfl rfl rfl ?_
  refine q_aload_n hJ dX5_copyFrom_57 (q := 58) rfl rfl rfl ?_
  refine q_getI hJ dX5_copyFrom_58 (q := 61) rfl fl_X5_41 rfl (by assumption) (show up2 (ruD _ _ _ _ _) a 10 _ b 11 = I b 11 from by rw [up2_other _ _ _ _ hne, ruD_other hne, ruN_other hne]) ?_
  refine q_putI hJ dX5_copyFrom_61 (q := 64) rfl fl_X5_41 rfl rfl (by assumption) rfl rfl ?_
  refine q_vret hM dX5_copyFrom_64 rfl ?_
  exact ⟨rfl, rfl, (ruN_cp I a b hne).symm, rfl⟩
end
section
/-! TABLE -/
/-- a state's table as it lies: the row of place j is the cell P j; n rows -/
def TS (I : MI) (R : MR) (b : Nat) (P : Nat → Nat) (n : Nat) : Prop := I (b + 1) 1 = nI n ∧ n ≤ 20 ∧ ∀ j, j < 20 → R (b + 2) j = some (P j) ∧ b + 3 ≤ P j ∧ P j < b + 23 ∧ ∀ i, i < 20 → P i = P j → i = j
def fndF (p : Nat → Prop) [DecidablePred p] : Nat → Nat → Option Nat
  | _, 0 => none
  | j, k + 1 => if p j then some j else fndF p (j + 1) k
def rowAtF (x : Int32) (n : Nat) (P : Nat → Nat) : Option Nat := if x < 0 then none else if nI n ≤ x then none else some (P x.toNatClampNeg)
def shR (R : MR) (b : Nat) (P : Nat → Nat) (n q : Nat) : MR := fun a j => if a = b + 2 ∧ q < j ∧ j ≤ n then some (P (j - 1)) else R a j
def insP (K : Nat → Int32) (key : Int32) : Nat → Nat
  | 0 => 0
  | n + 1 => if K n < key then n + 1 else insP K key n
def dR (R : MR) (b : Nat) (P : Nat → Nat) (n i j : Nat) : MR := fun a t => if a = b + 2 ∧ i ≤ t ∧ t < j then some (if t + 1 < n then P (t + 1) else P i) else R a t
def cpR (I : MI) (P1 P2 : Nat → Nat) (w : Nat) : Nat → MI
  | 0 => I
  | j + 1 => cp0 (cpR I P1 P2 w j) (P2 j) (P1 j) w
theorem insP_le (K : Nat → Int32) (key : Int32) (n : Nat) : insP K key n ≤ n := by
  induction n with
  | zero => exact Nat.le_refl 0
  | succ n ih =>
    unfold insP
    split
    · exact Nat.le_refl _
    · omega
theorem nI_20 : (20 : Int32) = nI 20 := by decide
theorem shR_n (R : MR) (b : Nat) (P : Nat → Nat) (n : Nat) : shR R b P n n = R := by
  funext a j
  simp only [shR]
  rw [if_neg]
  omega
theorem shR_step (R : MR) (b : Nat) (P : Nat → Nat) (n q : Nat) (h : q < n) : up2 (shR R b P n (q + 1)) (b + 2) (q + 1) (some (P q)) = shR R b P n q := by
  funext a j
  simp only [up2_app, shR]
  by_cases ha : a = b + 2
  · by_cases hj : j = q + 1
    · subst hj
      rw [if_pos ⟨ha, rfl⟩, if_pos ⟨ha, by omega, by omega⟩]
      simp
    · rw [if_neg (fun z => hj z.2)]
      by_cases h1 : q + 1 < j ∧ j ≤ n
      · rw [if_pos ⟨ha, h1⟩, if_pos ⟨ha, by omega, h1.2⟩]
      · rw [if_neg (fun z => h1 z.2), if_neg (fun z => h1 ⟨by omega, z.2.2⟩)]
  · rw [if_neg (fun z => ha z.1), if_neg (fun z => ha z.1), if_neg (fun z => ha z.1)]
theorem shR_other {R : MR} {b : Nat} {P : Nat → Nat} {n q a : Nat} (h : a ≠ b + 2) (j : Nat) : shR R b P n q a j = R a j := by
  simp only [shR]
  rw [if_neg (fun z => h z.1)]
theorem shR_low {R : MR} {b : Nat} {P : Nat → Nat} {n q a j : Nat} (h : j ≤ q) : shR R b P n q a j = R a j := by
  simp only [shR]
  rw [if_neg (fun z => by omega)]
theorem dR_0 (R : MR) (b : Nat) (P : Nat → Nat) (n i : Nat) : dR R b P n i i = R := by
  funext a j
  simp only [dR]
  rw [if_neg]
  omega
theorem dR_step (R : MR) (b : Nat) (P : Nat → Nat) (n i j : Nat) (h : i ≤ j) : up2 (dR R b P n i j) (b + 2) j (some (if j + 1 < n then P (j + 1) else P i)) = dR R b P n i (j + 1) := by
  funext a t
  simp only [up2_app, dR]
  by_cases ha : a = b + 2
  · by_cases ht : t = j
    · subst ht
      have hz : a = b + 2 ∧ i ≤ t ∧ t < t + 1 := ⟨ha, h, by omega⟩
      rw [if_pos ⟨ha, rfl⟩, if_pos hz]
    · rw [if_neg (fun z => ht z.2)]
      by_cases h1 : i ≤ t ∧ t < j
      · have hz : a = b + 2 ∧ i ≤ t ∧ t < j + 1 := ⟨ha, h1.1, by omega⟩
        rw [if_pos ⟨ha, h1⟩, if_pos hz]
      · rw [if_neg (fun z => h1 z.2), if_neg (fun z => h1 ⟨z.2.1, by omega⟩)]
  · rw [if_neg (fun z => ha z.1), if_neg (fun z => ha z.1), if_neg (fun z => ha z.1)]
theorem dR_other {R : MR} {b : Nat} {P : Nat → Nat} {n i q a : Nat} (h : a ≠ b + 2) (j : Nat) : dR R b P n i q a j = R a j := by
  simp only [dR]
  rw [if_neg (fun z => h z.1)]
theorem dR_high {R : MR} {b : Nat} {P : Nat → Nat} {n i q a j : Nat} (h : q ≤ j) : dR R b P n i q a j = R a j := by
  simp only [dR]
  rw [if_neg (fun z => by omega)]
theorem cpR_other (I : MI) (P1 P2 : Nat → Nat) (w a : Nat) (j : Nat) (h : ∀ i, i < j → a ≠ P1 i) (t : Nat) : cpR I P1 P2 w j a t = I a t := by
  induction j with
  | zero => rfl
  | succ j ih =>
    show cp0 _ _ _ _ a t = _
    simp only [cp0]
    rw [if_neg (fun z => h j (by omega) z.1)]
    exact ih (fun i hi => h i (by omega))
theorem cpR_at (I : MI) (P1 P2 : Nat → Nat) (w : Nat) (j i t : Nat) (hi : i < j) (ht : t < w) (hinj : ∀ x y, x < j → y < j → P1 x = P1 y → x = y) (hdis : ∀ x y, x < j → y < j → P2 x ≠ P1 y) : cpR I P1 P2 w j (P1 i) t = I (P2 i) t := by
  induction j with
  | zero => omega
  | succ j ih =>
    show cp0 _ _ _ _ (P1 i) t = _
    simp only [cp0]
    by_cases he : i = j
    · subst he
      rw [if_pos ⟨rfl, ht⟩]
      exact cpR_other I P1 P2 w _ i (fun x hx => hdis i x (by omega) (by omega)) t
    · rw [if_neg (fun z => he (hinj i j (by omega) (by omega) z.1))]
      exact ih (by omega) (fun x y hx hy => hinj x y (by omega) (by omega)) (fun x y hx hy => hdis x y (by omega) (by omega))
theorem cpR_old (I : MI) (P1 P2 : Nat → Nat) (w j a t : Nat) (ht : w ≤ t) : cpR I P1 P2 w j a t = I a t := by
  induction j with
  | zero => rfl
  | succ j ih =>
    show cp0 _ _ _ _ a t = _
    simp only [cp0]
    rw [if_neg (fun z => by omega)]
    exact ih
set_option maxRecDepth 100000 in
set_option maxHeartbeats 400000 in
theorem S_isFull (b n : Nat) (P : Nat → Nat) (I : MI) (R : MR) (hB : isB b) (hFR : FR R) (hT : TS I R b P n) : Sp 0 0 0 mX8_isFull [.ref (b + 1)] g0 I R (Rt (some (.int (if n < 20 then 0 else 1))) g0 I R) := by
  obtain ⟨hc, hn, hP⟩ := hT
  have hka := ka_tbl hB
  have hkw := ka_rws hB
  have hr0 : R (b + 1) 0 = some (b + 2) := (hFR.1 b hB).2.2.2.1
  refine Sp.on (by decide +kernel) rfl rfl (fun J hM => ?_)
  have hJ := hM.ok
  refine q_aload_n hJ dX8_isFull_0 (q := 1) rfl rfl rfl ?_
  refine q_getI hJ dX8_isFull_1 (q := 4) rfl fl_X8_18 rfl (by assumption) hc ?_
  refine q_aload_n hJ dX8_isFull_4 (q := 5) rfl rfl rfl ?_
  refine q_getR hJ dX8_isFull_5 (q := 8) rfl fl_X8_11 rfl (by assumption) (by assumption) rfl ?_
  refine q_alen hJ (v := 20) dX8_isFull_8 (q := 9) rfl (by assumption) (by decide) (by decide) (by decide) ?_
  refine q_icmp_lt hJ (tgt := 16) dX8_isFull_9 (q := 12) rfl (by decide) (fun c1 => ?_) (fun c1 => ?_)
  · have hnn : n < 20 := (nI_ltI (a := n) (b := 20) (by omega) (by decide)).mp (by rw [← nI_20]; exact c1)
    refine q_iconst hJ (v := 0) dX8_isFull_16 (q := 17) rfl (by decide) ?_
    refine q_iret hM dX8_isFull_17 rfl (nz rfl (by decide)) ?_
    exact ⟨by simp [hnn], rfl, rfl, rfl⟩
  · have hnn : ¬ n < 20 := fun z => c1 (by rw [nI_20]; exact (nI_ltI (by omega) (by decide)).mpr z)
    refine q_iconst hJ (v := 1) dX8_isFull_12 (q := 13) rfl (by decide) ?_
    refine q_goto hJ (tgt := 17) dX8_isFull_13 (by decide) ?_
    refine q_iret hM dX8_isFull_17 rfl (nz rfl (by decide)) ?_
    exact ⟨by simp [hnn], rfl, rfl, rfl⟩

set_option maxRecDepth 100000 in
set_option maxHeartbeats 400000 in
theorem S_rowAt (b n : Nat) (P : Nat → Nat) (x : Int32) (I : MI) (R : MR) (hB : isB b) (hFR : FR R) (hT : TS I R b P n) : Sp 0 0 0 mX8_rowAt [.ref (b + 1), .int x] g0 I R (Rt (some (rr (rowAtF x n P))) g0 I R) := by
  obtain ⟨hc, hn, hP⟩ := hT
  have hka := ka_tbl hB
  have hkw := ka_rws hB
  have hr0 : R (b + 1) 0 = some (b + 2) := (hFR.1 b hB).2.2.2.1
  refine Sp.on (by decide +kernel) rfl rfl (fun J hM => ?_)
  have hJ := hM.ok
  refine q_iload_n hJ dX8_rowAt_0 (q := 1) rfl rfl ?_
  refine q_if_lt hJ (tgt := 30) dX8_rowAt_1 (q := 4) rfl (by decide) (fun c1 => ?_) (fun c1 => ?_)
  · refine q_null hJ dX8_rowAt_30 (q := 31) rfl ?_
    refine q_aret hM dX8_rowAt_31 rfl rfl ?_
    exact ⟨by simp [rowAtF, rr, *], rfl, rfl, rfl⟩
  · refine q_iload_n hJ dX8_rowAt_4 (q := 5) rfl rfl ?_
    refine q_aload_n hJ dX8_rowAt_5 (q := 6) rfl rfl rfl ?_
    refine q_getI hJ dX8_rowAt_6 (q := 9) rfl fl_X8_18 rfl (by assumption) hc ?_
    refine q_icmp_ge hJ (tgt := 30) dX8_rowAt_9 (q := 12) rfl (by decide) (fun c2 => ?_) (fun c2 => ?_)
    · refine q_null hJ dX8_rowAt_30 (q := 31) rfl ?_
      refine q_aret hM dX8_rowAt_31 rfl rfl ?_
      exact ⟨by simp [rowAtF, rr, *], rfl, rfl, rfl⟩
    · obtain ⟨j, hj, rfl⟩ := nI_of c1
      have hjn : j < n := (nI_ltI hj (by omega)).mp (Int32.not_le.mp c2)
      have hjx : ix (nI j) j 20 := ix_nI (by omega) (by decide)
      have hrow : R (b + 2) j = some (P j) := (hP j (by omega)).1
      refine q_iload_n hJ dX8_rowAt_12 (q := 13) rfl rfl ?_
      refine q_aload_n hJ dX8_rowAt_13 (q := 14) rfl rfl rfl ?_
      refine q_getR hJ dX8_rowAt_14 (q := 17) rfl fl_X8_11 rfl (by assumption) (by assumption) rfl ?_
      refine q_alen hJ (v := 20) dX8_rowAt_17 (q := 18) rfl (by assumption) (by decide) (by decide) (by decide) ?_
      refine q_icmp_ge hJ (tgt := 30) dX8_rowAt_18 (q := 21) rfl (by decide) (fun c3 => absurd (by rw [nI_20] at c3; exact (nI_leI (by decide) hj).mp c3) (by omega)) (fun _ => ?_)
      refine q_aload_n hJ dX8_rowAt_21 (q := 22) rfl rfl rfl ?_
      refine q_getR hJ dX8_rowAt_22 (q := 25) rfl fl_X8_11 rfl (by assumption) (by assumption) rfl ?_
      refine q_iload_n hJ dX8_rowAt_25 (q := 26) rfl rfl ?_
      refine q_aald hJ dX8_rowAt_26 (q := 27) rfl (by assumption) (by decide) (by assumption) (by assumption) rfl ?_
      refine q_goto hJ (tgt := 31) dX8_rowAt_27 (by decide) ?_
      refine q_aret hM dX8_rowAt_31 rfl rfl ?_
      exact ⟨by simp [rowAtF, rr, nI_pos hj, c2, nI_clamp hj], rfl, rfl, rfl⟩

set_option maxRecDepth 100000 in
set_option maxHeartbeats 400000 in
theorem S_rowOf (b n : Nat) (P : Nat → Nat) (key : Int32) (I : MI) (R : MR) (hB : isB b) (hFR : FR R) (hT : TS I R b P n) : Sp 0 0 0 mX8_rowOf [.ref (b + 1), .int key] g0 I R (Rt (some (rr ((fndF (fun j => I (P j) 0 = key) 0 n).map P))) g0 I R) := by
  obtain ⟨hc, hn, hP⟩ := hT
  have hka := ka_tbl hB
  have hkw := ka_rws hB
  have hr0 : R (b + 1) 0 = some (b + 2) := (hFR.1 b hB).2.2.2.1
  refine Sp.on (by decide +kernel) rfl rfl (fun J hM => ?_)
  have hJ := hM.ok
  have loop : ∀ (k j : Nat) (w : Option Value), j + k = n → fndF (fun j => I (P j) 0 = key) 0 n = fndF (fun j => I (P j) 0 = key) j k → J 0 0 2 [some (.ref (b + 1)), some (.int key), some (.int (nI j)), w] [] g0 I R := by
    intro k
    induction k with
    | zero =>
      intro j w hj hf
      refine q_iload_n hJ dX8_rowOf_2 (q := 3) rfl rfl ?_
      refine q_aload_n hJ dX8_rowOf_3 (q := 4) rfl rfl rfl ?_
      refine q_getI hJ dX8_rowOf_4 (q := 7) rfl fl_X8_18 rfl (by assumption) hc ?_
      refine q_icmp_ge hJ (tgt := 46) dX8_rowOf_7 (q := 10) rfl (by decide) (fun _ => ?_) (fun c1 => absurd ((nI_leI (by omega) (by omega)).mpr (by omega)) c1)
      refine q_null hJ dX8_rowOf_46 (q := 47) rfl ?_
      refine q_aret hM dX8_rowOf_47 rfl rfl ?_
      exact ⟨by rw [hf]; rfl, rfl, rfl, rfl⟩
    | succ k ih =>
      intro j w hj hf
      refine q_iload_n hJ dX8_rowOf_2 (q := 3) rfl rfl ?_
      refine q_aload_n hJ dX8_rowOf_3 (q := 4) rfl rfl rfl ?_
      refine q_getI hJ dX8_rowOf_4 (q := 7) rfl fl_X8_18 rfl (by assumption) hc ?_
      refine q_icmp_ge hJ (tgt := 46) dX8_rowOf_7 (q := 10) rfl (by decide) (fun c1 => absurd ((nI_leI (by omega) (by omega)).mp c1) (by omega)) (fun _ => ?_)
      have hjx : ix (nI j) j 20 := ix_nI (by omega) (by decide)
      have hrow : R (b + 2) j = some (P j) := (hP j (by omega)).1
      have hkr := ka_row hB (hP j (by omega)).2.1 (hP j (by omega)).2.2.1
      refine q_iload_n hJ dX8_rowOf_10 (q := 11) rfl rfl ?_
      refine q_aload_n hJ dX8_rowOf_11 (q := 12) rfl rfl rfl ?_
      refine q_getR hJ dX8_rowOf_12 (q := 15) rfl fl_X8_11 rfl (by assumption) (by assumption) rfl ?_
      refine q_alen hJ (v := 20) dX8_rowOf_15 (q := 16) rfl (by assumption) (by decide) (by decide) (by decide) ?_
      refine q_icmp_ge hJ (tgt := 46) dX8_rowOf_16 (q := 19) rfl (by decide) (fun c2 => absurd (by rw [nI_20] at c2; exact (nI_leI (by decide) (by omega)).mp c2) (by omega)) (fun _ => ?_)
      refine q_aload_n hJ dX8_rowOf_19 (q := 20) rfl rfl rfl ?_
      refine q_getR hJ dX8_rowOf_20 (q := 23) rfl fl_X8_11 rfl (by assumption) (by assumption) rfl ?_
      refine q_iload_n hJ dX8_rowOf_23 (q := 24) rfl rfl ?_
      refine q_aald hJ dX8_rowOf_24 (q := 25) rfl (by assumption) (by decide) (by assumption) (by assumption) rfl ?_
      refine q_astore_n hJ dX8_rowOf_25 (q := 26) rfl (by decide) rfl ?_
      refine q_aload_n hJ dX8_rowOf_26 (q := 27) rfl rfl rfl ?_
      refine q_nullN hJ dX8_rowOf_27 (q := 30) rfl ?_
      refine q_aload_n hJ dX8_rowOf_30 (q := 31) rfl rfl rfl ?_
      refine q_getI hJ dX8_rowOf_31 (q := 34) rfl fl_X8_22 rfl (by assumption) rfl ?_
      refine q_iload_n hJ dX8_rowOf_34 (q := 35) rfl rfl ?_
      refine q_icmp_ne hJ (tgt := 40) dX8_rowOf_35 (q := 38) rfl (by decide) (fun c3 => ?_) (fun c3 => ?_)
      · refine q_iinc hJ dX8_rowOf_40 (q := 43) rfl (by decide) rfl (nI_1 j) ?_
        refine q_goto hJ (tgt := 2) dX8_rowOf_43 (by decide) ?_
        exact ih (j + 1) _ (by omega) (by rw [hf, fndF, if_neg c3])
      · refine q_aload_n hJ dX8_rowOf_38 (q := 39) rfl rfl rfl ?_
        refine q_aret hM dX8_rowOf_39 rfl rfl ?_
        exact ⟨by rw [hf, fndF, if_pos c3]; rfl, rfl, rfl, rfl⟩
  refine q_iconst hJ (v := 0) dX8_rowOf_0 (q := 1) rfl (by decide) ?_
  refine q_istore_n hJ dX8_rowOf_1 (q := 2) rfl (by decide) ?_
  exact loop n 0 none (by omega) rfl

theorem S_rowCp (a b : Nat) (I : MI) (R : MR) (hk : KA g0 a 4 0) (hk2 : KA g0 b 4 0) : Sp 0 0 0 mX4_copyFrom [.ref a, .ref b] g0 I R (Rt none g0 (cp0 I b a 4) R) := by
  rw [← rwS_cp]
  exact S_rowCopy a b I R hk hk2
theorem cp0_other {I : MI} {x y n a : Nat} (h : a ≠ y) (t : Nat) : cp0 I x y n a t = I a t := by
  simp only [cp0]
  rw [if_neg (fun z => h z.1)]
theorem rowAtF_in {j n : Nat} {P : Nat → Nat} (h : j < n) (hn : n ≤ 20) : rowAtF (nI j) n P = some (P j) := by
  have h1 : ¬ nI j < 0 := nI_pos (by omega)
  have h2 : ¬ nI n ≤ nI j := nI_ge h (by omega)
  rw [rowAtF, if_neg h1, if_neg h2, nI_clamp (by omega)]
theorem isB_dis {b c : Nat} (h1 : isB b) (h2 : isB c) (h : b ≠ c) : b + 42 ≤ c ∨ c + 42 ≤ b := by
  unfold isB at h1 h2
  omega
theorem nI_m1 (q : Nat) : nI (q + 1) + Int32.ofInt (-1) = nI q := by
  have h : (Int32.ofInt (-1)) = -1 := by decide
  rw [h, ← Int32.sub_eq_add_neg]
  exact nI_pred q
set_option maxRecDepth 100000 in
set_option maxHeartbeats 400000 in
theorem S_take (b n x : Nat) (P : Nat → Nat) (I : MI) (R : MR) (hB : isB b) (hFR : FR R) (hT : TS I R b P n) (hlt : n < 20) (hkx : KA g0 x 4 0) (hx : x < b + 3 ∨ b + 23 ≤ x) : Sp 1 0 0 mX8_take [.ref (b + 1), .ref x] g0 I R (Rt none g0 (up2 (cp0 I x (P n) 4) (b + 1) 1 (nI (n + 1))) (up2 (shR R b P n (insP (fun j => I (P j) 0) (I x 0) n)) (b + 2) (insP (fun j => I (P j) 0) (I x 0) n) (some (P n)))) := by
  obtain ⟨hc, hn, hP⟩ := hT
  have hka := ka_tbl hB
  have hkw := ka_rws hB
  have hr0 : R (b + 1) 0 = some (b + 2) := (hFR.1 b hB).2.2.2.1
  refine Sp.on (by decide +kernel) rfl rfl (fun J hM => ?_)
  have hJ := hM.ok
  have hrn := hP n (by omega)
  have hkn := ka_row hB hrn.2.1 hrn.2.2.1
  have hxn : x ≠ P n := fun z => by omega
  have hbn : b + 1 ≠ P n := fun z => by omega
  have hc1 : cp0 I x (P n) 4 (b + 1) 1 = nI n := (cp0_other hbn 1).trans hc
  have ex : ∀ (q : Nat) (w : Option Value), q ≤ n → insP (fun j => I (P j) 0) (I x 0) n = q → J 0 0 93 [some (.ref (b + 1)), some (.ref x), some (.ref (P n)), some (.int (nI q)), w] [] g0 (cp0 I x (P n) 4) (shR R b P n q) := by
    intro q w hqn hq
    have hsr : shR R b P n q (b + 1) 0 = some (b + 2) := (shR_other (by omega) 0).trans hr0
    refine q_aload_n hJ dX8_take_93 (q := 94) rfl rfl rfl ?_
    refine q_getR hJ dX8_take_94 (q := 97) rfl fl_X8_11 rfl (by assumption) hsr rfl ?_
    refine q_iload_n hJ dX8_take_97 (q := 98) rfl rfl ?_
    refine q_aload_n hJ dX8_take_98 (q := 99) rfl rfl rfl ?_
    refine q_aast hJ dX8_take_99 (q := 100) rfl (by assumption) (Or.inl ⟨rfl, hkn⟩) (ix_nI (by omega) (by decide)) ?_
    refine q_aload_n hJ dX8_take_100 (q := 101) rfl rfl rfl ?_
    refine q_dup hJ dX8_take_101 (q := 102) rfl rfl ?_
    refine q_getI hJ dX8_take_102 (q := 105) rfl fl_X8_18 rfl (by assumption) hc1 ?_
    refine q_iconst hJ (v := 1) dX8_take_105 (q := 106) rfl (by decide) ?_
    refine q_iadd hJ dX8_take_106 (q := 107) rfl ?_
    refine q_putI hJ dX8_take_107 (q := 110) rfl fl_X8_18 rfl rfl (by assumption) rfl rfl ?_
    refine q_vret hM dX8_take_110 rfl ?_
    exact ⟨rfl, rfl, by rw [nI_1], by rw [hq]⟩
  have loop : ∀ (q : Nat) (w : Option Value), q ≤ n → insP (fun j => I (P j) 0) (I x 0) n = insP (fun j => I (P j) 0) (I x 0) q → J 0 0 45 [some (.ref (b + 1)), some (.ref x), some (.ref (P n)), some (.int (nI q)), w] [] g0 (cp0 I x (P n) 4) (shR R b P n q) := by
    intro q
    induction q with
    | zero =>
      intro w _ hf
      refine q_iload_n hJ dX8_take_45 (q := 46) rfl rfl ?_
      refine q_if_le hJ (tgt := 93) dX8_take_46 (q := 49) rfl (by decide) (fun _ => ?_) (fun c2 => absurd c2 (by decide))
      exact ex 0 w (by omega) hf
    | succ q ih =>
      intro w hq hf
      have hrq := hP q (by omega)
      have hkq := ka_row hB hrq.2.1 hrq.2.2.1
      have hqn : P q ≠ P n := fun z => by have := hrn.2.2.2 q (by omega) z; omega
      have hsr : shR R b P n (q + 1) (b + 1) 0 = some (b + 2) := (shR_other (by omega) 0).trans hr0
      refine q_iload_n hJ dX8_take_45 (q := 46) rfl rfl ?_
      refine q_if_le hJ (tgt := 93) dX8_take_46 (q := 49) rfl (by decide) (fun c2 => absurd c2 (nI_nle (by omega) (by omega))) (fun _ => ?_)
      refine q_aload_n hJ dX8_take_49 (q := 50) rfl rfl rfl ?_
      refine q_getR hJ dX8_take_50 (q := 53) rfl fl_X8_11 rfl (by assumption) hsr rfl ?_
      refine q_iload_n hJ dX8_take_53 (q := 54) rfl rfl ?_
      refine q_iconst hJ (v := 1) dX8_take_54 (q := 55) rfl (by decide) ?_
      refine q_isub hJ dX8_take_55 (q := 56) rfl ?_
      refine q_aald hJ dX8_take_56 (q := 57) rfl (by assumption) (by decide) (by rw [nI_pred]; exact ix_nI (by omega) (by decide)) ((shR_low (by omega)).trans hrq.1) rfl ?_
      refine q_astore hJ dX8_take_57 (q := 59) rfl (by decide) rfl ?_
      refine q_aload hJ dX8_take_59 (q := 61) rfl rfl rfl ?_
      refine q_nullN hJ dX8_take_61 (q := 64) rfl ?_
      refine q_aload hJ dX8_take_64 (q := 66) rfl rfl rfl ?_
      refine q_getI hJ dX8_take_66 (q := 69) rfl fl_X8_22 rfl (by assumption) (cp0_other hqn 0) ?_
      refine q_aload_n hJ dX8_take_69 (q := 70) rfl rfl rfl ?_
      refine q_getI hJ dX8_take_70 (q := 73) rfl fl_X8_22 rfl (by assumption) (cp0_other hxn 0) ?_
      refine q_icmp_ge hJ (tgt := 79) dX8_take_73 (q := 76) rfl (by decide) (fun c3 => ?_) (fun c3 => ?_)
      · refine q_aload_n hJ dX8_take_79 (q := 80) rfl rfl rfl ?_
        refine q_getR hJ dX8_take_80 (q := 83) rfl fl_X8_11 rfl (by assumption) hsr rfl ?_
        refine q_iload_n hJ dX8_take_83 (q := 84) rfl rfl ?_
        refine q_aload hJ dX8_take_84 (q := 86) rfl rfl rfl ?_
        refine q_aast hJ dX8_take_86 (q := 87) rfl (by assumption) (Or.inl ⟨rfl, hkq⟩) (ix_nI (by omega) (by decide)) ?_
        rw [shR_step R b P n q (by omega)]
        refine q_iinc hJ dX8_take_87 (q := 90) rfl (by decide) rfl (nI_m1 q) ?_
        refine q_goto hJ (tgt := 45) dX8_take_90 (by decide) ?_
        exact ih _ (by omega) (by rw [hf, insP, if_neg (Int32.not_lt.mpr c3)])
      · refine q_goto hJ (tgt := 93) dX8_take_76 (by decide) ?_
        exact ex (q + 1) _ (by omega) (by rw [hf, insP, if_pos (Int32.not_le.mp c3)])
  refine q_aload_n hJ dX8_take_0 (q := 1) rfl rfl rfl ?_
  refine q_getI hJ dX8_take_1 (q := 4) rfl fl_X8_18 rfl (by assumption) hc ?_
  refine q_if_lt hJ (tgt := 19) dX8_take_4 (q := 7) rfl (by decide) (fun c0 => absurd c0 (nI_pos (by omega))) (fun _ => ?_)
  refine q_aload_n hJ dX8_take_7 (q := 8) rfl rfl rfl ?_
  refine q_getI hJ dX8_take_8 (q := 11) rfl fl_X8_18 rfl (by assumption) hc ?_
  refine q_aload_n hJ dX8_take_11 (q := 12) rfl rfl rfl ?_
  refine q_getR hJ dX8_take_12 (q := 15) rfl fl_X8_11 rfl (by assumption) (by assumption) rfl ?_
  refine q_alen hJ (v := 20) dX8_take_15 (q := 16) rfl (by assumption) (by decide) (by decide) (by decide) ?_
  refine q_icmp_lt hJ (tgt := 20) dX8_take_16 (q := 19) rfl (by decide) (fun _ => ?_) (fun c1 => absurd (by rw [nI_20]; exact (nI_ltI (by omega) (by decide)).mpr hlt) c1)
  refine q_aload_n hJ dX8_take_20 (q := 21) rfl rfl rfl ?_
  refine q_getR hJ dX8_take_21 (q := 24) rfl fl_X8_11 rfl (by assumption) (by assumption) rfl ?_
  refine q_aload_n hJ dX8_take_24 (q := 25) rfl rfl rfl ?_
  refine q_getI hJ dX8_take_25 (q := 28) rfl fl_X8_18 rfl (by assumption) hc ?_
  refine q_aald hJ dX8_take_28 (q := 29) rfl (by assumption) (by decide) (ix_nI (by omega) (by decide)) hrn.1 rfl ?_
  refine q_astore_n hJ dX8_take_29 (q := 30) rfl (by decide) rfl ?_
  refine q_aload_n hJ dX8_take_30 (q := 31) rfl rfl rfl ?_
  refine q_nonnullN hJ (tgt := 35) dX8_take_31 (by decide) ?_
  refine q_aload_n hJ dX8_take_35 (q := 36) rfl rfl rfl ?_
  refine q_aload_n hJ dX8_take_36 (q := 37) rfl rfl rfl ?_
  refine q_callV hJ dX8_take_37 (q := 40) rfl (S_rowCp (P n) x I R hkn hkx) imX4_copyFrom ln_X8_25 (by assumption) (by decide) rfl rfl rfl rfl (Nat.le_of_ble_eq_true rfl) (by decide) (by decide) rfl rfl (fun rv gv Iv Rv hv => ?_)
  obtain ⟨rfl, rfl, rfl, rfl⟩ := hv
  refine q_aload_n hJ dX8_take_40 (q := 41) rfl rfl rfl ?_
  refine q_getI hJ dX8_take_41 (q := 44) rfl fl_X8_18 rfl (by assumption) hc1 ?_
  refine q_istore_n hJ dX8_take_44 (q := 45) rfl (by decide) ?_
  rw [← shR_n R b P n]
  exact loop n none (Nat.le_refl n) rfl

set_option maxRecDepth 100000 in
set_option maxHeartbeats 400000 in
theorem S_drop (b n i : Nat) (P : Nat → Nat) (key : Int32) (I : MI) (R : MR) (hB : isB b) (hFR : FR R) (hT : TS I R b P n) (hi : i < n) (hkey : I (P i) 0 = key) (hfst : ∀ t, t < i → ¬ I (P t) 0 = key) : Sp 0 0 0 mX8_drop [.ref (b + 1), .int key] g0 I R (Rt none g0 (up2 I (b + 1) 1 (nI (n - 1))) (dR R b P n i n)) := by
  obtain ⟨hc, hn, hP⟩ := hT
  have hka := ka_tbl hB
  have hkw := ka_rws hB
  have hr0 : R (b + 1) 0 = some (b + 2) := (hFR.1 b hB).2.2.2.1
  refine Sp.on (by decide +kernel) rfl rfl (fun J hM => ?_)
  have hJ := hM.ok
  have hin := hP i (by omega)
  have hki := ka_row hB hin.2.1 hin.2.2.1
  have loop2 : ∀ (k j : Nat) (w : Option Value), j + k = n → i < j → J 0 0 4 [some (.ref (b + 1)), some (.int key), some (.ref (P i)), some (.int (nI j)), w] [] g0 I (dR R b P n i j) := by
    intro k
    induction k with
    | zero =>
      intro j w hj hij
      refine q_iload_n hJ dX8_drop_4 (q := 5) rfl rfl ?_
      refine q_aload_n hJ dX8_drop_5 (q := 6) rfl rfl rfl ?_
      refine q_getI hJ dX8_drop_6 (q := 9) rfl fl_X8_18 rfl (by assumption) hc ?_
      refine q_icmp_ge hJ (tgt := 99) dX8_drop_9 (q := 12) rfl (by decide) (fun _ => ?_) (fun c1 => absurd ((nI_leI (by omega) (by omega)).mpr (by omega)) c1)
      refine q_aload_n hJ dX8_drop_99 (q := 100) rfl rfl rfl ?_
      refine q_nullN hJ dX8_drop_100 (q := 103) rfl ?_
      refine q_aload_n hJ dX8_drop_103 (q := 104) rfl rfl rfl ?_
      refine q_dup hJ dX8_drop_104 (q := 105) rfl rfl ?_
      refine q_getI hJ dX8_drop_105 (q := 108) rfl fl_X8_18 rfl (by assumption) hc ?_
      refine q_iconst hJ (v := 1) dX8_drop_108 (q := 109) rfl (by decide) ?_
      refine q_isub hJ dX8_drop_109 (q := 110) rfl ?_
      refine q_putI hJ dX8_drop_110 (q := 113) rfl fl_X8_18 rfl rfl (by assumption) rfl rfl ?_
      refine q_vret hM dX8_drop_113 rfl ?_
      have hj2 : j = n := by omega
      subst hj2
      exact ⟨rfl, rfl, by rw [show j = (j - 1) + 1 by omega, nI_pred]; rfl, rfl⟩
    | succ k ih =>
      intro j w hj hij
      have hrow := hP j (by omega)
      have hkr := ka_row hB hrow.2.1 hrow.2.2.1
      have hsr : dR R b P n i j (b + 1) 0 = some (b + 2) := (dR_other (by omega) 0).trans hr0
      refine q_iload_n hJ dX8_drop_4 (q := 5) rfl rfl ?_
      refine q_aload_n hJ dX8_drop_5 (q := 6) rfl rfl rfl ?_
      refine q_getI hJ dX8_drop_6 (q := 9) rfl fl_X8_18 rfl (by assumption) hc ?_
      refine q_icmp_ge hJ (tgt := 99) dX8_drop_9 (q := 12) rfl (by decide) (fun c1 => absurd ((nI_leI (by omega) (by omega)).mp c1) (by omega)) (fun _ => ?_)
      refine q_iload_n hJ dX8_drop_12 (q := 13) rfl rfl ?_
      refine q_aload_n hJ dX8_drop_13 (q := 14) rfl rfl rfl ?_
      refine q_getR hJ dX8_drop_14 (q := 17) rfl fl_X8_11 rfl (by assumption) hsr rfl ?_
      refine q_alen hJ (v := 20) dX8_drop_17 (q := 18) rfl (by assumption) (by decide) (by decide) (by decide) ?_
      refine q_icmp_ge hJ (tgt := 99) dX8_drop_18 (q := 21) rfl (by decide) (fun c2 => absurd (by rw [nI_20] at c2; exact (nI_leI (by decide) (by omega)).mp c2) (by omega)) (fun _ => ?_)
      refine q_aload_n hJ dX8_drop_21 (q := 22) rfl rfl rfl ?_
      refine q_getR hJ dX8_drop_22 (q := 25) rfl fl_X8_11 rfl (by assumption) hsr rfl ?_
      refine q_iload_n hJ dX8_drop_25 (q := 26) rfl rfl ?_
      refine q_aald hJ dX8_drop_26 (q := 27) rfl (by assumption) (by decide) (ix_nI (by omega) (by decide)) ((dR_high (by omega)).trans hrow.1) rfl ?_
      refine q_astore hJ dX8_drop_27 (q := 29) rfl (by decide) rfl ?_
      refine q_aload_n hJ dX8_drop_29 (q := 30) rfl rfl rfl ?_
      refine q_nonnullN hJ (tgt := 50) dX8_drop_30 (by decide) ?_
      refine q_aload_n hJ dX8_drop_50 (q := 51) rfl rfl rfl ?_
      refine q_nullN hJ dX8_drop_51 (q := 54) rfl ?_
      refine q_aload_n hJ dX8_drop_54 (q := 55) rfl rfl rfl ?_
      refine q_getR hJ dX8_drop_55 (q := 58) rfl fl_X8_11 rfl (by assumption) hsr rfl ?_
      refine q_iload_n hJ dX8_drop_58 (q := 59) rfl rfl ?_
      refine q_iload_n hJ dX8_drop_59 (q := 60) rfl rfl ?_
      refine q_iconst hJ (v := 1) dX8_drop_60 (q := 61) rfl (by decide) ?_
      refine q_iadd hJ dX8_drop_61 (q := 62) rfl ?_
      refine q_aload_n hJ dX8_drop_62 (q := 63) rfl rfl rfl ?_
      refine q_getI hJ dX8_drop_63 (q := 66) rfl fl_X8_18 rfl (by assumption) hc ?_
      refine q_icmp_ge hJ (tgt := 91) dX8_drop_66 (q := 69) rfl (by decide) (fun c4 => ?_) (fun c4 => ?_)
      · refine q_aload_n hJ dX8_drop_91 (q := 92) rfl rfl rfl ?_
        refine q_aast hJ dX8_drop_92 (q := 93) rfl (by assumption) (by first | exact Or.inl ⟨rfl, hki⟩ | exact Or.inl ⟨rfl, ka_row hB (hP (j + 1) (by omega)).2.1 (hP (j + 1) (by omega)).2.2.1⟩) (ix_nI (by omega) (by decide)) ?_
        refine q_iinc hJ dX8_drop_93 (q := 96) rfl (by decide) rfl (nI_1 j) ?_
        refine q_goto hJ (tgt := 4) dX8_drop_96 (by decide) ?_
        have hst := dR_step R b P n i j (by omega)
        first | rw [if_pos c4n] at hst | rw [if_neg (show ¬ j + 1 < n from fun z => absurd ((nI_leI (a := n) (b := j + 1) (by omega) (by omega)).mp (by rw [← nI_1]; exact c4)) (by omega))] at hst
        rw [hst]
        exact ih (j + 1) _ (by omega) (by omega)
      · have c4n : j + 1 < n := by rw [nI_1] at c4; exact Nat.lt_of_not_le (fun z => c4 ((nI_leI (by omega) (by omega)).mpr z))
        refine q_iload_n hJ dX8_drop_69 (q := 70) rfl rfl ?_
        refine q_iconst hJ (v := 1) dX8_drop_70 (q := 71) rfl (by decide) ?_
        refine q_iadd hJ dX8_drop_71 (q := 72) rfl ?_
        refine q_aload_n hJ dX8_drop_72 (q := 73) rfl rfl rfl ?_
        refine q_getR hJ dX8_drop_73 (q := 76) rfl fl_X8_11 rfl (by assumption) hsr rfl ?_
        refine q_alen hJ (v := 20) dX8_drop_76 (q := 77) rfl (by assumption) (by decide) (by decide) (by decide) ?_
        refine q_icmp_ge hJ (tgt := 91) dX8_drop_77 (q := 80) rfl (by decide) (fun c5 => absurd (by rw [nI_20, nI_1] at c5; exact (nI_leI (by decide) (by omega)).mp c5) (by have := c4n; omega)) (fun _ => ?_)
        refine q_aload_n hJ dX8_drop_80 (q := 81) rfl rfl rfl ?_
        refine q_getR hJ dX8_drop_81 (q := 84) rfl fl_X8_11 rfl (by assumption) hsr rfl ?_
        refine q_iload_n hJ dX8_drop_84 (q := 85) rfl rfl ?_
        refine q_iconst hJ (v := 1) dX8_drop_85 (q := 86) rfl (by decide) ?_
        refine q_iadd hJ dX8_drop_86 (q := 87) rfl ?_
        refine q_aald hJ dX8_drop_87 (q := 88) rfl (by assumption) (by decide) (by rw [nI_1]; exact ix_nI (by omega) (by decide)) ((dR_high (by omega)).trans (hP (j + 1) (by omega)).1) rfl ?_
        refine q_goto hJ (tgt := 92) dX8_drop_88 (by decide) ?_
        refine q_aast hJ dX8_drop_92 (q := 93) rfl (by assumption) (by first | exact Or.inl ⟨rfl, hki⟩ | exact Or.inl ⟨rfl, ka_row hB (hP (j + 1) (by omega)).2.1 (hP (j + 1) (by omega)).2.2.1⟩) (ix_nI (by omega) (by decide)) ?_
        refine q_iinc hJ dX8_drop_93 (q := 96) rfl (by decide) rfl (nI_1 j) ?_
        refine q_goto hJ (tgt := 4) dX8_drop_96 (by decide) ?_
        have hst := dR_step R b P n i j (by omega)
        first | rw [if_pos c4n] at hst | rw [if_neg (show ¬ j + 1 < n from fun z => absurd ((nI_leI (a := n) (b := j + 1) (by omega) (by omega)).mp (by rw [← nI_1]; exact c4)) (by omega))] at hst
        rw [hst]
        exact ih (j + 1) _ (by omega) (by omega)
  have loop1 : ∀ (k j : Nat) (w : Option Value), j + k = i → J 0 0 4 [some (.ref (b + 1)), some (.int key), some .null, some (.int (nI j)), w] [] g0 I R := by
    intro k
    induction k with
    | zero =>
      intro j w hj
      obtain rfl : i = j := by omega
      have hrow := hin
      have hkr := hki
      refine q_iload_n hJ dX8_drop_4 (q := 5) rfl rfl ?_
      refine q_aload_n hJ dX8_drop_5 (q := 6) rfl rfl rfl ?_
      refine q_getI hJ dX8_drop_6 (q := 9) rfl fl_X8_18 rfl (by assumption) hc ?_
      refine q_icmp_ge hJ (tgt := 99) dX8_drop_9 (q := 12) rfl (by decide) (fun c1 => absurd ((nI_leI (by omega) (by omega)).mp c1) (by omega)) (fun _ => ?_)
      refine q_iload_n hJ dX8_drop_12 (q := 13) rfl rfl ?_
      refine q_aload_n hJ dX8_drop_13 (q := 14) rfl rfl rfl ?_
      refine q_getR hJ dX8_drop_14 (q := 17) rfl fl_X8_11 rfl (by assumption) hr0 rfl ?_
      refine q_alen hJ (v := 20) dX8_drop_17 (q := 18) rfl (by assumption) (by decide) (by decide) (by decide) ?_
      refine q_icmp_ge hJ (tgt := 99) dX8_drop_18 (q := 21) rfl (by decide) (fun c2 => absurd (by rw [nI_20] at c2; exact (nI_leI (by decide) (by omega)).mp c2) (by omega)) (fun _ => ?_)
      refine q_aload_n hJ dX8_drop_21 (q := 22) rfl rfl rfl ?_
      refine q_getR hJ dX8_drop_22 (q := 25) rfl fl_X8_11 rfl (by assumption) hr0 rfl ?_
      refine q_iload_n hJ dX8_drop_25 (q := 26) rfl rfl ?_
      refine q_aald hJ dX8_drop_26 (q := 27) rfl (by assumption) (by decide) (ix_nI (by omega) (by decide)) hrow.1 rfl ?_
      refine q_astore hJ dX8_drop_27 (q := 29) rfl (by decide) rfl ?_
      refine q_aload_n hJ dX8_drop_29 (q := 30) rfl rfl rfl ?_
      refine q_nonnullY hJ (a := 0) dX8_drop_30 (q := 33) rfl ?_
      refine q_aload hJ dX8_drop_33 (q := 35) rfl rfl rfl ?_
      refine q_nullN hJ dX8_drop_35 (q := 38) rfl ?_
      refine q_aload hJ dX8_drop_38 (q := 40) rfl rfl rfl ?_
      refine q_getI hJ dX8_drop_40 (q := 43) rfl fl_X8_22 rfl (by assumption) rfl ?_
      refine q_iload_n hJ dX8_drop_43 (q := 44) rfl rfl ?_
      refine q_icmp_ne hJ (tgt := 50) dX8_drop_44 (q := 47) rfl (by decide) (fun c3 => absurd hkey c3) (fun _ => ?_)
      refine q_aload hJ dX8_drop_47 (q := 49) rfl rfl rfl ?_
      refine q_astore_n hJ dX8_drop_49 (q := 50) rfl (by decide) rfl ?_
      refine q_aload_n hJ dX8_drop_50 (q := 51) rfl rfl rfl ?_
      refine q_nullN hJ dX8_drop_51 (q := 54) rfl ?_
      refine q_aload_n hJ dX8_drop_54 (q := 55) rfl rfl rfl ?_
      refine q_getR hJ dX8_drop_55 (q := 58) rfl fl_X8_11 rfl (by assumption) hr0 rfl ?_
      refine q_iload_n hJ dX8_drop_58 (q := 59) rfl rfl ?_
      refine q_iload_n hJ dX8_drop_59 (q := 60) rfl rfl ?_
      refine q_iconst hJ (v := 1) dX8_drop_60 (q := 61) rfl (by decide) ?_
      refine q_iadd hJ dX8_drop_61 (q := 62) rfl ?_
      refine q_aload_n hJ dX8_drop_62 (q := 63) rfl rfl rfl ?_
      refine q_getI hJ dX8_drop_63 (q := 66) rfl fl_X8_18 rfl (by assumption) hc ?_
      refine q_icmp_ge hJ (tgt := 91) dX8_drop_66 (q := 69) rfl (by decide) (fun c4 => ?_) (fun c4 => ?_)
      · refine q_aload_n hJ dX8_drop_91 (q := 92) rfl rfl rfl ?_
        refine q_aast hJ dX8_drop_92 (q := 93) rfl (by assumption) (by first | exact Or.inl ⟨rfl, hki⟩ | exact Or.inl ⟨rfl, ka_row hB (hP (i + 1) (by omega)).2.1 (hP (i + 1) (by omega)).2.2.1⟩) (ix_nI (by omega) (by decide)) ?_
        refine q_iinc hJ dX8_drop_93 (q := 96) rfl (by decide) rfl (nI_1 i) ?_
        refine q_goto hJ (tgt := 4) dX8_drop_96 (by decide) ?_
        have hst := dR_step R b P n i i (by omega)
        rw [dR_0] at hst
        first | rw [if_pos c4n] at hst | rw [if_neg (show ¬ i + 1 < n from fun z => absurd ((nI_leI (a := n) (b := i + 1) (by omega) (by omega)).mp (by rw [← nI_1]; exact c4)) (by omega))] at hst
        rw [hst]
        exact loop2 (n - (i + 1)) (i + 1) _ (by omega) (by omega)
      · have c4n : i + 1 < n := by rw [nI_1] at c4; exact Nat.lt_of_not_le (fun z => c4 ((nI_leI (by omega) (by omega)).mpr z))
        refine q_iload_n hJ dX8_drop_69 (q := 70) rfl rfl ?_
        refine q_iconst hJ (v := 1) dX8_drop_70 (q := 71) rfl (by decide) ?_
        refine q_iadd hJ dX8_drop_71 (q := 72) rfl ?_
        refine q_aload_n hJ dX8_drop_72 (q := 73) rfl rfl rfl ?_
        refine q_getR hJ dX8_drop_73 (q := 76) rfl fl_X8_11 rfl (by assumption) hr0 rfl ?_
        refine q_alen hJ (v := 20) dX8_drop_76 (q := 77) rfl (by assumption) (by decide) (by decide) (by decide) ?_
        refine q_icmp_ge hJ (tgt := 91) dX8_drop_77 (q := 80) rfl (by decide) (fun c5 => absurd (by rw [nI_20, nI_1] at c5; exact (nI_leI (by decide) (by omega)).mp c5) (by have := c4n; omega)) (fun _ => ?_)
        refine q_aload_n hJ dX8_drop_80 (q := 81) rfl rfl rfl ?_
        refine q_getR hJ dX8_drop_81 (q := 84) rfl fl_X8_11 rfl (by assumption) hr0 rfl ?_
        refine q_iload_n hJ dX8_drop_84 (q := 85) rfl rfl ?_
        refine q_iconst hJ (v := 1) dX8_drop_85 (q := 86) rfl (by decide) ?_
        refine q_iadd hJ dX8_drop_86 (q := 87) rfl ?_
        refine q_aald hJ dX8_drop_87 (q := 88) rfl (by assumption) (by decide) (by rw [nI_1]; exact ix_nI (by omega) (by decide)) (hP (i + 1) (by omega)).1 rfl ?_
        refine q_goto hJ (tgt := 92) dX8_drop_88 (by decide) ?_
        refine q_aast hJ dX8_drop_92 (q := 93) rfl (by assumption) (by first | exact Or.inl ⟨rfl, hki⟩ | exact Or.inl ⟨rfl, ka_row hB (hP (i + 1) (by omega)).2.1 (hP (i + 1) (by omega)).2.2.1⟩) (ix_nI (by omega) (by decide)) ?_
        refine q_iinc hJ dX8_drop_93 (q := 96) rfl (by decide) rfl (nI_1 i) ?_
        refine q_goto hJ (tgt := 4) dX8_drop_96 (by decide) ?_
        have hst := dR_step R b P n i i (by omega)
        rw [dR_0] at hst
        first | rw [if_pos c4n] at hst | rw [if_neg (show ¬ i + 1 < n from fun z => absurd ((nI_leI (a := n) (b := i + 1) (by omega) (by omega)).mp (by rw [← nI_1]; exact c4)) (by omega))] at hst
        rw [hst]
        exact loop2 (n - (i + 1)) (i + 1) _ (by omega) (by omega)
    | succ k ih =>
      intro j w hj
      have hrow := hP j (by omega)
      have hkr := ka_row hB hrow.2.1 hrow.2.2.1
      refine q_iload_n hJ dX8_drop_4 (q := 5) rfl rfl ?_
      refine q_aload_n hJ dX8_drop_5 (q := 6) rfl rfl rfl ?_
      refine q_getI hJ dX8_drop_6 (q := 9) rfl fl_X8_18 rfl (by assumption) hc ?_
      refine q_icmp_ge hJ (tgt := 99) dX8_drop_9 (q := 12) rfl (by decide) (fun c1 => absurd ((nI_leI (by omega) (by omega)).mp c1) (by omega)) (fun _ => ?_)
      refine q_iload_n hJ dX8_drop_12 (q := 13) rfl rfl ?_
      refine q_aload_n hJ dX8_drop_13 (q := 14) rfl rfl rfl ?_
      refine q_getR hJ dX8_drop_14 (q := 17) rfl fl_X8_11 rfl (by assumption) hr0 rfl ?_
      refine q_alen hJ (v := 20) dX8_drop_17 (q := 18) rfl (by assumption) (by decide) (by decide) (by decide) ?_
      refine q_icmp_ge hJ (tgt := 99) dX8_drop_18 (q := 21) rfl (by decide) (fun c2 => absurd (by rw [nI_20] at c2; exact (nI_leI (by decide) (by omega)).mp c2) (by omega)) (fun _ => ?_)
      refine q_aload_n hJ dX8_drop_21 (q := 22) rfl rfl rfl ?_
      refine q_getR hJ dX8_drop_22 (q := 25) rfl fl_X8_11 rfl (by assumption) hr0 rfl ?_
      refine q_iload_n hJ dX8_drop_25 (q := 26) rfl rfl ?_
      refine q_aald hJ dX8_drop_26 (q := 27) rfl (by assumption) (by decide) (ix_nI (by omega) (by decide)) hrow.1 rfl ?_
      refine q_astore hJ dX8_drop_27 (q := 29) rfl (by decide) rfl ?_
      refine q_aload_n hJ dX8_drop_29 (q := 30) rfl rfl rfl ?_
      refine q_nonnullY hJ (a := 0) dX8_drop_30 (q := 33) rfl ?_
      refine q_aload hJ dX8_drop_33 (q := 35) rfl rfl rfl ?_
      refine q_nullN hJ dX8_drop_35 (q := 38) rfl ?_
      refine q_aload hJ dX8_drop_38 (q := 40) rfl rfl rfl ?_
      refine q_getI hJ dX8_drop_40 (q := 43) rfl fl_X8_22 rfl (by assumption) rfl ?_
      refine q_iload_n hJ dX8_drop_43 (q := 44) rfl rfl ?_
      refine q_icmp_ne hJ (tgt := 50) dX8_drop_44 (q := 47) rfl (by decide) (fun _ => ?_) (fun c3 => absurd c3 (hfst j (by omega)))
      refine q_aload_n hJ dX8_drop_50 (q := 51) rfl rfl rfl ?_
      refine q_nullY hJ (a := 0) (tgt := 93) dX8_drop_51 (by decide) ?_
      refine q_iinc hJ dX8_drop_93 (q := 96) rfl (by decide) rfl (nI_1 j) ?_
      refine q_goto hJ (tgt := 4) dX8_drop_96 (by decide) ?_
      exact ih (j + 1) _ (by omega)
  refine q_null hJ dX8_drop_0 (q := 1) rfl ?_
  refine q_astore_n hJ dX8_drop_1 (q := 2) rfl (by decide) rfl ?_
  refine q_iconst hJ (v := 0) dX8_drop_2 (q := 3) rfl (by decide) ?_
  refine q_istore_n hJ dX8_drop_3 (q := 4) rfl (by decide) ?_
  exact loop1 i 0 none (by omega)
end
section
/-! TABLE, copying; THE RECORD OF FIRINGS -/
def addL (I : MI) (b n : Nat) (r d k : Int32) : MI := if n < 60 then up2 (up2 (up2 (up2 I (b + 39) n r) (b + 40) n d) (b + 41) n k) (b + 38) 3 (nI (n + 1)) else I
def telL (I : MI) (b n : Nat) (x w : Int32) : Int32 := if x < 0 then -1006 else if nI n ≤ x then -1006 else if w = 0 then I (b + 39) x.toNatClampNeg else if w = 1 then I (b + 40) x.toNatClampNeg else I (b + 41) x.toNatClampNeg
theorem nI_60 : (60 : Int32) = nI 60 := by decide
theorem nI_12 : (12 : Int32) = nI 12 := by decide
theorem TS.of {I I' : MI} {R : MR} {b n : Nat} {P : Nat → Nat} (h : TS I R b P n) (h1 : I' (b + 1) 1 = I (b + 1) 1) : TS I' R b P n := ⟨h1.trans h.1, h.2⟩
set_option maxRecDepth 100000 in
set_option maxHeartbeats 400000 in
theorem S_tblCopy (b c n1 n2 : Nat) (P1 P2 : Nat → Nat) (I : MI) (R : MR) (hB : isB b) (hC : isB c) (hne : b ≠ c) (hFR : FR R) (hT1 : TS I R b P1 n1) (hT2 : TS I R c P2 n2) : Sp 1 0 0 mX8_copyFrom [.ref (b + 1), .ref (c + 1)] g0 I R (Rt none g0 (cpR (up2 I (b + 1) 1 (nI n2)) P1 P2 4 n2) R) := by
  obtain ⟨hc1, hn1, hP1⟩ := hT1
  obtain ⟨hc2, hn2, hP2⟩ := id hT2
  have hka := ka_tbl hB
  have hkw := ka_rws hB
  have hkc := ka_tbl hC
  have hdis := isB_dis hB hC hne
  have hr0 : R (b + 1) 0 = some (b + 2) := (hFR.1 b hB).2.2.2.1
  have hcc : ∀ j, j ≤ n2 → cpR (up2 I (b + 1) 1 (nI n2)) P1 P2 4 j (b + 1) 1 = nI n2 := fun j hj => by
    rw [cpR_other _ _ _ _ _ _ (fun i hi z => by have := hP1 i (by omega); omega)]
    simp [up2_app]
  refine Sp.on (by decide +kernel) rfl rfl (fun J hM => ?_)
  have hJ := hM.ok
  have loop : ∀ (k j : Nat) (w1 w2 : Option Value), j + k = n2 → J 0 0 10 [some (.ref (b + 1)), some (.ref (c + 1)), some (.int (nI j)), w1, w2] [] g0 (cpR (up2 I (b + 1) 1 (nI n2)) P1 P2 4 j) R := by
    intro k
    induction k with
    | zero =>
      intro j w1 w2 hj
      have hcI : cpR (up2 I (b + 1) 1 (nI n2)) P1 P2 4 j (b + 1) 1 = nI n2 := hcc j (by omega)
      refine q_iload_n hJ dX8_copyFrom_10 (q := 11) rfl rfl ?_
      refine q_aload_n hJ dX8_copyFrom_11 (q := 12) rfl rfl rfl ?_
      refine q_getI hJ dX8_copyFrom_12 (q := 15) rfl fl_X8_18 rfl hka hcI ?_
      refine q_icmp_ge hJ (tgt := 62) dX8_copyFrom_15 (q := 18) rfl (by decide) (fun _ => ?_) (fun c1 => absurd ((nI_leI (by omega) (by omega)).mpr (by omega)) c1)
      refine q_vret hM dX8_copyFrom_62 rfl ?_
      obtain rfl : j = n2 := by omega
      exact ⟨rfl, rfl, rfl, rfl⟩
    | succ k ih =>
      intro j w1 w2 hj
      have hcI : cpR (up2 I (b + 1) 1 (nI n2)) P1 P2 4 j (b + 1) 1 = nI n2 := hcc j (by omega)
      have h1j := hP1 j (by omega)
      have h2j := hP2 j (by omega)
      have hk1 := ka_row hB h1j.2.1 h1j.2.2.1
      have hk2 := ka_row hC h2j.2.1 h2j.2.2.1
      have hTc : TS (cpR (up2 I (b + 1) 1 (nI n2)) P1 P2 4 j) R c P2 n2 := hT2.of (by rw [cpR_other _ _ _ _ _ _ (fun i hi z => by have := hP1 i (by omega); omega), up2_other _ _ _ _ (by omega)])
      refine q_iload_n hJ dX8_copyFrom_10 (q := 11) rfl rfl ?_
      refine q_aload_n hJ dX8_copyFrom_11 (q := 12) rfl rfl rfl ?_
      refine q_getI hJ dX8_copyFrom_12 (q := 15) rfl fl_X8_18 rfl hka hcI ?_
      refine q_icmp_ge hJ (tgt := 62) dX8_copyFrom_15 (q := 18) rfl (by decide) (fun c1 => absurd ((nI_leI (by omega) (by omega)).mp c1) (by omega)) (fun _ => ?_)
      refine q_iload_n hJ dX8_copyFrom_18 (q := 19) rfl rfl ?_
      refine q_aload_n hJ dX8_copyFrom_19 (q := 20) rfl rfl rfl ?_
      refine q_getR hJ dX8_copyFrom_20 (q := 23) rfl fl_X8_11 rfl hka hr0 rfl ?_
      refine q_alen hJ (v := 20) dX8_copyFrom_23 (q := 24) rfl (by assumption) (by decide) (by decide) (by decide) ?_
      refine q_icmp_ge hJ (tgt := 62) dX8_copyFrom_24 (q := 27) rfl (by decide) (fun c2 => absurd (by rw [nI_20] at c2; exact (nI_leI (by decide) (by omega)).mp c2) (by omega)) (fun _ => ?_)
      refine q_aload_n hJ dX8_copyFrom_27 (q := 28) rfl rfl rfl ?_
      refine q_getR hJ dX8_copyFrom_28 (q := 31) rfl fl_X8_11 rfl hka hr0 rfl ?_
      refine q_iload_n hJ dX8_copyFrom_31 (q := 32) rfl rfl ?_
      refine q_aald hJ dX8_copyFrom_32 (q := 33) rfl (by assumption) (by decide) (ix_nI (by omega) (by decide)) h1j.1 rfl ?_
      refine q_astore_n hJ dX8_copyFrom_33 (q := 34) rfl (by decide) rfl ?_
      refine q_aload_n hJ dX8_copyFrom_34 (q := 35) rfl rfl rfl ?_
      refine q_iload_n hJ dX8_copyFrom_35 (q := 36) rfl rfl ?_
      refine q_callV hJ dX8_copyFrom_36 (q := 39) rfl (S_rowAt c n2 P2 (nI j) _ R hC hFR hTc) imX8_rowAt ln_X8_29 hkc (by decide) rfl rfl rfl rfl (Nat.le_of_ble_eq_true rfl) (by decide) (by decide) rfl rfl (fun rv gv Iv Rv hv => ?_)
      obtain ⟨rfl, rfl, rfl, rfl⟩ := hv
      rw [rowAtF_in (by omega) hn2]
      refine q_astore hJ dX8_copyFrom_39 (q := 41) rfl (by decide) rfl ?_
      refine q_aload_n hJ dX8_copyFrom_41 (q := 42) rfl rfl rfl ?_
      refine q_nullN hJ dX8_copyFrom_42 (q := 45) rfl ?_
      refine q_aload hJ dX8_copyFrom_45 (q := 47) rfl rfl rfl ?_
      refine q_nullN hJ dX8_copyFrom_47 (q := 50) rfl ?_
      refine q_aload_n hJ dX8_copyFrom_50 (q := 51) rfl rfl rfl ?_
      refine q_aload hJ dX8_copyFrom_51 (q := 53) rfl rfl rfl ?_
      refine q_callV hJ dX8_copyFrom_53 (q := 56) rfl (S_rowCp (P1 j) (P2 j) _ R hk1 hk2) imX4_copyFrom ln_X8_25 hk1 (by decide) rfl rfl rfl rfl (Nat.le_of_ble_eq_true rfl) (by decide) (by decide) rfl rfl (fun rv gv Iv Rv hv => ?_)
      obtain ⟨rfl, rfl, rfl, rfl⟩ := hv
      refine q_iinc hJ dX8_copyFrom_56 (q := 59) rfl (by decide) rfl (nI_1 j) ?_
      refine q_goto hJ (tgt := 10) dX8_copyFrom_59 (by decide) ?_
      exact ih (j + 1) _ _ (by omega)
  refine q_aload_n hJ dX8_copyFrom_0 (q := 1) rfl rfl rfl ?_
  refine q_aload_n hJ dX8_copyFrom_1 (q := 2) rfl rfl rfl ?_
  refine q_getI hJ dX8_copyFrom_2 (q := 5) rfl fl_X8_18 rfl hkc hc2 ?_
  refine q_putI hJ dX8_copyFrom_5 (q := 8) rfl fl_X8_18 rfl rfl hka rfl rfl ?_
  refine q_iconst hJ (v := 0) dX8_copyFrom_8 (q := 9) rfl (by decide) ?_
  refine q_istore_n hJ dX8_copyFrom_9 (q := 10) rfl (by decide) ?_
  exact loop n2 0 none none (by omega)

set_option maxRecDepth 100000 in
set_option maxHeartbeats 400000 in
theorem S_logAdd (b n : Nat) (r d k : Int32) (I : MI) (R : MR) (hB : isB b) (hFR : FR R) (hc : I (b + 38) 3 = nI n) (hn : n ≤ 60) : Sp 0 0 0 mX1_add [.ref (b + 38), .int r, .int d, .int k] g0 I R (Rt none g0 (addL I b n r d k) R) := by
  have hka := ka_log hB
  have hk0 := ka_l0 hB
  have hk1 := ka_l1 hB
  have hk2 := ka_l2 hB
  obtain ⟨-, -, -, -, -, -, hr0, hr1, hr2⟩ := hFR.1 b hB
  refine Sp.on (by decide +kernel) rfl rfl (fun J hM => ?_)
  have hJ := hM.ok
  by_cases hlt : n < 60
  · refine q_aload_n hJ dX1_add_0 (q := 1) rfl rfl rfl ?_
    refine q_getI hJ dX1_add_1 (q := 4) rfl fl_X1_21 rfl (by assumption) (show _ = nI n from by simp [up2_app, hc]) ?_
    refine q_if_lt hJ (tgt := 16) dX1_add_4 (q := 7) rfl (by decide) (fun c0 => absurd c0 (nI_pos (by omega))) (fun _ => ?_)
    refine q_aload_n hJ dX1_add_7 (q := 8) rfl rfl rfl ?_
    refine q_getI hJ dX1_add_8 (q := 11) rfl fl_X1_21 rfl (by assumption) (show _ = nI n from by simp [up2_app, hc]) ?_
    refine q_bipush hJ (v := 60) dX1_add_11 (q := 13) rfl (by decide) ?_
    refine q_icmp_lt hJ (tgt := 17) dX1_add_13 (q := 16) rfl (by decide) (fun _ => ?_) (fun c1 => absurd (by rw [nI_60]; exact (nI_ltI (by omega) (by decide)).mpr hlt) c1)
    refine q_aload_n hJ dX1_add_17 (q := 18) rfl rfl rfl ?_
    refine q_getR hJ dX1_add_18 (q := 21) rfl fl_X1_9 rfl (by assumption) (by assumption) rfl ?_
    refine q_aload_n hJ dX1_add_21 (q := 22) rfl rfl rfl ?_
    refine q_getI hJ dX1_add_22 (q := 25) rfl fl_X1_21 rfl (by assumption) (show _ = nI n from by simp [up2_app, hc]) ?_
    refine q_iload_n hJ dX1_add_25 (q := 26) rfl rfl ?_
    refine q_iast hJ dX1_add_26 (q := 27) rfl (by assumption) (ix_nI hlt (by decide)) ?_
    refine q_aload_n hJ dX1_add_27 (q := 28) rfl rfl rfl ?_
    refine q_getR hJ dX1_add_28 (q := 31) rfl fl_X1_15 rfl (by assumption) (by assumption) rfl ?_
    refine q_aload_n hJ dX1_add_31 (q := 32) rfl rfl rfl ?_
    refine q_getI hJ dX1_add_32 (q := 35) rfl fl_X1_21 rfl (by assumption) (show _ = nI n from by simp [up2_app, hc]) ?_
    refine q_iload_n hJ dX1_add_35 (q := 36) rfl rfl ?_
    refine q_iast hJ dX1_add_36 (q := 37) rfl (by assumption) (ix_nI hlt (by decide)) ?_
    refine q_aload_n hJ dX1_add_37 (q := 38) rfl rfl rfl ?_
    refine q_getR hJ dX1_add_38 (q := 41) rfl fl_X1_18 rfl (by assumption) (by assumption) rfl ?_
    refine q_aload_n hJ dX1_add_41 (q := 42) rfl rfl rfl ?_
    refine q_getI hJ dX1_add_42 (q := 45) rfl fl_X1_21 rfl (by assumption) (show _ = nI n from by simp [up2_app, hc]) ?_
    refine q_iload_n hJ dX1_add_45 (q := 46) rfl rfl ?_
    refine q_iast hJ dX1_add_46 (q := 47) rfl (by assumption) (ix_nI hlt (by decide)) ?_
    refine q_aload_n hJ dX1_add_47 (q := 48) rfl rfl rfl ?_
    refine q_dup hJ dX1_add_48 (q := 49) rfl rfl ?_
    refine q_getI hJ dX1_add_49 (q := 52) rfl fl_X1_21 rfl (by assumption) (show _ = nI n from by simp [up2_app, hc]) ?_
    refine q_iconst hJ (v := 1) dX1_add_52 (q := 53) rfl (by decide) ?_
    refine q_iadd hJ dX1_add_53 (q := 54) rfl ?_
    refine q_putI hJ dX1_add_54 (q := 57) rfl fl_X1_21 rfl rfl (by assumption) rfl rfl ?_
    refine q_vret hM dX1_add_57 rfl ?_
    exact ⟨rfl, rfl, by simp only [addL, if_pos hlt]; rw [nI_1], rfl⟩
  · refine q_aload_n hJ dX1_add_0 (q := 1) rfl rfl rfl ?_
    refine q_getI hJ dX1_add_1 (q := 4) rfl fl_X1_21 rfl (by assumption) (show _ = nI n from by simp [up2_app, hc]) ?_
    refine q_if_lt hJ (tgt := 16) dX1_add_4 (q := 7) rfl (by decide) (fun c0 => absurd c0 (nI_pos (by omega))) (fun _ => ?_)
    refine q_aload_n hJ dX1_add_7 (q := 8) rfl rfl rfl ?_
    refine q_getI hJ dX1_add_8 (q := 11) rfl fl_X1_21 rfl (by assumption) (show _ = nI n from by simp [up2_app, hc]) ?_
    refine q_bipush hJ (v := 60) dX1_add_11 (q := 13) rfl (by decide) ?_
    refine q_icmp_lt hJ (tgt := 17) dX1_add_13 (q := 16) rfl (by decide) (fun c1 => absurd (by rw [nI_60] at c1; exact (nI_ltI (by omega) (by decide)).mp c1) hlt) (fun _ => ?_)
    refine q_vret hM dX1_add_16 rfl ?_
    exact ⟨rfl, rfl, by simp only [addL, if_neg hlt], rfl⟩

set_option maxRecDepth 100000 in
set_option maxHeartbeats 400000 in
theorem S_logTell (b n : Nat) (x w : Int32) (I : MI) (R : MR) (hB : isB b) (hFR : FR R) (hc : I (b + 38) 3 = nI n) (hn : n ≤ 60) : Sp 0 0 0 mX1_tell [.ref (b + 38), .int x, .int w] g0 I R (Rt (some (.int (telL I b n x w))) g0 I R) := by
  have hka := ka_log hB
  have hk0 := ka_l0 hB
  have hk1 := ka_l1 hB
  have hk2 := ka_l2 hB
  obtain ⟨-, -, -, -, -, -, hr0, hr1, hr2⟩ := hFR.1 b hB
  refine Sp.on (by decide +kernel) rfl rfl (fun J hM => ?_)
  have hJ := hM.ok
  refine q_iload_n hJ dX1_tell_0 (q := 1) rfl rfl ?_
  refine q_if_lt hJ (tgt := 18) dX1_tell_1 (q := 4) rfl (by decide) (fun c1 => ?_) (fun c1 => ?_)
  · refine q_sipush hJ (v := (-1006)) dX1_tell_18 (q := 21) rfl (by decide) ?_
    refine q_iret hM dX1_tell_21 rfl rfl ?_
    exact ⟨by simp [telL, *], rfl, rfl, rfl⟩
  · refine q_iload_n hJ dX1_tell_4 (q := 5) rfl rfl ?_
    refine q_aload_n hJ dX1_tell_5 (q := 6) rfl rfl rfl ?_
    refine q_getI hJ dX1_tell_6 (q := 9) rfl fl_X1_21 rfl (by assumption) hc ?_
    refine q_icmp_ge hJ (tgt := 18) dX1_tell_9 (q := 12) rfl (by decide) (fun c2 => ?_) (fun c2 => ?_)
    · refine q_sipush hJ (v := (-1006)) dX1_tell_18 (q := 21) rfl (by decide) ?_
      refine q_iret hM dX1_tell_21 rfl rfl ?_
      exact ⟨by simp [telL, *], rfl, rfl, rfl⟩
    · obtain ⟨j, hj, rfl⟩ := nI_of c1
      have hjn : j < n := (nI_ltI hj (by omega)).mp (Int32.not_le.mp c2)
      refine q_iload_n hJ dX1_tell_12 (q := 13) rfl rfl ?_
      refine q_bipush hJ (v := 60) dX1_tell_13 (q := 15) rfl (by decide) ?_
      refine q_icmp_lt hJ (tgt := 22) dX1_tell_15 (q := 18) rfl (by decide) (fun _ => ?_) (fun c3 => absurd (by rw [nI_60]; exact (nI_ltI hj (by decide)).mpr (by omega)) c3)
      refine q_iload_n hJ dX1_tell_22 (q := 23) rfl rfl ?_
      by_cases k1_0 : w = 0
      · refine q_lsw hJ (off := 25) (tgt := 48) dX1_tell_23 (by decide) (by rw [k1_0]; decide) (by decide) ?_
        refine q_aload_n hJ dX1_tell_48 (q := 49) rfl rfl rfl ?_
        refine q_getR hJ dX1_tell_49 (q := 52) rfl fl_X1_9 rfl (by assumption) (by assumption) rfl ?_
        refine q_iload_n hJ dX1_tell_52 (q := 53) rfl rfl ?_
        refine q_iald hJ dX1_tell_53 (q := 54) rfl (by assumption) (ix_nI (by omega) (by decide)) rfl ?_
        refine q_iret hM dX1_tell_54 rfl rfl ?_
        exact ⟨by simp [telL, nI_pos hj, c2, nI_clamp hj, *], rfl, rfl, rfl⟩
      by_cases k1_1 : w = 1
      · refine q_lsw hJ (off := 32) (tgt := 55) dX1_tell_23 (by decide) (by rw [k1_1]; decide) (by decide) ?_
        refine q_aload_n hJ dX1_tell_55 (q := 56) rfl rfl rfl ?_
        refine q_getR hJ dX1_tell_56 (q := 59) rfl fl_X1_15 rfl (by assumption) (by assumption) rfl ?_
        refine q_iload_n hJ dX1_tell_59 (q := 60) rfl rfl ?_
        refine q_iald hJ dX1_tell_60 (q := 61) rfl (by assumption) (ix_nI (by omega) (by decide)) rfl ?_
        refine q_iret hM dX1_tell_61 rfl rfl ?_
        exact ⟨by simp [telL, nI_pos hj, c2, nI_clamp hj, *], rfl, rfl, rfl⟩
      refine q_lsw hJ (off := 39) (tgt := 62) dX1_tell_23 (by decide) (lsw_out2 (k0 := 0) (by decide) k1_0 (k1 := 1) (by decide) k1_1) (by decide) ?_
      refine q_aload_n hJ dX1_tell_62 (q := 63) rfl rfl rfl ?_
      refine q_getR hJ dX1_tell_63 (q := 66) rfl fl_X1_18 rfl (by assumption) (by assumption) rfl ?_
      refine q_iload_n hJ dX1_tell_66 (q := 67) rfl rfl ?_
      refine q_iald hJ dX1_tell_67 (q := 68) rfl (by assumption) (ix_nI (by omega) (by decide)) rfl ?_
      refine q_iret hM dX1_tell_68 rfl rfl ?_
      exact ⟨by simp [telL, nI_pos hj, c2, nI_clamp hj, *], rfl, rfl, rfl⟩

set_option maxRecDepth 100000 in
set_option maxHeartbeats 400000 in
theorem S_logCopy (b c : Nat) (I : MI) (R : MR) (hB : isB b) (hC : isB c) (hFR : FR R) : Sp 1 0 0 mX1_copyFrom [.ref (b + 38), .ref (c + 38)] g0 I R (Rt none g0 (cp0 (cp0 (cp0 (up2 I (b + 38) 3 (I (c + 38) 3)) (c + 39) (b + 39) 60) (c + 40) (b + 40) 60) (c + 41) (b + 41) 60) R) := by
  have hka := ka_log hB
  have hk0 := ka_l0 hB
  have hk1 := ka_l1 hB
  have hk2 := ka_l2 hB
  have hkb := ka_log hC
  have hk3 := ka_l0 hC
  have hk4 := ka_l1 hC
  have hk5 := ka_l2 hC
  obtain ⟨-, -, -, -, -, -, hr0, hr1, hr2⟩ := hFR.1 b hB
  obtain ⟨-, -, -, -, -, -, hr3, hr4, hr5⟩ := hFR.1 c hC
  refine Sp.on (by decide +kernel) rfl rfl (fun J hM => ?_)
  have hJ := hM.ok
  refine q_aload_n hJ dX1_copyFrom_0 (q := 1) rfl rfl rfl ?_
  refine q_aload_n hJ dX1_copyFrom_1 (q := 2) rfl rfl rfl ?_
  refine q_getI hJ dX1_copyFrom_2 (q := 5) rfl fl_X1_21 rfl (by assumption) rfl ?_
  refine q_putI hJ dX1_copyFrom_5 (q := 8) rfl fl_X1_21 rfl rfl (by assumption) rfl rfl ?_
  refine q_aload_n hJ dX1_copyFrom_8 (q := 9) rfl rfl rfl ?_
  refine q_getR hJ dX1_copyFrom_9 (q := 12) rfl fl_X1_9 rfl (by assumption) (by assumption) rfl ?_
  refine q_iconst hJ (v := 0) dX1_copyFrom_12 (q := 13) rfl (by decide) ?_
  refine q_aload_n hJ dX1_copyFrom_13 (q := 14) rfl rfl rfl ?_
  refine q_getR hJ dX1_copyFrom_14 (q := 17) rfl fl_X1_9 rfl (by assumption) (by assumption) rfl ?_
  refine q_iconst hJ (v := 0) dX1_copyFrom_17 (q := 18) rfl (by decide) ?_
  refine q_bipush hJ (v := 60) dX1_copyFrom_18 (q := 20) rfl (by decide) ?_
  refine q_copy hJ (N := 60) dX1_copyFrom_20 (q := 23) rfl ln_X1_25 aw (by assumption) (by assumption) ⟨by decide, by decide⟩ (by decide) (by decide) rfl (Nat.le_of_ble_eq_true rfl) (by decide) ?_
  refine q_aload_n hJ dX1_copyFrom_23 (q := 24) rfl rfl rfl ?_
  refine q_getR hJ dX1_copyFrom_24 (q := 27) rfl fl_X1_15 rfl (by assumption) (by assumption) rfl ?_
  refine q_iconst hJ (v := 0) dX1_copyFrom_27 (q := 28) rfl (by decide) ?_
  refine q_aload_n hJ dX1_copyFrom_28 (q := 29) rfl rfl rfl ?_
  refine q_getR hJ dX1_copyFrom_29 (q := 32) rfl fl_X1_15 rfl (by assumption) (by assumption) rfl ?_
  refine q_iconst hJ (v := 0) dX1_copyFrom_32 (q := 33) rfl (by decide) ?_
  refine q_bipush hJ (v := 60) dX1_copyFrom_33 (q := 35) rfl (by decide) ?_
  refine q_copy hJ (N := 60) dX1_copyFrom_35 (q := 38) rfl ln_X1_25 aw (by assumption) (by assumption) ⟨by decide, by decide⟩ (by decide) (by decide) rfl (Nat.le_of_ble_eq_true rfl) (by decide) ?_
  refine q_aload_n hJ dX1_copyFrom_38 (q := 39) rfl rfl rfl ?_
  refine q_getR hJ dX1_copyFrom_39 (q := 42) rfl fl_X1_18 rfl (by assumption) (by assumption) rfl ?_
  refine q_iconst hJ (v := 0) dX1_copyFrom_42 (q := 43) rfl (by decide) ?_
  refine q_aload_n hJ dX1_copyFrom_43 (q := 44) rfl rfl rfl ?_
  refine q_getR hJ dX1_copyFrom_44 (q := 47) rfl fl_X1_18 rfl (by assumption) (by assumption) rfl ?_
  refine q_iconst hJ (v := 0) dX1_copyFrom_47 (q := 48) rfl (by decide) ?_
  refine q_bipush hJ (v := 60) dX1_copyFrom_48 (q := 50) rfl (by decide) ?_
  refine q_copy hJ (N := 60) dX1_copyFrom_50 (q := 53) rfl ln_X1_25 aw (by assumption) (by assumption) ⟨by decide, by decide⟩ (by decide) (by decide) rfl (Nat.le_of_ble_eq_true rfl) (by decide) ?_
  refine q_vret hM dX1_copyFrom_53 rfl ?_
  exact ⟨rfl, rfl, rfl, rfl⟩
end
section
/-! THE LIST OF RULES -/
def US (I : MI) (R : MR) (b : Nat) (Q : Nat → Nat) (m : Nat) : Prop := I (b + 23) 2 = nI m ∧ m ≤ 12 ∧ ∀ j, j < 12 → R (b + 24) j = some (Q j) ∧ b + 26 ≤ Q j ∧ Q j < b + 38 ∧ ∀ i, i < 12 → Q i = Q j → i = j
theorem US.of {I I' : MI} {R : MR} {b n : Nat} {Q : Nat → Nat} (h : US I R b Q n) (h1 : I' (b + 23) 2 = I (b + 23) 2) : US I' R b Q n := ⟨h1.trans h.1, h.2⟩
def numF (I : MI) (b m : Nat) (x : Int32) : Int32 := if x < 0 then -1006 else if nI m ≤ x then -1006 else I (b + 25) x.toNatClampNeg
def coF (f : Nat → Int32) : Nat → Nat
  | 0 => 0
  | k + 1 => coF f k + (if f k = 0 then 0 else 1)
theorem coF_le (f : Nat → Int32) (k : Nat) : coF f k ≤ k := by
  induction k with
  | zero => exact Nat.le_refl 0
  | succ k ih =>
    unfold coF
    split <;> omega
def amF (p : Nat → Prop) [DecidablePred p] (od : Nat → Nat) (w : Int32) : Nat → Nat → Nat → Option Nat
  | _, 0, _ => none
  | j, k + 1, c => if p (od j) then (if nI c = w then some (od j) else amF p od w (j + 1) k (c + 1)) else amF p od w (j + 1) k c
def noI (r : Option Nat) : Int32 := match r with
  | none => -1006
  | some a => nI a
theorem rowAtF_in12 {j n : Nat} {P : Nat → Nat} (h : j < n) (hn : n ≤ 12) : rowAtF (nI j) n P = some (P j) := rowAtF_in h (by omega)
theorem numF_in {I : MI} {b j m : Nat} (h : j < m) (hn : m ≤ 12) : numF I b m (nI j) = I (b + 25) j := by
  have h1 : ¬ nI j < 0 := nI_pos (by omega)
  have h2 : ¬ nI m ≤ nI j := nI_ge h (by omega)
  rw [numF, if_neg h1, if_neg h2, nI_clamp (by omega)]
set_option maxRecDepth 100000 in
set_option maxHeartbeats 400000 in
theorem S_ruleOf (b m : Nat) (Q : Nat → Nat) (x : Int32) (I : MI) (R : MR) (hB : isB b) (hFR : FR R) (hU : US I R b Q m) : Sp 0 0 0 mX6_ruleOf [.ref (b + 23), .int x] g0 I R (Rt (some (rr (rowAtF x m Q))) g0 I R) := by
  obtain ⟨hc, hn, hQ⟩ := id hU
  have hka := ka_rls hB
  have hkw := ka_rla hB
  have hkn := ka_num hB
  have hr0 : R (b + 23) 0 = some (b + 24) := (hFR.1 b hB).2.2.2.2.1
  have hr1 : R (b + 23) 1 = some (b + 25) := (hFR.1 b hB).2.2.2.2.2.1
  refine Sp.on (by decide +kernel) rfl rfl (fun J hM => ?_)
  have hJ := hM.ok
  refine q_iload_n hJ dX6_ruleOf_0 (q := 1) rfl rfl ?_
  refine q_if_lt hJ (tgt := 30) dX6_ruleOf_1 (q := 4) rfl (by decide) (fun c1 => ?_) (fun c1 => ?_)
  · refine q_null hJ dX6_ruleOf_30 (q := 31) rfl ?_
    refine q_aret hM dX6_ruleOf_31 rfl rfl ?_
    exact ⟨by simp [rowAtF, rr, *], rfl, rfl, rfl⟩
  · refine q_iload_n hJ dX6_ruleOf_4 (q := 5) rfl rfl ?_
    refine q_aload_n hJ dX6_ruleOf_5 (q := 6) rfl rfl rfl ?_
    refine q_getI hJ dX6_ruleOf_6 (q := 9) rfl fl_X6_22 rfl (by assumption) hc ?_
    refine q_icmp_ge hJ (tgt := 30) dX6_ruleOf_9 (q := 12) rfl (by decide) (fun c2 => ?_) (fun c2 => ?_)
    · refine q_null hJ dX6_ruleOf_30 (q := 31) rfl ?_
      refine q_aret hM dX6_ruleOf_31 rfl rfl ?_
      exact ⟨by simp [rowAtF, rr, *], rfl, rfl, rfl⟩
    · obtain ⟨j, hj, rfl⟩ := nI_of c1
      have hjn : j < m := (nI_ltI hj (by omega)).mp (Int32.not_le.mp c2)
      have hjx : ix (nI j) j 12 := ix_nI (by omega) (by decide)
      have hrow : R (b + 24) j = some (Q j) := (hQ j (by omega)).1
      refine q_iload_n hJ dX6_ruleOf_12 (q := 13) rfl rfl ?_
      refine q_aload_n hJ dX6_ruleOf_13 (q := 14) rfl rfl rfl ?_
      refine q_getR hJ dX6_ruleOf_14 (q := 17) rfl fl_X6_11 rfl (by assumption) (by assumption) rfl ?_
      refine q_alen hJ (v := 12) dX6_ruleOf_17 (q := 18) rfl (by assumption) (by decide) (by decide) (by decide) ?_
      refine q_icmp_ge hJ (tgt := 30) dX6_ruleOf_18 (q := 21) rfl (by decide) (fun c3 => absurd (by rw [nI_12] at c3; exact (nI_leI (by decide) hj).mp c3) (by omega)) (fun _ => ?_)
      refine q_aload_n hJ dX6_ruleOf_21 (q := 22) rfl rfl rfl ?_
      refine q_getR hJ dX6_ruleOf_22 (q := 25) rfl fl_X6_11 rfl (by assumption) (by assumption) rfl ?_
      refine q_iload_n hJ dX6_ruleOf_25 (q := 26) rfl rfl ?_
      refine q_aald hJ dX6_ruleOf_26 (q := 27) rfl (by assumption) (by decide) (by assumption) (by assumption) rfl ?_
      refine q_goto hJ (tgt := 31) dX6_ruleOf_27 (by decide) ?_
      refine q_aret hM dX6_ruleOf_31 rfl rfl ?_
      exact ⟨by simp [rowAtF, rr, nI_pos hj, c2, nI_clamp hj], rfl, rfl, rfl⟩

set_option maxRecDepth 100000 in
set_option maxHeartbeats 400000 in
theorem S_numberAt (b m : Nat) (Q : Nat → Nat) (x : Int32) (I : MI) (R : MR) (hB : isB b) (hFR : FR R) (hU : US I R b Q m) : Sp 0 0 0 mX6_numberAt [.ref (b + 23), .int x] g0 I R (Rt (some (.int (numF I b m x))) g0 I R) := by
  obtain ⟨hc, hn, hQ⟩ := id hU
  have hka := ka_rls hB
  have hkw := ka_rla hB
  have hkn := ka_num hB
  have hr0 : R (b + 23) 0 = some (b + 24) := (hFR.1 b hB).2.2.2.2.1
  have hr1 : R (b + 23) 1 = some (b + 25) := (hFR.1 b hB).2.2.2.2.2.1
  refine Sp.on (by decide +kernel) rfl rfl (fun J hM => ?_)
  have hJ := hM.ok
  refine q_iload_n hJ dX6_numberAt_0 (q := 1) rfl rfl ?_
  refine q_if_lt hJ (tgt := 30) dX6_numberAt_1 (q := 4) rfl (by decide) (fun c1 => ?_) (fun c1 => ?_)
  · refine q_sipush hJ (v := (-1006)) dX6_numberAt_30 (q := 33) rfl (by decide) ?_
    refine q_iret hM dX6_numberAt_33 rfl rfl ?_
    exact ⟨by simp [numF, *], rfl, rfl, rfl⟩
  · refine q_iload_n hJ dX6_numberAt_4 (q := 5) rfl rfl ?_
    refine q_aload_n hJ dX6_numberAt_5 (q := 6) rfl rfl rfl ?_
    refine q_getI hJ dX6_numberAt_6 (q := 9) rfl fl_X6_22 rfl (by assumption) hc ?_
    refine q_icmp_ge hJ (tgt := 30) dX6_numberAt_9 (q := 12) rfl (by decide) (fun c2 => ?_) (fun c2 => ?_)
    · refine q_sipush hJ (v := (-1006)) dX6_numberAt_30 (q := 33) rfl (by decide) ?_
      refine q_iret hM dX6_numberAt_33 rfl rfl ?_
      exact ⟨by simp [numF, *], rfl, rfl, rfl⟩
    · obtain ⟨j, hj, rfl⟩ := nI_of c1
      have hjn : j < m := (nI_ltI hj (by omega)).mp (Int32.not_le.mp c2)
      have hjx : ix (nI j) j 12 := ix_nI (by omega) (by decide)
      refine q_iload_n hJ dX6_numberAt_12 (q := 13) rfl rfl ?_
      refine q_aload_n hJ dX6_numberAt_13 (q := 14) rfl rfl rfl ?_
      refine q_getR hJ dX6_numberAt_14 (q := 17) rfl fl_X6_17 rfl (by assumption) (by assumption) rfl ?_
      refine q_alen hJ (v := 12) dX6_numberAt_17 (q := 18) rfl (by assumption) (by decide) (by decide) (by decide) ?_
      refine q_icmp_ge hJ (tgt := 30) dX6_numberAt_18 (q := 21) rfl (by decide) (fun c3 => absurd (by rw [nI_12] at c3; exact (nI_leI (by decide) hj).mp c3) (by omega)) (fun _ => ?_)
      refine q_aload_n hJ dX6_numberAt_21 (q := 22) rfl rfl rfl ?_
      refine q_getR hJ dX6_numberAt_22 (q := 25) rfl fl_X6_17 rfl (by assumption) (by assumption) rfl ?_
      refine q_iload_n hJ dX6_numberAt_25 (q := 26) rfl rfl ?_
      refine q_iald hJ dX6_numberAt_26 (q := 27) rfl (by assumption) (by assumption) rfl ?_
      refine q_goto hJ (tgt := 33) dX6_numberAt_27 (by decide) ?_
      refine q_iret hM dX6_numberAt_33 rfl rfl ?_
      exact ⟨by simp [numF, nI_pos hj, c2, nI_clamp hj], rfl, rfl, rfl⟩

set_option maxRecDepth 100000 in
set_option maxHeartbeats 400000 in
theorem S_spare (b m : Nat) (Q : Nat → Nat) (I : MI) (R : MR) (hB : isB b) (hFR : FR R) (hU : US I R b Q m) : Sp 0 0 0 mX6_spare [.ref (b + 23)] g0 I R (Rt (some (rr (if m < 12 then some (Q m) else none))) g0 I R) := by
  obtain ⟨hc, hn, hQ⟩ := id hU
  have hka := ka_rls hB
  have hkw := ka_rla hB
  have hkn := ka_num hB
  have hr0 : R (b + 23) 0 = some (b + 24) := (hFR.1 b hB).2.2.2.2.1
  have hr1 : R (b + 23) 1 = some (b + 25) := (hFR.1 b hB).2.2.2.2.2.1
  refine Sp.on (by decide +kernel) rfl rfl (fun J hM => ?_)
  have hJ := hM.ok
  refine q_aload_n hJ dX6_spare_0 (q := 1) rfl rfl rfl ?_
  refine q_getI hJ dX6_spare_1 (q := 4) rfl fl_X6_22 rfl (by assumption) hc ?_
  refine q_if_lt hJ (tgt := 31) dX6_spare_4 (q := 7) rfl (by decide) (fun c0 => absurd c0 (nI_pos (by omega))) (fun _ => ?_)
  refine q_aload_n hJ dX6_spare_7 (q := 8) rfl rfl rfl ?_
  refine q_getI hJ dX6_spare_8 (q := 11) rfl fl_X6_22 rfl (by assumption) hc ?_
  refine q_aload_n hJ dX6_spare_11 (q := 12) rfl rfl rfl ?_
  refine q_getR hJ dX6_spare_12 (q := 15) rfl fl_X6_11 rfl (by assumption) (by assumption) rfl ?_
  refine q_alen hJ (v := 12) dX6_spare_15 (q := 16) rfl (by assumption) (by decide) (by decide) (by decide) ?_
  refine q_icmp_ge hJ (tgt := 31) dX6_spare_16 (q := 19) rfl (by decide) (fun c1 => ?_) (fun c1 => ?_)
  · refine q_null hJ dX6_spare_31 (q := 32) rfl ?_
    refine q_aret hM dX6_spare_32 rfl rfl ?_
    have hge : ¬ m < 12 := fun z => absurd (by rw [nI_12] at c1; exact (nI_leI (by decide) (by omega)).mp c1) (Nat.not_le.mpr z)
    exact ⟨by rw [if_neg hge]; rfl, rfl, rfl, rfl⟩
  · have hlt : m < 12 := (nI_ltI (by omega) (by decide)).mp (by rw [← nI_12]; exact Int32.not_le.mp c1)
    refine q_aload_n hJ dX6_spare_19 (q := 20) rfl rfl rfl ?_
    refine q_getR hJ dX6_spare_20 (q := 23) rfl fl_X6_11 rfl (by assumption) (by assumption) rfl ?_
    refine q_aload_n hJ dX6_spare_23 (q := 24) rfl rfl rfl ?_
    refine q_getI hJ dX6_spare_24 (q := 27) rfl fl_X6_22 rfl (by assumption) hc ?_
    refine q_aald hJ dX6_spare_27 (q := 28) rfl (by assumption) (by decide) (ix_nI hlt (by decide)) (hQ m hlt).1 rfl ?_
    refine q_goto hJ (tgt := 32) dX6_spare_28 (by decide) ?_
    refine q_aret hM dX6_spare_32 rfl rfl ?_
    exact ⟨by rw [if_pos hlt], rfl, rfl, rfl⟩

set_option maxRecDepth 100000 in
set_option maxHeartbeats 400000 in
theorem S_rankOf (b m r : Nat) (Q : Nat → Nat) (I : MI) (R : MR) (hB : isB b) (hFR : FR R) (hU : US I R b Q m) (hr : r < m) : Sp 1 0 0 mX6_rankOf [.ref (b + 23), .int (nI r)] g0 I R (Rt (some (.int (I (Q r) 2))) g0 I R) := by
  obtain ⟨hc, hn, hQ⟩ := id hU
  have hka := ka_rls hB
  have hkw := ka_rla hB
  have hkn := ka_num hB
  have hr0 : R (b + 23) 0 = some (b + 24) := (hFR.1 b hB).2.2.2.2.1
  have hr1 : R (b + 23) 1 = some (b + 25) := (hFR.1 b hB).2.2.2.2.2.1
  refine Sp.on (by decide +kernel) rfl rfl (fun J hM => ?_)
  have hJ := hM.ok
  refine q_aload_n hJ dX6_rankOf_0 (q := 1) rfl rfl rfl ?_
  refine q_iload_n hJ dX6_rankOf_1 (q := 2) rfl rfl ?_
  refine q_callV hJ dX6_rankOf_2 (q := 5) rfl (S_ruleOf b m Q (nI r) I R hB hFR hU) imX6_ruleOf ln_X6_30 (by assumption) (by decide) rfl rfl rfl rfl (Nat.le_of_ble_eq_true rfl) (by decide) (by decide) rfl rfl (fun rv gv Iv Rv hv => ?_)
  obtain ⟨rfl, rfl, rfl, rfl⟩ := hv
  rw [rowAtF_in12 hr hn]
  refine q_astore_n hJ dX6_rankOf_5 (q := 6) rfl (by decide) rfl ?_
  refine q_aload_n hJ dX6_rankOf_6 (q := 7) rfl rfl rfl ?_
  refine q_nonnullN hJ (tgt := 16) dX6_rankOf_7 (by decide) ?_
  refine q_aload_n hJ dX6_rankOf_16 (q := 17) rfl rfl rfl ?_
  refine q_getI hJ dX6_rankOf_17 (q := 20) rfl fl_X6_48 rfl (ka_rul hB (hQ r (by omega)).2.1 (hQ r (by omega)).2.2.1) rfl ?_
  refine q_iret hM dX6_rankOf_20 rfl rfl ?_
  exact ⟨rfl, rfl, rfl, rfl⟩

set_option maxRecDepth 100000 in
set_option maxHeartbeats 400000 in
theorem S_countOn (b m : Nat) (Q : Nat → Nat) (I : MI) (R : MR) (hB : isB b) (hFR : FR R) (hU : US I R b Q m) : Sp 1 0 0 mX6_countOn [.ref (b + 23)] g0 I R (Rt (some (.int (nI (coF (fun j => I (Q j) 10) m)))) g0 I R) := by
  obtain ⟨hc, hn, hQ⟩ := id hU
  have hka := ka_rls hB
  have hkw := ka_rla hB
  have hkn := ka_num hB
  have hr0 : R (b + 23) 0 = some (b + 24) := (hFR.1 b hB).2.2.2.2.1
  have hr1 : R (b + 23) 1 = some (b + 25) := (hFR.1 b hB).2.2.2.2.2.1
  refine Sp.on (by decide +kernel) rfl rfl (fun J hM => ?_)
  have hJ := hM.ok
  have loop : ∀ (k j : Nat) (w : Option Value), j + k = m → J 0 0 4 [some (.ref (b + 23)), some (.int (nI (coF (fun j => I (Q j) 10) j))), some (.int (nI j)), w] [] g0 I R := by
    intro k
    induction k with
    | zero =>
      intro j w hj
      refine q_iload_n hJ dX6_countOn_4 (q := 5) rfl rfl ?_
      refine q_aload_n hJ dX6_countOn_5 (q := 6) rfl rfl rfl ?_
      refine q_getI hJ dX6_countOn_6 (q := 9) rfl fl_X6_22 rfl (by assumption) hc ?_
      refine q_icmp_ge hJ (tgt := 38) dX6_countOn_9 (q := 12) rfl (by decide) (fun _ => ?_) (fun c1 => absurd ((nI_leI (by omega) (by omega)).mpr (by omega)) c1)
      refine q_iload_n hJ dX6_countOn_38 (q := 39) rfl rfl ?_
      refine q_iret hM dX6_countOn_39 rfl rfl ?_
      obtain rfl : j = m := by omega
      exact ⟨rfl, rfl, rfl, rfl⟩
    | succ k ih =>
      intro j w hj
      refine q_iload_n hJ dX6_countOn_4 (q := 5) rfl rfl ?_
      refine q_aload_n hJ dX6_countOn_5 (q := 6) rfl rfl rfl ?_
      refine q_getI hJ dX6_countOn_6 (q := 9) rfl fl_X6_22 rfl (by assumption) hc ?_
      refine q_icmp_ge hJ (tgt := 38) dX6_countOn_9 (q := 12) rfl (by decide) (fun c1 => absurd ((nI_leI (by omega) (by omega)).mp c1) (by omega)) (fun _ => ?_)
      refine q_aload_n hJ dX6_countOn_12 (q := 13) rfl rfl rfl ?_
      refine q_iload_n hJ dX6_countOn_13 (q := 14) rfl rfl ?_
      refine q_callV hJ dX6_countOn_14 (q := 17) rfl (S_ruleOf b m Q (nI j) I R hB hFR hU) imX6_ruleOf ln_X6_30 (by assumption) (by decide) rfl rfl rfl rfl (Nat.le_of_ble_eq_true rfl) (by decide) (by decide) rfl rfl (fun rv gv Iv Rv hv => ?_)
      obtain ⟨rfl, rfl, rfl, rfl⟩ := hv
      rw [rowAtF_in12 (by omega) hn]
      refine q_astore_n hJ dX6_countOn_17 (q := 18) rfl (by decide) rfl ?_
      refine q_aload_n hJ dX6_countOn_18 (q := 19) rfl rfl rfl ?_
      refine q_nullN hJ dX6_countOn_19 (q := 22) rfl ?_
      refine q_aload_n hJ dX6_countOn_22 (q := 23) rfl rfl rfl ?_
      refine q_getI hJ dX6_countOn_23 (q := 26) rfl fl_X6_38 rfl (ka_rul hB (hQ j (by omega)).2.1 (hQ j (by omega)).2.2.1) rfl ?_
      refine q_if_eq hJ (tgt := 32) dX6_countOn_26 (q := 29) rfl (by decide) (fun c2 => ?_) (fun c2 => ?_)
      · refine q_iinc hJ dX6_countOn_32 (q := 35) rfl (by decide) rfl (nI_1 j) ?_
        refine q_goto hJ (tgt := 4) dX6_countOn_35 (by decide) ?_
        have e : coF (fun j => I (Q j) 10) (j + 1) = coF (fun j => I (Q j) 10) j + (if I (Q j) 10 = 0 then 0 else 1) := rfl
        first | rw [if_pos c2] at e | rw [if_neg c2] at e
        first | rw [← e] | (rw [show coF (fun j => I (Q j) 10) j = coF (fun j => I (Q j) 10) (j + 1) from e.symm])
        exact ih (j + 1) _ (by omega)
      · refine q_iinc hJ dX6_countOn_29 (q := 32) rfl (by decide) rfl (nI_1 _) ?_
        refine q_iinc hJ dX6_countOn_32 (q := 35) rfl (by decide) rfl (nI_1 j) ?_
        refine q_goto hJ (tgt := 4) dX6_countOn_35 (by decide) ?_
        have e : coF (fun j => I (Q j) 10) (j + 1) = coF (fun j => I (Q j) 10) j + (if I (Q j) 10 = 0 then 0 else 1) := rfl
        first | rw [if_pos c2] at e | rw [if_neg c2] at e
        first | rw [← e] | (rw [show coF (fun j => I (Q j) 10) j = coF (fun j => I (Q j) 10) (j + 1) from e.symm])
        exact ih (j + 1) _ (by omega)
  refine q_iconst hJ (v := 0) dX6_countOn_0 (q := 1) rfl (by decide) ?_
  refine q_istore_n hJ dX6_countOn_1 (q := 2) rfl (by decide) ?_
  refine q_iconst hJ (v := 0) dX6_countOn_2 (q := 3) rfl (by decide) ?_
  refine q_istore_n hJ dX6_countOn_3 (q := 4) rfl (by decide) ?_
  exact loop m 0 none (by omega)

set_option maxRecDepth 100000 in
set_option maxHeartbeats 400000 in
theorem S_among (b m : Nat) (Q od : Nat → Nat) (ev mo wd : Int32) (I : MI) (R : MR) (hB : isB b) (hFR : FR R) (hU : US I R b Q m) (hod : ∀ j, j < m → I (b + 25) j = nI (od j) ∧ od j < m) : Sp 1 0 0 mX6_numberAmong [.ref (b + 23), .int ev, .int mo, .int wd] g0 I R (Rt (some (.int (noI (amF (fun r => I (Q r) 0 = ev ∧ I (Q r) 1 = mo) od wd 0 m 0)))) g0 I R) := by
  obtain ⟨hc, hn, hQ⟩ := id hU
  have hka := ka_rls hB
  have hkw := ka_rla hB
  have hkn := ka_num hB
  have hr0 : R (b + 23) 0 = some (b + 24) := (hFR.1 b hB).2.2.2.2.1
  have hr1 : R (b + 23) 1 = some (b + 25) := (hFR.1 b hB).2.2.2.2.2.1
  refine Sp.on (by decide +kernel) rfl rfl (fun J hM => ?_)
  have hJ := hM.ok
  have loop : ∀ (k j c : Nat) (w1 w2 : Option Value), j + k = m → c ≤ j → amF (fun r => I (Q r) 0 = ev ∧ I (Q r) 1 = mo) od wd 0 m 0 = amF (fun r => I (Q r) 0 = ev ∧ I (Q r) 1 = mo) od wd j k c → J 0 0 6 [some (.ref (b + 23)), some (.int ev), some (.int mo), some (.int wd), some (.int (nI c)), some (.int (nI j)), w1, w2] [] g0 I R := by
    intro k
    induction k with
    | zero =>
      intro j c w1 w2 hj hcj hf
      refine q_iload hJ dX6_numberAmong_6 (q := 8) rfl rfl ?_
      refine q_aload_n hJ dX6_numberAmong_8 (q := 9) rfl rfl rfl ?_
      refine q_getI hJ dX6_numberAmong_9 (q := 12) rfl fl_X6_22 rfl (by assumption) hc ?_
      refine q_icmp_ge hJ (tgt := 64) dX6_numberAmong_12 (q := 15) rfl (by decide) (fun _ => ?_) (fun c1 => absurd ((nI_leI (by omega) (by omega)).mpr (by omega)) c1)
      refine q_sipush hJ (v := (-1006)) dX6_numberAmong_64 (q := 67) rfl (by decide) ?_
      refine q_iret hM dX6_numberAmong_67 rfl rfl ?_
      exact ⟨by rw [hf]; rfl, rfl, rfl, rfl⟩
    | succ k ih =>
      intro j c w1 w2 hj hcj hf
      have hkq := ka_rul hB (hQ (od j) (by have := (hod j (by omega)).2; omega)).2.1 (hQ (od j) (by have := (hod j (by omega)).2; omega)).2.2.1
      refine q_iload hJ dX6_numberAmong_6 (q := 8) rfl rfl ?_
      refine q_aload_n hJ dX6_numberAmong_8 (q := 9) rfl rfl rfl ?_
      refine q_getI hJ dX6_numberAmong_9 (q := 12) rfl fl_X6_22 rfl (by assumption) hc ?_
      refine q_icmp_ge hJ (tgt := 64) dX6_numberAmong_12 (q := 15) rfl (by decide) (fun c1 => absurd ((nI_leI (by omega) (by omega)).mp c1) (by omega)) (fun _ => ?_)
      refine q_aload_n hJ dX6_numberAmong_15 (q := 16) rfl rfl rfl ?_
      refine q_iload hJ dX6_numberAmong_16 (q := 18) rfl rfl ?_
      refine q_callV hJ dX6_numberAmong_18 (q := 21) rfl (S_numberAt b m Q (nI j) I R hB hFR hU) imX6_numberAt ln_X6_26 (by assumption) (by decide) rfl rfl rfl rfl (Nat.le_of_ble_eq_true rfl) (by decide) (by decide) rfl rfl (fun rv gv Iv Rv hv => ?_)
      obtain ⟨rfl, rfl, rfl, rfl⟩ := hv
      rw [numF_in (by omega) hn, (hod j (by omega)).1]
      refine q_istore hJ dX6_numberAmong_21 (q := 23) rfl (by decide) ?_
      refine q_aload_n hJ dX6_numberAmong_23 (q := 24) rfl rfl rfl ?_
      refine q_iload hJ dX6_numberAmong_24 (q := 26) rfl rfl ?_
      refine q_callV hJ dX6_numberAmong_26 (q := 29) rfl (S_ruleOf b m Q (nI (od j)) I R hB hFR hU) imX6_ruleOf ln_X6_30 (by assumption) (by decide) rfl rfl rfl rfl (Nat.le_of_ble_eq_true rfl) (by decide) (by decide) rfl rfl (fun rv gv Iv Rv hv => ?_)
      obtain ⟨rfl, rfl, rfl, rfl⟩ := hv
      rw [rowAtF_in12 (hod j (by omega)).2 hn]
      refine q_astore hJ dX6_numberAmong_29 (q := 31) rfl (by decide) rfl ?_
      refine q_aload hJ dX6_numberAmong_31 (q := 33) rfl rfl rfl ?_
      refine q_nullN hJ dX6_numberAmong_33 (q := 36) rfl ?_
      refine q_aload hJ dX6_numberAmong_36 (q := 38) rfl rfl rfl ?_
      refine q_iload_n hJ dX6_numberAmong_38 (q := 39) rfl rfl ?_
      refine q_iload_n hJ dX6_numberAmong_39 (q := 40) rfl rfl ?_
      refine q_callV hJ dX6_numberAmong_40 (q := 43) rfl (S_isFor (Q (od j)) ev mo I R hkq) imX5_isFor ln_X6_34 hkq (by decide) rfl rfl rfl rfl (Nat.le_of_ble_eq_true rfl) (by decide) (by decide) rfl rfl (fun rv gv Iv Rv hv => ?_)
      obtain ⟨rfl, rfl, rfl, rfl⟩ := hv
      refine q_if_eq hJ (tgt := 58) dX6_numberAmong_43 (q := 46) rfl (by decide) (fun c2 => ?_) (fun c2 => ?_)
      · refine q_iinc hJ dX6_numberAmong_58 (q := 61) rfl (by decide) rfl (nI_1 j) ?_
        refine q_goto hJ (tgt := 6) dX6_numberAmong_61 (by decide) ?_
        first
          | exact ih (j + 1) (c + 1) _ _ (by omega) (by omega) (by rw [hf, amF, if_pos c2t, if_neg c3])
          | exact ih (j + 1) c _ _ (by omega) (by omega) (by rw [hf, amF, if_neg (fun z => by rw [if_pos z] at c2; exact absurd c2 (by decide))])
      · have c2t : I (Q (od j)) 0 = ev ∧ I (Q (od j)) 1 = mo := by
          refine Decidable.byContradiction fun z => ?_
          rw [if_neg z] at c2
          exact c2 rfl
        refine q_iload hJ dX6_numberAmong_46 (q := 48) rfl rfl ?_
        refine q_iload_n hJ dX6_numberAmong_48 (q := 49) rfl rfl ?_
        refine q_icmp_ne hJ (tgt := 55) dX6_numberAmong_49 (q := 52) rfl (by decide) (fun c3 => ?_) (fun c3 => ?_)
        · refine q_iinc hJ dX6_numberAmong_55 (q := 58) rfl (by decide) rfl (nI_1 _) ?_
          refine q_iinc hJ dX6_numberAmong_58 (q := 61) rfl (by decide) rfl (nI_1 j) ?_
          refine q_goto hJ (tgt := 6) dX6_numberAmong_61 (by decide) ?_
          first
            | exact ih (j + 1) (c + 1) _ _ (by omega) (by omega) (by rw [hf, amF, if_pos c2t, if_neg c3])
            | exact ih (j + 1) c _ _ (by omega) (by omega) (by rw [hf, amF, if_neg (fun z => by rw [if_pos z] at c2; exact absurd c2 (by decide))])
        · refine q_iload hJ dX6_numberAmong_52 (q := 54) rfl rfl ?_
          refine q_iret hM dX6_numberAmong_54 rfl rfl ?_
          exact ⟨by rw [hf, amF, if_pos c2t, if_pos c3]; rfl, rfl, rfl, rfl⟩
  refine q_iconst hJ (v := 0) dX6_numberAmong_0 (q := 1) rfl (by decide) ?_
  refine q_istore hJ dX6_numberAmong_1 (q := 3) rfl (by decide) ?_
  refine q_iconst hJ (v := 0) dX6_numberAmong_3 (q := 4) rfl (by decide) ?_
  refine q_istore hJ dX6_numberAmong_4 (q := 6) rfl (by decide) ?_
  exact loop m 0 0 none none (by omega) (by omega) rfl
end
section
/-! THE LIST OF RULES, second part: the order, adding, removing, copying -/
def insR (rk : Nat → Int32) (o : Nat → Nat) (x : Int32) : Nat → Nat
  | 0 => 0
  | q + 1 => if x < rk (o q) then insR rk o x q else q + 1
def osrt (rk : Nat → Int32) : Nat → Nat → Nat
  | 0 => fun _ => 0
  | k + 1 => fun j => if j < insR rk (osrt rk k) (rk k) k then osrt rk k j else if j = insR rk (osrt rk k) (rk k) k then k else osrt rk k (j - 1)
theorem insR_le (rk : Nat → Int32) (o : Nat → Nat) (x : Int32) (n : Nat) : insR rk o x n ≤ n := by
  induction n with
  | zero => exact Nat.le_refl 0
  | succ n ih =>
    unfold insR
    split
    · omega
    · exact Nat.le_refl _
theorem osrt_lt (rk : Nat → Int32) (k j : Nat) (h : j < k) : osrt rk k j < k := by
  induction k generalizing j with
  | zero => omega
  | succ k ih =>
    have hle := insR_le rk (osrt rk k) (rk k) k
    show (if j < insR rk (osrt rk k) (rk k) k then osrt rk k j else if j = insR rk (osrt rk k) (rk k) k then k else osrt rk k (j - 1)) < k + 1
    split
    · have := ih j (by omega)
      omega
    · split
      · omega
      · have := ih (j - 1) (by omega)
        omega
def nuM (I : MI) (b : Nat) (o : Nat → Nat) (k : Nat) : MI := fun a j => if a = b + 25 ∧ j < k then nI (o j) else I a j
def shN (I : MI) (b : Nat) (o : Nat → Nat) (k q : Nat) : MI := fun a j => if a = b + 25 ∧ q < j ∧ j ≤ k then nI (o (j - 1)) else I a j
theorem nuM_0 (I : MI) (b : Nat) (o : Nat → Nat) : nuM I b o 0 = I := by
  funext a j
  simp only [nuM]
  rw [if_neg]
  omega
theorem nuM_other {I : MI} {b : Nat} {o : Nat → Nat} {k a : Nat} (h : a ≠ b + 25) (j : Nat) : nuM I b o k a j = I a j := by
  simp only [nuM]
  rw [if_neg (fun z => h z.1)]
theorem shN_other {I : MI} {b : Nat} {o : Nat → Nat} {k q a : Nat} (h : a ≠ b + 25) (j : Nat) : shN I b o k q a j = I a j := by
  simp only [shN]
  rw [if_neg (fun z => h z.1)]
theorem shN_low {I : MI} {b : Nat} {o : Nat → Nat} {k q a j : Nat} (h : j ≤ q) : shN I b o k q a j = I a j := by
  simp only [shN]
  rw [if_neg (fun z => by omega)]
theorem nuM_in {I : MI} {b : Nat} {o : Nat → Nat} {k j : Nat} (h : j < k) : nuM I b o k (b + 25) j = nI (o j) := by
  simp [nuM, h]
theorem shN_k (I : MI) (b : Nat) (o : Nat → Nat) (k : Nat) : shN I b o k k = I := by
  funext a j
  simp only [shN]
  rw [if_neg]
  omega
theorem shN_step (I : MI) (b : Nat) (o : Nat → Nat) (k q : Nat) (h : q < k) : up2 (shN I b o k (q + 1)) (b + 25) (q + 1) (nI (o q)) = shN I b o k q := by
  funext a j
  simp only [up2_app, shN]
  by_cases ha : a = b + 25
  · by_cases hj : j = q + 1
    · subst hj
      have hz : a = b + 25 ∧ q < q + 1 ∧ q + 1 ≤ k := ⟨ha, by omega, by omega⟩
      rw [if_pos ⟨ha, rfl⟩, if_pos hz]
      simp
    · rw [if_neg (fun z => hj z.2)]
      by_cases h1 : q + 1 < j ∧ j ≤ k
      · have hz : a = b + 25 ∧ q < j ∧ j ≤ k := ⟨ha, by omega, h1.2⟩
        rw [if_pos ⟨ha, h1⟩, if_pos hz]
      · rw [if_neg (fun z => h1 z.2), if_neg (fun z => h1 ⟨by omega, z.2.2⟩)]
  · rw [if_neg (fun z => ha z.1), if_neg (fun z => ha z.1), if_neg (fun z => ha z.1)]
theorem nuM_step (I : MI) (b : Nat) (rk : Nat → Int32) (k q : Nat) (h : insR rk (osrt rk k) (rk k) k = q) : up2 (shN (nuM I b (osrt rk k) k) b (osrt rk k) k q) (b + 25) q (nI k) = nuM I b (osrt rk (k + 1)) (k + 1) := by
  have hle := insR_le rk (osrt rk k) (rk k) k
  funext a j
  simp only [up2_app, shN, nuM, osrt, h]
  by_cases ha : a = b + 25
  · by_cases h1 : j = q
    · subst h1
      have hz : a = b + 25 ∧ j < k + 1 := ⟨ha, by omega⟩
      rw [if_pos ⟨ha, rfl⟩, if_pos hz, if_neg (by omega), if_pos rfl]
    · rw [if_neg (fun z => h1 z.2)]
      by_cases h2 : q < j ∧ j ≤ k
      · have hz : a = b + 25 ∧ j < k + 1 := ⟨ha, by omega⟩
        rw [if_pos ⟨ha, h2⟩, if_pos hz, if_neg (by omega), if_neg h1]
      · rw [if_neg (fun z => h2 z.2)]
        by_cases h3 : j < k
        · have hz : a = b + 25 ∧ j < k + 1 := ⟨ha, by omega⟩
          rw [if_pos ⟨ha, h3⟩, if_pos hz, if_pos (by omega)]
        · rw [if_neg (fun z => h3 z.2), if_neg (fun z => by omega)]
  · rw [if_neg (fun z => ha z.1), if_neg (fun z => ha z.1), if_neg (fun z => ha z.1), if_neg (fun z => ha z.1)]
def dQ (R : MR) (b : Nat) (Q : Nat → Nat) (i l : Nat) : MR := fun a t => if a = b + 24 ∧ i ≤ t ∧ t < l then some (Q (t + 1)) else R a t
theorem dQ_0 (R : MR) (b : Nat) (Q : Nat → Nat) (i : Nat) : dQ R b Q i i = R := by
  funext a j
  simp only [dQ]
  rw [if_neg]
  omega
theorem dQ_step (R : MR) (b : Nat) (Q : Nat → Nat) (i l : Nat) (h : i ≤ l) : up2 (dQ R b Q i l) (b + 24) l (some (Q (l + 1))) = dQ R b Q i (l + 1) := by
  funext a t
  simp only [up2_app, dQ]
  by_cases ha : a = b + 24
  · by_cases ht : t = l
    · subst ht
      have hz : a = b + 24 ∧ i ≤ t ∧ t < t + 1 := ⟨ha, h, by omega⟩
      rw [if_pos ⟨ha, rfl⟩, if_pos hz]
    · rw [if_neg (fun z => ht z.2)]
      by_cases h1 : i ≤ t ∧ t < l
      · have hz : a = b + 24 ∧ i ≤ t ∧ t < l + 1 := ⟨ha, h1.1, by omega⟩
        rw [if_pos ⟨ha, h1⟩, if_pos hz]
      · rw [if_neg (fun z => h1 z.2), if_neg (fun z => h1 ⟨z.2.1, by omega⟩)]
  · rw [if_neg (fun z => ha z.1), if_neg (fun z => ha z.1), if_neg (fun z => ha z.1)]
theorem dQ_other {R : MR} {b : Nat} {Q : Nat → Nat} {i l a : Nat} (h : a ≠ b + 24) (j : Nat) : dQ R b Q i l a j = R a j := by
  simp only [dQ]
  rw [if_neg (fun z => h z.1)]
theorem dQ_high {R : MR} {b : Nat} {Q : Nat → Nat} {i l a j : Nat} (h : l ≤ j) : dQ R b Q i l a j = R a j := by
  simp only [dQ]
  rw [if_neg (fun z => by omega)]
def cutF (Q : Nat → Nat) (i m : Nat) : Nat → Nat := fun j => if j < i then Q j else if j + 1 < m then Q (j + 1) else if j + 1 = m then Q i else Q j
theorem FR.dQ {R : MR} (h : FR R) {b : Nat} (hB : isB b) (Q : Nat → Nat) (i l : Nat) (hl : i ≤ l) : FR (dQ R b Q i l) := by
  obtain ⟨k, rfl⟩ : ∃ k, l = i + k := ⟨l - i, by omega⟩
  induction k with
  | zero => rw [show i + 0 = i from rfl, dQ_0]; exact h
  | succ k ih =>
    rw [show i + (k + 1) = (i + k) + 1 by omega, ← dQ_step R b Q i (i + k) (by omega)]
    exact (ih (by omega)).upd (raA_24 hB)
theorem US.cut {I : MI} {R : MR} {b m i : Nat} {Q : Nat → Nat} (h : US I R b Q m) (hi : i < m) (I' : MI) (h1 : I' (b + 23) 2 = nI (m - 1)) : US I' (up2 (dQ R b Q i (m - 1)) (b + 24) (m - 1) (some (Q i))) b (cutF Q i m) (m - 1) := by
  obtain ⟨hc, hn, hQ⟩ := h
  refine ⟨h1, by omega, fun j hj => ?_⟩
  have key : ∀ j, j < 12 → ∃ t, t < 12 ∧ cutF Q i m j = Q t ∧ ((j < i ∧ t = j) ∨ (i ≤ j ∧ j + 1 < m ∧ t = j + 1) ∨ (j + 1 = m ∧ t = i) ∨ (m ≤ j ∧ t = j)) := by
    intro j hj
    unfold cutF
    by_cases h1 : j < i
    · exact ⟨j, hj, by rw [if_pos h1], Or.inl ⟨h1, rfl⟩⟩
    · by_cases h2 : j + 1 < m
      · exact ⟨j + 1, by omega, by rw [if_neg h1, if_pos h2], Or.inr (Or.inl ⟨by omega, h2, rfl⟩)⟩
      · by_cases h3 : j + 1 = m
        · exact ⟨i, by omega, by rw [if_neg h1, if_neg h2, if_pos h3], Or.inr (Or.inr (Or.inl ⟨h3, rfl⟩))⟩
        · exact ⟨j, hj, by rw [if_neg h1, if_neg h2, if_neg h3], Or.inr (Or.inr (Or.inr ⟨by omega, rfl⟩))⟩
  obtain ⟨t, ht, e, hcs⟩ := key j hj
  refine ⟨?_, by rw [e]; exact (hQ t ht).2.1, by rw [e]; exact (hQ t ht).2.2.1, fun x hx hxe => ?_⟩
  · rw [e]
    simp only [up2_app, dQ]
    rcases hcs with ⟨z1, rfl⟩ | ⟨z1, z2, rfl⟩ | ⟨z1, rfl⟩ | ⟨z1, rfl⟩
    · rw [if_neg (fun z => by omega), if_neg (fun z => by omega)]
      exact (hQ _ ht).1
    · have hz : j < m - 1 := by omega
      rw [if_neg (fun z => by omega), if_pos ⟨trivial, z1, hz⟩]
    · have hz : j = m - 1 := by omega
      rw [if_pos ⟨trivial, hz⟩]
    · rw [if_neg (fun z => by omega), if_neg (fun z => by omega)]
      exact (hQ _ ht).1
  · obtain ⟨u, hu, e2, hcs2⟩ := key x hx
    have := (hQ t ht).2.2.2 u hu (by rw [← e2, ← e]; exact hxe)
    omega
set_option maxRecDepth 100000 in
set_option maxHeartbeats 400000 in
theorem S_sort (b m : Nat) (Q : Nat → Nat) (I : MI) (R : MR) (hB : isB b) (hFR : FR R) (hU : US I R b Q m) : Sp 2 0 0 mX6_sortByRank [.ref (b + 23)] g0 I R (Rt none g0 (nuM I b (osrt (fun r => I (Q r) 2) m) m) R) := by
  obtain ⟨hc, hn, hQ⟩ := id hU
  have hka := ka_rls hB
  have hkw := ka_rla hB
  have hkn := ka_num hB
  have hr0 : R (b + 23) 0 = some (b + 24) := (hFR.1 b hB).2.2.2.2.1
  have hr1 : R (b + 23) 1 = some (b + 25) := (hFR.1 b hB).2.2.2.2.2.1
  refine Sp.on (by decide +kernel) rfl rfl (fun J hM => ?_)
  have hJ := hM.ok
  have outer : ∀ (k j : Nat) (w : Option Value), j + k = m → J 0 0 2 [some (.ref (b + 23)), some (.int (nI j)), w] [] g0 (nuM I b (osrt (fun r => I (Q r) 2) j) j) R := by
    intro k
    induction k with
    | zero =>
      intro j w hj
      have hcI : nuM I b (osrt (fun r => I (Q r) 2) j) j (b + 23) 2 = nI m := (nuM_other (by omega) 2).trans hc
      refine q_iload_n hJ dX6_sortByRank_2 (q := 3) rfl rfl ?_
      refine q_aload_n hJ dX6_sortByRank_3 (q := 4) rfl rfl rfl ?_
      refine q_getI hJ dX6_sortByRank_4 (q := 7) rfl fl_X6_22 rfl (by assumption) hcI ?_
      refine q_icmp_ge hJ (tgt := 78) dX6_sortByRank_7 (q := 10) rfl (by decide) (fun _ => ?_) (fun c1 => absurd ((nI_leI (by omega) (by omega)).mpr (by omega)) c1)
      refine q_vret hM dX6_sortByRank_78 rfl ?_
      obtain rfl : j = m := by omega
      exact ⟨rfl, rfl, rfl, rfl⟩
    | succ k ih =>
      intro j w hj
      have hcI : nuM I b (osrt (fun r => I (Q r) 2) j) j (b + 23) 2 = nI m := (nuM_other (by omega) 2).trans hc
      have ex : ∀ (q : Nat), q ≤ j → insR (fun r => I (Q r) 2) (osrt (fun r => I (Q r) 2) j) (I (Q j) 2) j = q → J 0 0 65 [some (.ref (b + 23)), some (.int (nI j)), some (.int (nI q))] [] g0 (shN (nuM I b (osrt (fun r => I (Q r) 2) j) j) b (osrt (fun r => I (Q r) 2) j) j q) R := by
        intro q hqj hq
        refine q_aload_n hJ dX6_sortByRank_65 (q := 66) rfl rfl rfl ?_
        refine q_getR hJ dX6_sortByRank_66 (q := 69) rfl fl_X6_17 rfl (by assumption) (by assumption) rfl ?_
        refine q_iload_n hJ dX6_sortByRank_69 (q := 70) rfl rfl ?_
        refine q_iload_n hJ dX6_sortByRank_70 (q := 71) rfl rfl ?_
        refine q_iast hJ dX6_sortByRank_71 (q := 72) rfl (by assumption) (ix_nI (by omega) (by decide)) ?_
        refine q_iinc hJ dX6_sortByRank_72 (q := 75) rfl (by decide) rfl (nI_1 j) ?_
        refine q_goto hJ (tgt := 2) dX6_sortByRank_75 (by decide) ?_
        rw [nuM_step I b _ j q hq]
        exact ih (j + 1) _ (by omega)
      have inner : ∀ (q : Nat), q ≤ j → insR (fun r => I (Q r) 2) (osrt (fun r => I (Q r) 2) j) (I (Q j) 2) j = insR (fun r => I (Q r) 2) (osrt (fun r => I (Q r) 2) j) (I (Q j) 2) q → J 0 0 21 [some (.ref (b + 23)), some (.int (nI j)), some (.int (nI q))] [] g0 (shN (nuM I b (osrt (fun r => I (Q r) 2) j) j) b (osrt (fun r => I (Q r) 2) j) j q) R := by
        intro q
        induction q with
        | zero =>
          intro _ hf
          refine q_iload_n hJ dX6_sortByRank_21 (q := 22) rfl rfl ?_
          refine q_if_le hJ (tgt := 65) dX6_sortByRank_22 (q := 25) rfl (by decide) (fun _ => ?_) (fun c3 => absurd c3 (by decide))
          exact ex 0 (by omega) hf
        | succ q ihq =>
          intro hqj hf
          have holt := osrt_lt (fun r => I (Q r) 2) j q (by omega)
          have hval : shN (nuM I b (osrt (fun r => I (Q r) 2) j) j) b (osrt (fun r => I (Q r) 2) j) j (q + 1) (b + 25) q = nI (osrt (fun r => I (Q r) 2) j q) := (shN_low (by omega)).trans (nuM_in (by omega))
          have hUI : US (shN (nuM I b (osrt (fun r => I (Q r) 2) j) j) b (osrt (fun r => I (Q r) 2) j) j (q + 1)) R b Q m := hU.of (by rw [shN_other (by omega), nuM_other (by omega)])
          have hrk : ∀ r, r < m → shN (nuM I b (osrt (fun r => I (Q r) 2) j) j) b (osrt (fun r => I (Q r) 2) j) j (q + 1) (Q r) 2 = I (Q r) 2 := fun r hr => by have := hQ r (by omega); rw [shN_other (by omega), nuM_other (by omega)]
          refine q_iload_n hJ dX6_sortByRank_21 (q := 22) rfl rfl ?_
          refine q_if_le hJ (tgt := 65) dX6_sortByRank_22 (q := 25) rfl (by decide) (fun c3 => absurd c3 (nI_nle (by omega) (by omega))) (fun _ => ?_)
          refine q_aload_n hJ dX6_sortByRank_25 (q := 26) rfl rfl rfl ?_
          refine q_aload_n hJ dX6_sortByRank_26 (q := 27) rfl rfl rfl ?_
          refine q_getR hJ dX6_sortByRank_27 (q := 30) rfl fl_X6_17 rfl (by assumption) (by assumption) rfl ?_
          refine q_iload_n hJ dX6_sortByRank_30 (q := 31) rfl rfl ?_
          refine q_iconst hJ (v := 1) dX6_sortByRank_31 (q := 32) rfl (by decide) ?_
          refine q_isub hJ dX6_sortByRank_32 (q := 33) rfl ?_
          refine q_iald hJ dX6_sortByRank_33 (q := 34) rfl (by assumption) (by rw [nI_pred]; exact ix_nI (by omega) (by decide)) hval ?_
          refine q_callV hJ dX6_sortByRank_34 (q := 37) rfl (S_rankOf b m (osrt (fun r => I (Q r) 2) j q) Q _ R hB hFR hUI (by omega)) imX6_rankOf ln_X6_45 (by assumption) (by decide) rfl rfl rfl rfl (Nat.le_of_ble_eq_true rfl) (by decide) (by decide) rfl rfl (fun rv gv Iv Rv hv => ?_)
          obtain ⟨rfl, rfl, rfl, rfl⟩ := hv
          rw [hrk _ (by omega)]
          refine q_aload_n hJ dX6_sortByRank_37 (q := 38) rfl rfl rfl ?_
          refine q_iload_n hJ dX6_sortByRank_38 (q := 39) rfl rfl ?_
          refine q_callV hJ dX6_sortByRank_39 (q := 42) rfl (S_rankOf b m j Q _ R hB hFR hUI (by omega)) imX6_rankOf ln_X6_45 (by assumption) (by decide) rfl rfl rfl rfl (Nat.le_of_ble_eq_true rfl) (by decide) (by decide) rfl rfl (fun rv gv Iv Rv hv => ?_)
          obtain ⟨rfl, rfl, rfl, rfl⟩ := hv
          rw [hrk _ (by omega)]
          refine q_icmp_le hJ (tgt := 65) dX6_sortByRank_42 (q := 45) rfl (by decide) (fun c4 => ?_) (fun c4 => ?_)
          · exact ex (q + 1) (by omega) (by rw [hf, insR, if_neg (Int32.not_lt.mpr c4)])
          · refine q_aload_n hJ dX6_sortByRank_45 (q := 46) rfl rfl rfl ?_
            refine q_getR hJ dX6_sortByRank_46 (q := 49) rfl fl_X6_17 rfl (by assumption) (by assumption) rfl ?_
            refine q_iload_n hJ dX6_sortByRank_49 (q := 50) rfl rfl ?_
            refine q_aload_n hJ dX6_sortByRank_50 (q := 51) rfl rfl rfl ?_
            refine q_getR hJ dX6_sortByRank_51 (q := 54) rfl fl_X6_17 rfl (by assumption) (by assumption) rfl ?_
            refine q_iload_n hJ dX6_sortByRank_54 (q := 55) rfl rfl ?_
            refine q_iconst hJ (v := 1) dX6_sortByRank_55 (q := 56) rfl (by decide) ?_
            refine q_isub hJ dX6_sortByRank_56 (q := 57) rfl ?_
            refine q_iald hJ dX6_sortByRank_57 (q := 58) rfl (by assumption) (by rw [nI_pred]; exact ix_nI (by omega) (by decide)) hval ?_
            refine q_iast hJ dX6_sortByRank_58 (q := 59) rfl (by assumption) (ix_nI (by omega) (by decide)) ?_
            rw [shN_step _ b _ j q (by omega)]
            refine q_iinc hJ dX6_sortByRank_59 (q := 62) rfl (by decide) rfl (nI_m1 q) ?_
            refine q_goto hJ (tgt := 21) dX6_sortByRank_62 (by decide) ?_
            exact ihq (by omega) (by rw [hf, insR, if_pos (Int32.not_le.mp c4)])
      refine q_iload_n hJ dX6_sortByRank_2 (q := 3) rfl rfl ?_
      refine q_aload_n hJ dX6_sortByRank_3 (q := 4) rfl rfl rfl ?_
      refine q_getI hJ dX6_sortByRank_4 (q := 7) rfl fl_X6_22 rfl (by assumption) hcI ?_
      refine q_icmp_ge hJ (tgt := 78) dX6_sortByRank_7 (q := 10) rfl (by decide) (fun c1 => absurd ((nI_leI (by omega) (by omega)).mp c1) (by omega)) (fun _ => ?_)
      refine q_iload_n hJ dX6_sortByRank_10 (q := 11) rfl rfl ?_
      refine q_aload_n hJ dX6_sortByRank_11 (q := 12) rfl rfl rfl ?_
      refine q_getR hJ dX6_sortByRank_12 (q := 15) rfl fl_X6_17 rfl (by assumption) (by assumption) rfl ?_
      refine q_alen hJ (v := 12) dX6_sortByRank_15 (q := 16) rfl (by assumption) (by decide) (by decide) (by decide) ?_
      refine q_icmp_ge hJ (tgt := 78) dX6_sortByRank_16 (q := 19) rfl (by decide) (fun c2 => absurd (by rw [nI_12] at c2; exact (nI_leI (by decide) (by omega)).mp c2) (by omega)) (fun _ => ?_)
      refine q_iload_n hJ dX6_sortByRank_19 (q := 20) rfl rfl ?_
      refine q_istore_n hJ dX6_sortByRank_20 (q := 21) rfl (by decide) ?_
      have h0 := inner j (Nat.le_refl j) rfl
      rw [shN_k] at h0
      exact h0
  refine q_iconst hJ (v := 0) dX6_sortByRank_0 (q := 1) rfl (by decide) ?_
  refine q_istore_n hJ dX6_sortByRank_1 (q := 2) rfl (by decide) ?_
  have h0 := outer m 0 none (by omega)
  rw [nuM_0] at h0
  exact h0

set_option maxRecDepth 100000 in
set_option maxHeartbeats 400000 in
theorem S_takeSpare (b m : Nat) (Q : Nat → Nat) (I : MI) (R : MR) (hB : isB b) (hFR : FR R) (hU : US I R b Q m) (hlt : m < 12) : Sp 3 0 0 mX6_takeSpare [.ref (b + 23)] g0 I R (Rt (some (.int (nI m))) g0 (nuM (up2 I (b + 23) 2 (nI (m + 1))) b (osrt (fun r => up2 I (b + 23) 2 (nI (m + 1)) (Q r) 2) (m + 1)) (m + 1)) R) := by
  obtain ⟨hc, hn, hQ⟩ := id hU
  have hka := ka_rls hB
  have hkw := ka_rla hB
  have hkn := ka_num hB
  have hr0 : R (b + 23) 0 = some (b + 24) := (hFR.1 b hB).2.2.2.2.1
  have hr1 : R (b + 23) 1 = some (b + 25) := (hFR.1 b hB).2.2.2.2.2.1
  refine Sp.on (by decide +kernel) rfl rfl (fun J hM => ?_)
  have hJ := hM.ok
  refine q_aload_n hJ dX6_takeSpare_0 (q := 1) rfl rfl rfl ?_
  refine q_dup hJ dX6_takeSpare_1 (q := 2) rfl rfl ?_
  refine q_getI hJ dX6_takeSpare_2 (q := 5) rfl fl_X6_22 rfl (by assumption) hc ?_
  refine q_iconst hJ (v := 1) dX6_takeSpare_5 (q := 6) rfl (by decide) ?_
  refine q_iadd hJ dX6_takeSpare_6 (q := 7) rfl ?_
  refine q_putI hJ dX6_takeSpare_7 (q := 10) rfl fl_X6_22 rfl rfl (by assumption) rfl rfl ?_
  refine q_aload_n hJ dX6_takeSpare_10 (q := 11) rfl rfl rfl ?_
  rw [nI_1]
  refine q_callV hJ dX6_takeSpare_11 (q := 14) rfl (S_sort b (m + 1) Q _ R hB hFR ⟨by simp [up2_app], by omega, hQ⟩) imX6_sortByRank ln_X6_42 (by assumption) (by decide) rfl rfl rfl rfl (Nat.le_of_ble_eq_true rfl) (by decide) (by decide) rfl rfl (fun rv gv Iv Rv hv => ?_)
  obtain ⟨rfl, rfl, rfl, rfl⟩ := hv
  refine q_aload_n hJ dX6_takeSpare_14 (q := 15) rfl rfl rfl ?_
  refine q_getI hJ dX6_takeSpare_15 (q := 18) rfl fl_X6_22 rfl (by assumption) (show _ = nI (m + 1) from (nuM_other (by omega) 2).trans (by simp [up2_app])) ?_
  refine q_iconst hJ (v := 1) dX6_takeSpare_18 (q := 19) rfl (by decide) ?_
  refine q_isub hJ dX6_takeSpare_19 (q := 20) rfl ?_
  refine q_iret hM dX6_takeSpare_20 rfl rfl ?_
  exact ⟨by rw [nI_pred], rfl, rfl, rfl⟩

set_option maxRecDepth 100000 in
set_option maxHeartbeats 400000 in
theorem S_ruleDrop (b m i : Nat) (Q : Nat → Nat) (I : MI) (R : MR) (hB : isB b) (hFR : FR R) (hU : US I R b Q m) (hi : i < m) : Sp 3 0 0 mX6_drop [.ref (b + 23), .int (nI i)] g0 I R (Rt none g0 (nuM (up2 I (b + 23) 2 (nI (m - 1))) b (osrt (fun r => (up2 I (b + 23) 2 (nI (m - 1))) (cutF Q i m r) 2) (m - 1)) (m - 1)) (up2 (dQ R b Q i (m - 1)) (b + 24) (m - 1) (some (Q i)))) := by
  obtain ⟨hc, hn, hQ⟩ := id hU
  have hka := ka_rls hB
  have hkw := ka_rla hB
  have hkn := ka_num hB
  have hr0 : R (b + 23) 0 = some (b + 24) := (hFR.1 b hB).2.2.2.2.1
  have hr1 : R (b + 23) 1 = some (b + 25) := (hFR.1 b hB).2.2.2.2.2.1
  refine Sp.on (by decide +kernel) rfl rfl (fun J hM => ?_)
  have hJ := hM.ok
  have loop : ∀ (k j : Nat), j + k = m - 1 → i ≤ j → J 0 0 31 [some (.ref (b + 23)), some (.int (nI i)), some (.ref (Q i)), some (.int (nI j))] [] g0 I (dQ R b Q i j) := by
    intro k
    induction k with
    | zero =>
      intro j hj hij
      have hsr : dQ R b Q i j (b + 23) 0 = some (b + 24) := (dQ_other (by omega) 0).trans hr0
      refine q_iload_n hJ dX6_drop_31 (q := 32) rfl rfl ?_
      refine q_iconst hJ (v := 1) dX6_drop_32 (q := 33) rfl (by decide) ?_
      refine q_iadd hJ dX6_drop_33 (q := 34) rfl ?_
      refine q_aload_n hJ dX6_drop_34 (q := 35) rfl rfl rfl ?_
      refine q_getI hJ dX6_drop_35 (q := 38) rfl fl_X6_22 rfl (by assumption) hc ?_
      refine q_icmp_ge hJ (tgt := 72) dX6_drop_38 (q := 41) rfl (by decide) (fun _ => ?_) (fun c4 => absurd (by rw [nI_1]; exact (nI_leI (by omega) (by omega)).mpr (by omega)) c4)
      refine q_aload_n hJ dX6_drop_72 (q := 73) rfl rfl rfl ?_
      refine q_getR hJ dX6_drop_73 (q := 76) rfl fl_X6_11 rfl (by assumption) hsr rfl ?_
      refine q_iload_n hJ dX6_drop_76 (q := 77) rfl rfl ?_
      refine q_aload_n hJ dX6_drop_77 (q := 78) rfl rfl rfl ?_
      refine q_aast hJ dX6_drop_78 (q := 79) rfl (by assumption) (Or.inr (Or.inl ⟨rfl, ka_rul hB (hQ i (by omega)).2.1 (hQ i (by omega)).2.2.1⟩)) (ix_nI (by omega) (by decide)) ?_
      refine q_aload_n hJ dX6_drop_79 (q := 80) rfl rfl rfl ?_
      refine q_dup hJ dX6_drop_80 (q := 81) rfl rfl ?_
      obtain rfl : j = m - 1 := by omega
      refine q_getI hJ dX6_drop_81 (q := 84) rfl fl_X6_22 rfl (by assumption) hc ?_
      refine q_iconst hJ (v := 1) dX6_drop_84 (q := 85) rfl (by decide) ?_
      refine q_isub hJ dX6_drop_85 (q := 86) rfl ?_
      refine q_putI hJ dX6_drop_86 (q := 89) rfl fl_X6_22 rfl rfl (by assumption) rfl rfl ?_
      refine q_aload_n hJ dX6_drop_89 (q := 90) rfl rfl rfl ?_
      have em : nI m - 1 = nI (m - 1) := by rw [show m = (m - 1) + 1 by omega, nI_pred]; rfl
      rw [em]
      refine q_callV hJ dX6_drop_90 (q := 93) rfl (S_sort b (m - 1) (cutF Q i m) _ _ hB ((hFR.dQ hB Q i (m - 1) (by omega)).upd (raA_24 hB)) (hU.cut hi _ (by simp [up2_app]))) imX6_sortByRank ln_X6_42 (by assumption) (by decide) rfl rfl rfl rfl (Nat.le_of_ble_eq_true rfl) (by decide) (by decide) rfl rfl (fun rv gv Iv Rv hv => ?_)
      obtain ⟨rfl, rfl, rfl, rfl⟩ := hv
      refine q_vret hM dX6_drop_93 rfl ?_
      exact ⟨rfl, rfl, rfl, rfl⟩
    | succ k ih =>
      intro j hj hij
      have hsr : dQ R b Q i j (b + 23) 0 = some (b + 24) := (dQ_other (by omega) 0).trans hr0
      refine q_iload_n hJ dX6_drop_31 (q := 32) rfl rfl ?_
      refine q_iconst hJ (v := 1) dX6_drop_32 (q := 33) rfl (by decide) ?_
      refine q_iadd hJ dX6_drop_33 (q := 34) rfl ?_
      refine q_aload_n hJ dX6_drop_34 (q := 35) rfl rfl rfl ?_
      refine q_getI hJ dX6_drop_35 (q := 38) rfl fl_X6_22 rfl (by assumption) hc ?_
      refine q_icmp_ge hJ (tgt := 72) dX6_drop_38 (q := 41) rfl (by decide) (fun c4 => absurd (by rw [nI_1] at c4; exact (nI_leI (by omega) (by omega)).mp c4) (by omega)) (fun _ => ?_)
      refine q_iload_n hJ dX6_drop_41 (q := 42) rfl rfl ?_
      refine q_iconst hJ (v := 1) dX6_drop_42 (q := 43) rfl (by decide) ?_
      refine q_iadd hJ dX6_drop_43 (q := 44) rfl ?_
      refine q_aload_n hJ dX6_drop_44 (q := 45) rfl rfl rfl ?_
      refine q_getR hJ dX6_drop_45 (q := 48) rfl fl_X6_11 rfl (by assumption) hsr rfl ?_
      refine q_alen hJ (v := 12) dX6_drop_48 (q := 49) rfl (by assumption) (by decide) (by decide) (by decide) ?_
      refine q_icmp_ge hJ (tgt := 72) dX6_drop_49 (q := 52) rfl (by decide) (fun c5 => absurd (by rw [nI_12, nI_1] at c5; exact (nI_leI (by decide) (by omega)).mp c5) (by omega)) (fun _ => ?_)
      refine q_aload_n hJ dX6_drop_52 (q := 53) rfl rfl rfl ?_
      refine q_getR hJ dX6_drop_53 (q := 56) rfl fl_X6_11 rfl (by assumption) hsr rfl ?_
      refine q_iload_n hJ dX6_drop_56 (q := 57) rfl rfl ?_
      refine q_aload_n hJ dX6_drop_57 (q := 58) rfl rfl rfl ?_
      refine q_getR hJ dX6_drop_58 (q := 61) rfl fl_X6_11 rfl (by assumption) hsr rfl ?_
      refine q_iload_n hJ dX6_drop_61 (q := 62) rfl rfl ?_
      refine q_iconst hJ (v := 1) dX6_drop_62 (q := 63) rfl (by decide) ?_
      refine q_iadd hJ dX6_drop_63 (q := 64) rfl ?_
      refine q_aald hJ dX6_drop_64 (q := 65) rfl (by assumption) (by decide) (by rw [nI_1]; exact ix_nI (by omega) (by decide)) ((dQ_high (by omega)).trans (hQ (j + 1) (by omega)).1) rfl ?_
      refine q_aast hJ dX6_drop_65 (q := 66) rfl (by assumption) (Or.inr (Or.inl ⟨rfl, ka_rul hB (hQ (j + 1) (by omega)).2.1 (hQ (j + 1) (by omega)).2.2.1⟩)) (ix_nI (by omega) (by decide)) ?_
      rw [dQ_step R b Q i j (by omega)]
      refine q_iinc hJ dX6_drop_66 (q := 69) rfl (by decide) rfl (nI_1 j) ?_
      refine q_goto hJ (tgt := 31) dX6_drop_69 (by decide) ?_
      exact ih (j + 1) (by omega) (by omega)
  refine q_iload_n hJ dX6_drop_0 (q := 1) rfl rfl ?_
  refine q_if_lt hJ (tgt := 21) dX6_drop_1 (q := 4) rfl (by decide) (fun c1 => absurd c1 (nI_pos (by omega))) (fun _ => ?_)
  refine q_iload_n hJ dX6_drop_4 (q := 5) rfl rfl ?_
  refine q_aload_n hJ dX6_drop_5 (q := 6) rfl rfl rfl ?_
  refine q_getI hJ dX6_drop_6 (q := 9) rfl fl_X6_22 rfl (by assumption) hc ?_
  refine q_icmp_ge hJ (tgt := 21) dX6_drop_9 (q := 12) rfl (by decide) (fun c2 => absurd ((nI_leI (by omega) (by omega)).mp c2) (by omega)) (fun _ => ?_)
  refine q_iload_n hJ dX6_drop_12 (q := 13) rfl rfl ?_
  refine q_aload_n hJ dX6_drop_13 (q := 14) rfl rfl rfl ?_
  refine q_getR hJ dX6_drop_14 (q := 17) rfl fl_X6_11 rfl (by assumption) (by assumption) rfl ?_
  refine q_alen hJ (v := 12) dX6_drop_17 (q := 18) rfl (by assumption) (by decide) (by decide) (by decide) ?_
  refine q_icmp_lt hJ (tgt := 22) dX6_drop_18 (q := 21) rfl (by decide) (fun _ => ?_) (fun c3 => absurd (by rw [nI_12]; exact (nI_ltI (by omega) (by decide)).mpr (by omega)) c3)
  refine q_aload_n hJ dX6_drop_22 (q := 23) rfl rfl rfl ?_
  refine q_getR hJ dX6_drop_23 (q := 26) rfl fl_X6_11 rfl (by assumption) (by assumption) rfl ?_
  refine q_iload_n hJ dX6_drop_26 (q := 27) rfl rfl ?_
  refine q_aald hJ dX6_drop_27 (q := 28) rfl (by assumption) (by decide) (ix_nI (by omega) (by decide)) (hQ i (by omega)).1 rfl ?_
  refine q_astore_n hJ dX6_drop_28 (q := 29) rfl (by decide) rfl ?_
  refine q_iload_n hJ dX6_drop_29 (q := 30) rfl rfl ?_
  refine q_istore_n hJ dX6_drop_30 (q := 31) rfl (by decide) ?_
  have h0 := loop (m - 1 - i) i (by omega) (by omega)
  rw [dQ_0] at h0
  exact h0

set_option maxRecDepth 100000 in
set_option maxHeartbeats 400000 in
theorem S_rulesCopy (b c n1 n2 : Nat) (P1 P2 : Nat → Nat) (I : MI) (R : MR) (hB : isB b) (hC : isB c) (hne : b ≠ c) (hFR : FR R) (hT1 : US I R b P1 n1) (hT2 : US I R c P2 n2) (hon : ∀ j, j < n2 → I (P2 j) 10 = 0 ∨ I (P2 j) 10 = 1) : Sp 3 0 0 mX6_copyFrom [.ref (b + 23), .ref (c + 23)] g0 I R (Rt none g0 (cp0 (cpR (up2 I (b + 23) 2 (nI n2)) P1 P2 12 n2) (c + 25) (b + 25) 12) R) := by
  obtain ⟨hc1, hn1, hP1⟩ := hT1
  obtain ⟨hc2, hn2, hP2⟩ := id hT2
  have hka := ka_rls hB
  have hkw := ka_rla hB
  have hkc := ka_rls hC
  have hk3 := ka_num hB
  have hk5 := ka_num hC
  have hdis := isB_dis hB hC hne
  have hr0 : R (b + 23) 0 = some (b + 24) := (hFR.1 b hB).2.2.2.2.1
  have hr1 : R (b + 23) 1 = some (b + 25) := (hFR.1 b hB).2.2.2.2.2.1
  have hr2 : R (c + 23) 1 = some (c + 25) := (hFR.1 c hC).2.2.2.2.2.1
  have hcc : ∀ j, j ≤ n2 → cpR (up2 I (b + 23) 2 (nI n2)) P1 P2 12 j (b + 23) 2 = nI n2 := fun j hj => by
    rw [cpR_other _ _ _ _ _ _ (fun i hi z => by have := hP1 i (by omega); omega)]
    simp [up2_app]
  refine Sp.on (by decide +kernel) rfl rfl (fun J hM => ?_)
  have hJ := hM.ok
  have loop : ∀ (k j : Nat) (w1 w2 : Option Value), j + k = n2 → J 0 0 10 [some (.ref (b + 23)), some (.ref (c + 23)), some (.int (nI j)), w1, w2] [] g0 (cpR (up2 I (b + 23) 2 (nI n2)) P1 P2 12 j) R := by
    intro k
    induction k with
    | zero =>
      intro j w1 w2 hj
      have hcI : cpR (up2 I (b + 23) 2 (nI n2)) P1 P2 12 j (b + 23) 2 = nI n2 := hcc j (by omega)
      refine q_iload_n hJ dX6_copyFrom_10 (q := 11) rfl rfl ?_
      refine q_aload_n hJ dX6_copyFrom_11 (q := 12) rfl rfl rfl ?_
      refine q_getI hJ dX6_copyFrom_12 (q := 15) rfl fl_X6_22 rfl hka hcI ?_
      refine q_icmp_ge hJ (tgt := 62) dX6_copyFrom_15 (q := 18) rfl (by decide) (fun _ => ?_) (fun c1 => absurd ((nI_leI (by omega) (by omega)).mpr (by omega)) c1)
      refine q_aload_n hJ dX6_copyFrom_62 (q := 63) rfl rfl rfl ?_
      refine q_getR hJ dX6_copyFrom_63 (q := 66) rfl fl_X6_17 rfl hkc (by assumption) rfl ?_
      refine q_iconst hJ (v := 0) dX6_copyFrom_66 (q := 67) rfl (by decide) ?_
      refine q_aload_n hJ dX6_copyFrom_67 (q := 68) rfl rfl rfl ?_
      refine q_getR hJ dX6_copyFrom_68 (q := 71) rfl fl_X6_17 rfl (by assumption) (by assumption) rfl ?_
      refine q_iconst hJ (v := 0) dX6_copyFrom_71 (q := 72) rfl (by decide) ?_
      refine q_bipush hJ (v := 12) dX6_copyFrom_72 (q := 74) rfl (by decide) ?_
      refine q_copy hJ (N := 12) dX6_copyFrom_74 (q := 77) rfl ln_X6_55 aw hk5 hk3 ⟨by decide, by decide⟩ (by decide) (by decide) rfl (Nat.le_of_ble_eq_true rfl) (by decide) ?_
      refine q_vret hM dX6_copyFrom_77 rfl ?_
      obtain rfl : j = n2 := by omega
      exact ⟨rfl, rfl, rfl, rfl⟩
    | succ k ih =>
      intro j w1 w2 hj
      have hcI : cpR (up2 I (b + 23) 2 (nI n2)) P1 P2 12 j (b + 23) 2 = nI n2 := hcc j (by omega)
      have h1j := hP1 j (by omega)
      have h2j := hP2 j (by omega)
      have hk1 := ka_rul hB h1j.2.1 h1j.2.2.1
      have hk2 := ka_rul hC h2j.2.1 h2j.2.2.1
      have hTc : US (cpR (up2 I (b + 23) 2 (nI n2)) P1 P2 12 j) R c P2 n2 := hT2.of (by rw [cpR_other _ _ _ _ _ _ (fun i hi z => by have := hP1 i (by omega); omega), up2_other _ _ _ _ (by omega)])
      refine q_iload_n hJ dX6_copyFrom_10 (q := 11) rfl rfl ?_
      refine q_aload_n hJ dX6_copyFrom_11 (q := 12) rfl rfl rfl ?_
      refine q_getI hJ dX6_copyFrom_12 (q := 15) rfl fl_X6_22 rfl hka hcI ?_
      refine q_icmp_ge hJ (tgt := 62) dX6_copyFrom_15 (q := 18) rfl (by decide) (fun c1 => absurd ((nI_leI (by omega) (by omega)).mp c1) (by omega)) (fun _ => ?_)
      refine q_iload_n hJ dX6_copyFrom_18 (q := 19) rfl rfl ?_
      refine q_aload_n hJ dX6_copyFrom_19 (q := 20) rfl rfl rfl ?_
      refine q_getR hJ dX6_copyFrom_20 (q := 23) rfl fl_X6_11 rfl hka hr0 rfl ?_
      refine q_alen hJ (v := 12) dX6_copyFrom_23 (q := 24) rfl (by assumption) (by decide) (by decide) (by decide) ?_
      refine q_icmp_ge hJ (tgt := 62) dX6_copyFrom_24 (q := 27) rfl (by decide) (fun c2 => absurd (by rw [nI_12] at c2; exact (nI_leI (by decide) (by omega)).mp c2) (by omega)) (fun _ => ?_)
      refine q_aload_n hJ dX6_copyFrom_27 (q := 28) rfl rfl rfl ?_
      refine q_getR hJ dX6_copyFrom_28 (q := 31) rfl fl_X6_11 rfl hka hr0 rfl ?_
      refine q_iload_n hJ dX6_copyFrom_31 (q := 32) rfl rfl ?_
      refine q_aald hJ dX6_copyFrom_32 (q := 33) rfl (by assumption) (by decide) (ix_nI (by omega) (by decide)) h1j.1 rfl ?_
      refine q_astore_n hJ dX6_copyFrom_33 (q := 34) rfl (by decide) rfl ?_
      refine q_aload_n hJ dX6_copyFrom_34 (q := 35) rfl rfl rfl ?_
      refine q_iload_n hJ dX6_copyFrom_35 (q := 36) rfl rfl ?_
      refine q_callV hJ dX6_copyFrom_36 (q := 39) rfl (S_ruleOf c n2 P2 (nI j) _ R hC hFR hTc) imX6_ruleOf ln_X6_30 hkc (by decide) rfl rfl rfl rfl (Nat.le_of_ble_eq_true rfl) (by decide) (by decide) rfl rfl (fun rv gv Iv Rv hv => ?_)
      obtain ⟨rfl, rfl, rfl, rfl⟩ := hv
      rw [rowAtF_in12 (by omega) hn2]
      refine q_astore hJ dX6_copyFrom_39 (q := 41) rfl (by decide) rfl ?_
      refine q_aload_n hJ dX6_copyFrom_41 (q := 42) rfl rfl rfl ?_
      refine q_nullN hJ dX6_copyFrom_42 (q := 45) rfl ?_
      refine q_aload hJ dX6_copyFrom_45 (q := 47) rfl rfl rfl ?_
      refine q_nullN hJ dX6_copyFrom_47 (q := 50) rfl ?_
      refine q_aload_n hJ dX6_copyFrom_50 (q := 51) rfl rfl rfl ?_
      refine q_aload hJ dX6_copyFrom_51 (q := 53) rfl rfl rfl ?_
      refine q_callV hJ dX6_copyFrom_53 (q := 56) rfl (S_ruleCopy (P1 j) (P2 j) _ R hk1 hk2 (fun z => by omega) (by rw [cpR_other _ _ _ _ _ _ (fun i hi z => by have := hP1 i (by omega); omega), up2_other _ _ _ _ (by omega)]; exact hon j (by omega))) imX5_copyFrom ln_X6_51 hk1 (by decide) rfl rfl rfl rfl (Nat.le_of_ble_eq_true rfl) (by decide) (by decide) rfl rfl (fun rv gv Iv Rv hv => ?_)
      obtain ⟨rfl, rfl, rfl, rfl⟩ := hv
      refine q_iinc hJ dX6_copyFrom_56 (q := 59) rfl (by decide) rfl (nI_1 j) ?_
      refine q_goto hJ (tgt := 10) dX6_copyFrom_59 (by decide) ?_
      exact ih (j + 1) _ _ (by omega)
  refine q_aload_n hJ dX6_copyFrom_0 (q := 1) rfl rfl rfl ?_
  refine q_aload_n hJ dX6_copyFrom_1 (q := 2) rfl rfl rfl ?_
  refine q_getI hJ dX6_copyFrom_2 (q := 5) rfl fl_X6_22 rfl hkc hc2 ?_
  refine q_putI hJ dX6_copyFrom_5 (q := 8) rfl fl_X6_22 rfl rfl hka rfl rfl ?_
  refine q_iconst hJ (v := 0) dX6_copyFrom_8 (q := 9) rfl (by decide) ?_
  refine q_istore_n hJ dX6_copyFrom_9 (q := 10) rfl (by decide) ?_
  exact loop n2 0 none none (by omega)
end
section
/-! A STATE: its abstract value, and how it lies in the cells -/
theorem Sp.weaken {d mc ms : Nat} {Y : MT} {as : List Value} {g : Geo} {I : MI} {R : MR} {Φ Ψ : Po} (h : Sp d mc ms Y as g I R Φ) (hw : ∀ r g' I' R', Φ r g' I' R' → Ψ r g' I' R') : Sp d mc ms Y as g I R Ψ := by
  intro l n0 sb D kA
  refine MetFree.mono (h l n0 sb D kA) (fun _ _ hp => hp) (fun _ _ _ _ _ hk => hk) (fun _ _ _ _ _ hq => ?_)
  obtain ⟨⟨⟨r, g', I', R', e1, e2, e3, e4⟩, hF⟩, hL⟩ := hq
  exact ⟨⟨⟨r, g', I', R', e1, hw _ _ _ _ e2, e3, e4⟩, hF⟩, hL⟩
/-- rows (key, three fields) by place, how many; rules (twelve ints) by number, how many; settings and counts; the record (rule, depth, key), how many -/
abbrev AS : Type := (Nat → Nat → Int32) × Nat × (Nat → Nat → Int32) × Nat × (Nat → Int32) × (Nat → Nat → Int32) × Nat
abbrev aK (A : AS) : Nat → Nat → Int32 := A.1
abbrev aN (A : AS) : Nat := A.2.1
abbrev aU (A : AS) : Nat → Nat → Int32 := A.2.2.1
abbrev aM (A : AS) : Nat := A.2.2.2.1
abbrev aS (A : AS) : Nat → Int32 := A.2.2.2.2.1
abbrev aC (A : AS) : Nat → Nat → Int32 := A.2.2.2.2.2.1
abbrev aR (A : AS) : Nat := A.2.2.2.2.2.2
abbrev rkF (U : Nat → Nat → Int32) : Nat → Int32 := fun r => U r 2
def TabC (I : MI) (R : MR) (b : Nat) (K : Nat → Nat → Int32) (n : Nat) : Prop := ∃ P, TS I R b P n ∧ ∀ j, j < n → ∀ f, f < 4 → I (P j) f = K j f
def RulC (I : MI) (R : MR) (b : Nat) (U : Nat → Nat → Int32) (m : Nat) : Prop := ∃ Q, US I R b Q m ∧ (∀ j, j < m → ∀ f, f < 12 → I (Q j) f = U j f) ∧ ∀ j, j < m → I (b + 25) j = nI (osrt (rkF U) m j)
def LogC (I : MI) (b : Nat) (C : Nat → Nat → Int32) (n : Nat) : Prop := I (b + 38) 3 = nI n ∧ n ≤ 60 ∧ ∀ i, i < n → ∀ w, w < 3 → I (b + 39 + w) i = C i w
def SetC (I : MI) (b : Nat) (S : Nat → Int32) : Prop := ∀ i, i < 6 → I b (3 + i) = S i
def CS (I : MI) (R : MR) (b : Nat) (A : AS) : Prop := SetC I b (aS A) ∧ TabC I R b (aK A) (aN A) ∧ RulC I R b (aU A) (aM A) ∧ LogC I b (aC A) (aR A)
def okU (U : Nat → Nat → Int32) (m : Nat) : Prop := ∀ j, j < m → U j 10 = 0 ∨ U j 10 = 1
/-- the cells from lo to hi are the same -/
def Agr {α : Type} (I I' : Nat → Nat → α) (lo hi : Nat) : Prop := ∀ a, lo ≤ a → a < hi → I' a = I a
def Out {α : Type} (I I' : Nat → Nat → α) (lo hi : Nat) : Prop := ∀ a, a < lo ∨ hi ≤ a → I' a = I a
theorem Out.trans {α : Type} {I I' I2 : Nat → Nat → α} {lo hi : Nat} (h1 : Out I I' lo hi) (h2 : Out I' I2 lo hi) : Out I I2 lo hi := fun a h => (h2 a h).trans (h1 a h)
theorem Out.wide {α : Type} {I I' : Nat → Nat → α} {lo hi lo2 hi2 : Nat} (h : Out I I' lo hi) (h1 : lo2 ≤ lo) (h2 : hi ≤ hi2) : Out I I' lo2 hi2 := fun a ha => h a (by omega)
theorem Out.rf {α : Type} (I : Nat → Nat → α) (lo hi : Nat) : Out I I lo hi := fun _ _ => rfl
theorem Out.up {α : Type} {I I' : Nat → Nat → α} {lo hi a k : Nat} {v : α} (h : Out I I' lo hi) (h1 : lo ≤ a) (h2 : a < hi) : Out I (up2 I' a k v) lo hi := fun c hc => (up2_other I' a k v (by omega)).trans (h c hc)
theorem TabC.agr {I I' : MI} {R R' : MR} {b n : Nat} {K : Nat → Nat → Int32} (h : TabC I R b K n) (h1 : Agr I I' (b + 1) (b + 23)) (h2 : Agr R R' (b + 1) (b + 23)) : TabC I' R' b K n := by
  obtain ⟨P, ⟨e1, e2, e3⟩, e4⟩ := h
  refine ⟨P, ⟨by rw [h1 _ (by omega) (by omega)]; exact e1, e2, fun j hj => by rw [h2 _ (by omega) (by omega)]; exact e3 j hj⟩, fun j hj f hf => ?_⟩
  have := e3 j (by omega)
  rw [h1 _ (by omega) (by omega)]
  exact e4 j hj f hf
theorem RulC.agr {I I' : MI} {R R' : MR} {b m : Nat} {U : Nat → Nat → Int32} (h : RulC I R b U m) (h1 : Agr I I' (b + 23) (b + 38)) (h2 : Agr R R' (b + 23) (b + 38)) : RulC I' R' b U m := by
  obtain ⟨Q, ⟨e1, e2, e3⟩, e4, e5⟩ := h
  refine ⟨Q, ⟨by rw [h1 _ (by omega) (by omega)]; exact e1, e2, fun j hj => by rw [h2 _ (by omega) (by omega)]; exact e3 j hj⟩, fun j hj f hf => ?_, fun j hj => by rw [h1 _ (by omega) (by omega)]; exact e5 j hj⟩
  have := e3 j (by omega)
  rw [h1 _ (by omega) (by omega)]
  exact e4 j hj f hf
theorem LogC.agr {I I' : MI} {b n : Nat} {C : Nat → Nat → Int32} (h : LogC I b C n) (h1 : Agr I I' (b + 38) (b + 42)) : LogC I' b C n := by
  obtain ⟨e1, e2, e3⟩ := h
  exact ⟨by rw [h1 _ (by omega) (by omega)]; exact e1, e2, fun i hi w hw => by rw [h1 _ (by omega) (by omega)]; exact e3 i hi w hw⟩
theorem SetC.agr {I I' : MI} {b : Nat} {S : Nat → Int32} (h : SetC I b S) (h1 : Agr I I' b (b + 1)) : SetC I' b S := fun i hi => by rw [h1 _ (by omega) (by omega)]; exact h i hi
theorem CS.agr {I I' : MI} {R R' : MR} {b : Nat} {A : AS} (h : CS I R b A) (h1 : Agr I I' b (b + 42)) (h2 : Agr R R' b (b + 42)) : CS I' R' b A :=
  ⟨h.1.agr (fun a q1 q2 => h1 a (by omega) (by omega)), h.2.1.agr (fun a q1 q2 => h1 a (by omega) (by omega)) (fun a q1 q2 => h2 a (by omega) (by omega)), h.2.2.1.agr (fun a q1 q2 => h1 a (by omega) (by omega)) (fun a q1 q2 => h2 a (by omega) (by omega)), h.2.2.2.agr (fun a q1 q2 => h1 a (by omega) (by omega))⟩
theorem Agr.rf {α : Type} (I : Nat → Nat → α) (lo hi : Nat) : Agr I I lo hi := fun _ _ _ => rfl
theorem Out.agr {α : Type} {I I' : Nat → Nat → α} {lo hi l2 h2 : Nat} (h : Out I I' lo hi) (hd : h2 ≤ lo ∨ hi ≤ l2) : Agr I I' l2 h2 := fun a q1 q2 => h a (by omega)
/-! what a contract says of a change: no answer, the references as they were, the ints changed within a range alone -/
def Wr (lo hi : Nat) (I : MI) (R : MR) (X : MI → Prop) : Po := fun r g' I' R' => r = none ∧ g0 = g' ∧ R = R' ∧ X I' ∧ Out I I' lo hi
theorem S_tblCopyC (b c n1 n2 : Nat) (K1 K2 : Nat → Nat → Int32) (I : MI) (R : MR) (hB : isB b) (hC : isB c) (hne : b ≠ c) (hFR : FR R) (h1 : TabC I R b K1 n1) (h2 : TabC I R c K2 n2) : Sp 1 0 0 mX8_copyFrom [.ref (b + 1), .ref (c + 1)] g0 I R (Wr (b + 1) (b + 23) I R (fun I' => TabC I' R b K2 n2)) := by
  obtain ⟨P1, t1, k1⟩ := h1
  obtain ⟨P2, t2, k2⟩ := h2
  refine (S_tblCopy b c n1 n2 P1 P2 I R hB hC hne hFR t1 t2).weaken ?_
  rintro r g' I' R' ⟨rfl, rfl, rfl, rfl⟩
  have hdis := isB_dis hB hC hne
  have hp1 := t1.2.2
  have hp2 := t2.2.2
  have hn2 := t2.2.1
  refine ⟨rfl, rfl, rfl, ⟨P1, ⟨?_, hn2, hp1⟩, fun j hj f hf => ?_⟩, fun a ha => ?_⟩
  · rw [cpR_other _ _ _ _ _ _ (fun i hi z => by have := hp1 i (by omega); omega)]
    simp [up2_app]
  · rw [cpR_at _ _ _ _ _ _ _ hj hf (fun x y hx hy e => ((hp1 y (by omega)).2.2.2 x (by omega) e)) (fun x y hx hy z => by have := hp1 y (by omega); have := hp2 x (by omega); omega)]
    have := hp2 j (by omega)
    rw [up2_other _ _ _ _ (by omega)]
    exact k2 j hj f hf
  · funext t
    rw [cpR_other _ _ _ _ _ _ (fun i hi z => by have := hp1 i (by omega); omega), up2_other _ _ _ _ (by omega)]
theorem S_rulesCopyC (b c m1 m2 : Nat) (U1 U2 : Nat → Nat → Int32) (I : MI) (R : MR) (hB : isB b) (hC : isB c) (hne : b ≠ c) (hFR : FR R) (h1 : RulC I R b U1 m1) (h2 : RulC I R c U2 m2) (hok : okU U2 m2) : Sp 3 0 0 mX6_copyFrom [.ref (b + 23), .ref (c + 23)] g0 I R (Wr (b + 23) (b + 38) I R (fun I' => RulC I' R b U2 m2)) := by
  obtain ⟨Q1, t1, k1, o1⟩ := h1
  obtain ⟨Q2, t2, k2, o2⟩ := h2
  refine (S_rulesCopy b c m1 m2 Q1 Q2 I R hB hC hne hFR t1 t2 (fun j hj => by rw [k2 j hj 10 (by decide)]; exact hok j hj)).weaken ?_
  rintro r g' I' R' ⟨rfl, rfl, rfl, rfl⟩
  have hdis := isB_dis hB hC hne
  have hp1 := t1.2.2
  have hp2 := t2.2.2
  have hn2 := t2.2.1
  refine ⟨rfl, rfl, rfl, ⟨Q1, ⟨?_, hn2, hp1⟩, fun j hj f hf => ?_, fun j hj => ?_⟩, fun a ha => ?_⟩
  · rw [cp0_other (by omega), cpR_other _ _ _ _ _ _ (fun i hi z => by have := hp1 i (by omega); omega)]
    simp [up2_app]
  · have h3 := hp1 j (by omega)
    rw [cp0_other (by omega), cpR_at _ _ _ _ _ _ _ hj hf (fun x y hx hy e => ((hp1 y (by omega)).2.2.2 x (by omega) e)) (fun x y hx hy z => by have := hp1 y (by omega); have := hp2 x (by omega); omega)]
    have := hp2 j (by omega)
    rw [up2_other _ _ _ _ (by omega)]
    exact k2 j hj f hf
  · simp only [cp0]
    rw [if_pos ⟨trivial, by omega⟩, cpR_other _ _ _ _ _ _ (fun i hi z => by have := hp1 i (by omega); omega), up2_other _ _ _ _ (by omega)]
    exact o2 j hj
  · funext t
    rw [cp0_other (by omega), cpR_other _ _ _ _ _ _ (fun i hi z => by have := hp1 i (by omega); omega), up2_other _ _ _ _ (by omega)]
theorem cp0_in {I : MI} {x y n t : Nat} (h : t < n) : cp0 I x y n y t = I x t := by simp [cp0, h]
theorem S_logCopyC (b c n2 : Nat) (C2 : Nat → Nat → Int32) (I : MI) (R : MR) (hB : isB b) (hC : isB c) (hne : b ≠ c) (hFR : FR R) (h2 : LogC I c C2 n2) : Sp 1 0 0 mX1_copyFrom [.ref (b + 38), .ref (c + 38)] g0 I R (Wr (b + 38) (b + 42) I R (fun I' => LogC I' b C2 n2)) := by
  obtain ⟨e1, e2, e3⟩ := h2
  refine (S_logCopy b c I R hB hC hFR).weaken ?_
  rintro r g' I' R' ⟨rfl, rfl, rfl, rfl⟩
  have hdis := isB_dis hB hC hne
  refine ⟨rfl, rfl, rfl, ⟨?_, e2, fun i hi w hw => ?_⟩, fun a ha => ?_⟩
  · rw [cp0_other (by omega), cp0_other (by omega), cp0_other (by omega)]
    simp [up2_app, e1]
  · have h0 := e3 i hi w hw
    rcases (show w = 0 ∨ w = 1 ∨ w = 2 by omega) with rfl | rfl | rfl
    · show cp0 _ _ _ _ (b + 39) i = _
      rw [cp0_other (by omega), cp0_other (by omega), cp0_in (by omega), up2_other _ _ _ _ (by omega)]
      exact h0
    · show cp0 _ _ _ _ (b + 40) i = _
      rw [cp0_other (by omega), cp0_in (by omega), cp0_other (by omega), up2_other _ _ _ _ (by omega)]
      exact h0
    · show cp0 _ _ _ _ (b + 41) i = _
      rw [cp0_in (by omega), cp0_other (by omega), cp0_other (by omega), up2_other _ _ _ _ (by omega)]
      exact h0
  · funext t
    rw [cp0_other (by omega), cp0_other (by omega), cp0_other (by omega), up2_other _ _ _ _ (by omega)]
set_option maxRecDepth 100000 in
set_option maxHeartbeats 400000 in
theorem S_stateCopy (b c : Nat) (A1 A2 : AS) (I : MI) (R : MR) (hB : isB b) (hC : isB c) (hne : b ≠ c) (hFR : FR R) (h1 : CS I R b A1) (h2 : CS I R c A2) (hok : okU (aU A2) (aM A2)) : Sp 4 0 0 mX7_copyFrom [.ref b, .ref c] g0 I R (Wr b (b + 42) I R (fun I' => CS I' R b A2)) := by
  have hdis := isB_dis hB hC hne
  have hkb := ka_sta hB
  have hkc := ka_sta hC
  have hk1 := ka_tbl hB
  have hk2 := ka_rls hB
  have hk3 := ka_log hB
  obtain ⟨x0, x1, x2, -, -, -, -, -, -⟩ := hFR.1 b hB
  obtain ⟨y0, y1, y2, -, -, -, -, -, -⟩ := hFR.1 c hC
  obtain ⟨s1, t1, u1, l1⟩ := h1
  obtain ⟨s2, t2, u2, l2⟩ := h2
  refine Sp.on (by decide +kernel) rfl rfl (fun J hM => ?_)
  have hJ := hM.ok
  refine q_aload_n hJ dX7_copyFrom_0 (q := 1) rfl rfl rfl ?_
  refine q_getR hJ dX7_copyFrom_1 (q := 4) rfl fl_X7_12 rfl (by assumption) (by assumption) rfl ?_
  refine q_aload_n hJ dX7_copyFrom_4 (q := 5) rfl rfl rfl ?_
  refine q_getR hJ dX7_copyFrom_5 (q := 8) rfl fl_X7_12 rfl (by assumption) (by assumption) rfl ?_
  refine q_callV hJ dX7_copyFrom_8 (q := 11) rfl (S_tblCopyC b c _ _ _ _ I R hB hC hne hFR t1 t2) imX8_copyFrom ln_X7_36 hk1 (by decide) rfl rfl rfl rfl (Nat.le_of_ble_eq_true rfl) (by decide) (by decide) rfl rfl (fun rv gv Iv Rv hv => ?_)
  obtain ⟨rfl, rfl, rfl, hX1, hO1⟩ := hv
  refine q_aload_n hJ dX7_copyFrom_11 (q := 12) rfl rfl rfl ?_
  refine q_getR hJ dX7_copyFrom_12 (q := 15) rfl fl_X7_21 rfl (by assumption) (by assumption) rfl ?_
  refine q_aload_n hJ dX7_copyFrom_15 (q := 16) rfl rfl rfl ?_
  refine q_getR hJ dX7_copyFrom_16 (q := 19) rfl fl_X7_21 rfl (by assumption) (by assumption) rfl ?_
  refine q_callV hJ dX7_copyFrom_19 (q := 22) rfl (S_rulesCopyC b c _ _ _ _ _ R hB hC hne hFR (u1.agr (hO1.agr (by omega)) (Agr.rf _ _ _)) (u2.agr (hO1.agr (by omega)) (Agr.rf _ _ _)) hok) imX6_copyFrom ln_X7_40 hk2 (by decide) rfl rfl rfl rfl (Nat.le_of_ble_eq_true rfl) (by decide) (by decide) rfl rfl (fun rv gv Iv Rv hv => ?_)
  obtain ⟨rfl, rfl, rfl, hX2, hO2⟩ := hv
  refine q_aload_n hJ dX7_copyFrom_22 (q := 23) rfl rfl rfl ?_
  refine q_getR hJ dX7_copyFrom_23 (q := 26) rfl fl_X7_28 rfl (by assumption) (by assumption) rfl ?_
  refine q_aload_n hJ dX7_copyFrom_26 (q := 27) rfl rfl rfl ?_
  refine q_getR hJ dX7_copyFrom_27 (q := 30) rfl fl_X7_28 rfl (by assumption) (by assumption) rfl ?_
  refine q_callV hJ dX7_copyFrom_30 (q := 33) rfl (S_logCopyC b c _ _ _ R hB hC hne hFR ((l2.agr (hO1.agr (by omega))).agr (hO2.agr (by omega)))) imX1_copyFrom ln_X7_43 hk3 (by decide) rfl rfl rfl rfl (Nat.le_of_ble_eq_true rfl) (by decide) (by decide) rfl rfl (fun rv gv Iv Rv hv => ?_)
  obtain ⟨rfl, rfl, rfl, hX3, hO3⟩ := hv
  have hO : Out I Iv b (b + 42) := ((hO1.wide (by omega) (by omega)).trans (hO2.wide (by omega) (by omega))).trans (hO3.wide (by omega) (by omega))
  have hcI : ∀ j, Iv c j = I c j := fun j => congrFun (hO c (by omega)) j
  refine q_aload_n hJ dX7_copyFrom_33 (q := 34) rfl rfl rfl ?_
  refine q_aload_n hJ dX7_copyFrom_34 (q := 35) rfl rfl rfl ?_
  refine q_getI hJ dX7_copyFrom_35 (q := 38) rfl fl_X7_32 rfl hkc (show _ = aS A2 0 from by (repeat rw [up2_other _ _ _ _ hne.symm]); rw [hcI]; exact s2 0 (by decide)) ?_
  refine q_putI hJ dX7_copyFrom_38 (q := 41) rfl fl_X7_32 rfl rfl hkb rfl rfl ?_
  refine q_aload_n hJ dX7_copyFrom_41 (q := 42) rfl rfl rfl ?_
  refine q_aload_n hJ dX7_copyFrom_42 (q := 43) rfl rfl rfl ?_
  refine q_getI hJ dX7_copyFrom_43 (q := 46) rfl fl_X7_46 rfl hkc (show _ = aS A2 1 from by (repeat rw [up2_other _ _ _ _ hne.symm]); rw [hcI]; exact s2 1 (by decide)) ?_
  refine q_putI hJ dX7_copyFrom_46 (q := 49) rfl fl_X7_46 rfl rfl hkb rfl rfl ?_
  refine q_aload_n hJ dX7_copyFrom_49 (q := 50) rfl rfl rfl ?_
  refine q_aload_n hJ dX7_copyFrom_50 (q := 51) rfl rfl rfl ?_
  refine q_getI hJ dX7_copyFrom_51 (q := 54) rfl fl_X7_49 rfl hkc (show _ = aS A2 2 from by (repeat rw [up2_other _ _ _ _ hne.symm]); rw [hcI]; exact s2 2 (by decide)) ?_
  refine q_putI hJ dX7_copyFrom_54 (q := 57) rfl fl_X7_49 rfl rfl hkb rfl rfl ?_
  refine q_aload_n hJ dX7_copyFrom_57 (q := 58) rfl rfl rfl ?_
  refine q_aload_n hJ dX7_copyFrom_58 (q := 59) rfl rfl rfl ?_
  refine q_getI hJ dX7_copyFrom_59 (q := 62) rfl fl_X7_52 rfl hkc (show _ = aS A2 3 from by (repeat rw [up2_other _ _ _ _ hne.symm]); rw [hcI]; exact s2 3 (by decide)) ?_
  refine q_putI hJ dX7_copyFrom_62 (q := 65) rfl fl_X7_52 rfl rfl hkb rfl rfl ?_
  refine q_aload_n hJ dX7_copyFrom_65 (q := 66) rfl rfl rfl ?_
  refine q_aload_n hJ dX7_copyFrom_66 (q := 67) rfl rfl rfl ?_
  refine q_getI hJ dX7_copyFrom_67 (q := 70) rfl fl_X7_55 rfl hkc (show _ = aS A2 4 from by (repeat rw [up2_other _ _ _ _ hne.symm]); rw [hcI]; exact s2 4 (by decide)) ?_
  refine q_putI hJ dX7_copyFrom_70 (q := 73) rfl fl_X7_55 rfl rfl hkb rfl rfl ?_
  refine q_aload_n hJ dX7_copyFrom_73 (q := 74) rfl rfl rfl ?_
  refine q_aload_n hJ dX7_copyFrom_74 (q := 75) rfl rfl rfl ?_
  refine q_getI hJ dX7_copyFrom_75 (q := 78) rfl fl_X7_58 rfl hkc (show _ = aS A2 5 from by (repeat rw [up2_other _ _ _ _ hne.symm]); rw [hcI]; exact s2 5 (by decide)) ?_
  refine q_putI hJ dX7_copyFrom_78 (q := 81) rfl fl_X7_58 rfl rfl hkb rfl rfl ?_
  refine q_vret hM dX7_copyFrom_81 rfl ?_
  refine ⟨rfl, rfl, rfl, ⟨fun i hi => ?_, ?_, ?_, ?_⟩, ?_⟩
  · rcases (show i = 0 ∨ i = 1 ∨ i = 2 ∨ i = 3 ∨ i = 4 ∨ i = 5 by omega) with rfl | rfl | rfl | rfl | rfl | rfl <;> simp [up2_app]
  · exact hX1.agr (fun a q1 q2 => by rw [up2_other _ _ _ _ (by omega), up2_other _ _ _ _ (by omega), up2_other _ _ _ _ (by omega), up2_other _ _ _ _ (by omega), up2_other _ _ _ _ (by omega), up2_other _ _ _ _ (by omega), hO3 a (by omega), hO2 a (by omega)]) (Agr.rf _ _ _)
  · exact hX2.agr (fun a q1 q2 => by rw [up2_other _ _ _ _ (by omega), up2_other _ _ _ _ (by omega), up2_other _ _ _ _ (by omega), up2_other _ _ _ _ (by omega), up2_other _ _ _ _ (by omega), up2_other _ _ _ _ (by omega), hO3 a (by omega)]) (Agr.rf _ _ _)
  · exact hX3.agr (fun a q1 q2 => by rw [up2_other _ _ _ _ (by omega), up2_other _ _ _ _ (by omega), up2_other _ _ _ _ (by omega), up2_other _ _ _ _ (by omega), up2_other _ _ _ _ (by omega), up2_other _ _ _ _ (by omega)])
  · exact (((((hO.up (by omega) (by omega)).up (by omega) (by omega)).up (by omega) (by omega)).up (by omega) (by omega)).up (by omega) (by omega)).up (by omega) (by omega)

def stTell (A : AS) (w : Int32) : Int32 := if w = 0 then nI (aN A) else if w = 1 then nI (aM A) else if w = 2 then nI (coF (fun j => aU A j 10) (aM A)) else if w = 3 then aS A 0 else if w = 4 then aS A 1 else if w = 5 then aS A 2 else if w = 6 then aS A 3 else if w = 7 then aS A 4 else if w = 8 then aS A 5 else if w = 9 then nI (aR A) else -1002
theorem coF_congr {f f' : Nat → Int32} {k : Nat} (h : ∀ j, j < k → f j = f' j) : coF f k = coF f' k := by
  induction k with
  | zero => rfl
  | succ k ih =>
    unfold coF
    rw [ih (fun j hj => h j (by omega)), h k (by omega)]
theorem S_countOnC (b m : Nat) (U : Nat → Nat → Int32) (I : MI) (R : MR) (hB : isB b) (hFR : FR R) (h : RulC I R b U m) : Sp 1 0 0 mX6_countOn [.ref (b + 23)] g0 I R (Rt (some (.int (nI (coF (fun j => U j 10) m)))) g0 I R) := by
  obtain ⟨Q, t, k, o⟩ := h
  have e : coF (fun j => U j 10) m = coF (fun j => I (Q j) 10) m := coF_congr (fun j hj => (k j hj 10 (by decide)).symm)
  rw [e]
  exact S_countOn b m Q I R hB hFR t
set_option maxRecDepth 100000 in
set_option maxHeartbeats 400000 in
theorem S_stateTell (b : Nat) (A : AS) (w : Int32) (I : MI) (R : MR) (hB : isB b) (hFR : FR R) (h1 : CS I R b A) : Sp 2 0 0 mX7_tell [.ref b, .int w] g0 I R (Rt (some (.int (stTell A w))) g0 I R) := by
  have hkb := ka_sta hB
  have hk1 := ka_tbl hB
  have hk2 := ka_rls hB
  have hk3 := ka_log hB
  obtain ⟨x0, x1, x2, -, -, -, -, -, -⟩ := hFR.1 b hB
  obtain ⟨s1, t1, u1, l1⟩ := h1
  refine Sp.on (by decide +kernel) rfl rfl (fun J hM => ?_)
  have hJ := hM.ok
  refine q_iload_n hJ dX7_tell_0 (q := 1) rfl rfl ?_
  by_cases k1_0 : w = 0
  · refine q_tswIn hJ (off := 55) (tgt := 56) dX7_tell_1 (by rw [k1_0]; decide) (by rw [k1_0]; decide) (by rw [k1_0]; decide) (by decide) ?_
    refine q_aload_n hJ dX7_tell_56 (q := 57) rfl rfl rfl ?_
    refine q_getR hJ dX7_tell_57 (q := 60) rfl fl_X7_12 rfl (by assumption) (by assumption) rfl ?_
    refine q_getI hJ dX7_tell_60 (q := 63) rfl fl_X7_61 rfl hk1 (show I (b + 1) 1 = nI (aN A) from by obtain ⟨P, z, -⟩ := t1; exact z.1) ?_
    refine q_iret hM dX7_tell_63 rfl rfl ?_
    exact ⟨by simp [stTell, *], rfl, rfl, rfl⟩
  by_cases k1_1 : w = 1
  · refine q_tswIn hJ (off := 63) (tgt := 64) dX7_tell_1 (by rw [k1_1]; decide) (by rw [k1_1]; decide) (by rw [k1_1]; decide) (by decide) ?_
    refine q_aload_n hJ dX7_tell_64 (q := 65) rfl rfl rfl ?_
    refine q_getR hJ dX7_tell_65 (q := 68) rfl fl_X7_21 rfl (by assumption) (by assumption) rfl ?_
    refine q_getI hJ dX7_tell_68 (q := 71) rfl fl_X7_64 rfl hk2 (show I (b + 23) 2 = nI (aM A) from by obtain ⟨P, z, -⟩ := u1; exact z.1) ?_
    refine q_iret hM dX7_tell_71 rfl rfl ?_
    exact ⟨by simp [stTell, *], rfl, rfl, rfl⟩
  by_cases k1_2 : w = 2
  · refine q_tswIn hJ (off := 71) (tgt := 72) dX7_tell_1 (by rw [k1_2]; decide) (by rw [k1_2]; decide) (by rw [k1_2]; decide) (by decide) ?_
    refine q_aload_n hJ dX7_tell_72 (q := 73) rfl rfl rfl ?_
    refine q_getR hJ dX7_tell_73 (q := 76) rfl fl_X7_21 rfl (by assumption) (by assumption) rfl ?_
    refine q_callV hJ dX7_tell_76 (q := 79) rfl (S_countOnC b _ _ I R hB hFR u1) imX6_countOn ln_X7_65 hk2 (by decide) rfl rfl rfl rfl (Nat.le_of_ble_eq_true rfl) (by decide) (by decide) rfl rfl (fun rv gv Iv Rv hv => ?_)
    obtain ⟨rfl, rfl, rfl, rfl⟩ := hv
    refine q_iret hM dX7_tell_79 rfl rfl ?_
    exact ⟨by simp [stTell, *], rfl, rfl, rfl⟩
  by_cases k1_3 : w = 3
  · refine q_tswIn hJ (off := 79) (tgt := 80) dX7_tell_1 (by rw [k1_3]; decide) (by rw [k1_3]; decide) (by rw [k1_3]; decide) (by decide) ?_
    refine q_aload_n hJ dX7_tell_80 (q := 81) rfl rfl rfl ?_
    refine q_getI hJ dX7_tell_81 (q := 84) rfl fl_X7_32 rfl (by assumption) (s1 0 (by decide)) ?_
    refine q_iret hM dX7_tell_84 rfl rfl ?_
    exact ⟨by simp [stTell, *], rfl, rfl, rfl⟩
  by_cases k1_4 : w = 4
  · refine q_tswIn hJ (off := 84) (tgt := 85) dX7_tell_1 (by rw [k1_4]; decide) (by rw [k1_4]; decide) (by rw [k1_4]; decide) (by decide) ?_
    refine q_aload_n hJ dX7_tell_85 (q := 86) rfl rfl rfl ?_
    refine q_getI hJ dX7_tell_86 (q := 89) rfl fl_X7_46 rfl (by assumption) (s1 1 (by decide)) ?_
    refine q_iret hM dX7_tell_89 rfl rfl ?_
    exact ⟨by simp [stTell, *], rfl, rfl, rfl⟩
  by_cases k1_5 : w = 5
  · refine q_tswIn hJ (off := 89) (tgt := 90) dX7_tell_1 (by rw [k1_5]; decide) (by rw [k1_5]; decide) (by rw [k1_5]; decide) (by decide) ?_
    refine q_aload_n hJ dX7_tell_90 (q := 91) rfl rfl rfl ?_
    refine q_getI hJ dX7_tell_91 (q := 94) rfl fl_X7_49 rfl (by assumption) (s1 2 (by decide)) ?_
    refine q_iret hM dX7_tell_94 rfl rfl ?_
    exact ⟨by simp [stTell, *], rfl, rfl, rfl⟩
  by_cases k1_6 : w = 6
  · refine q_tswIn hJ (off := 94) (tgt := 95) dX7_tell_1 (by rw [k1_6]; decide) (by rw [k1_6]; decide) (by rw [k1_6]; decide) (by decide) ?_
    refine q_aload_n hJ dX7_tell_95 (q := 96) rfl rfl rfl ?_
    refine q_getI hJ dX7_tell_96 (q := 99) rfl fl_X7_52 rfl (by assumption) (s1 3 (by decide)) ?_
    refine q_iret hM dX7_tell_99 rfl rfl ?_
    exact ⟨by simp [stTell, *], rfl, rfl, rfl⟩
  by_cases k1_7 : w = 7
  · refine q_tswIn hJ (off := 99) (tgt := 100) dX7_tell_1 (by rw [k1_7]; decide) (by rw [k1_7]; decide) (by rw [k1_7]; decide) (by decide) ?_
    refine q_aload_n hJ dX7_tell_100 (q := 101) rfl rfl rfl ?_
    refine q_getI hJ dX7_tell_101 (q := 104) rfl fl_X7_55 rfl (by assumption) (s1 4 (by decide)) ?_
    refine q_iret hM dX7_tell_104 rfl rfl ?_
    exact ⟨by simp [stTell, *], rfl, rfl, rfl⟩
  by_cases k1_8 : w = 8
  · refine q_tswIn hJ (off := 104) (tgt := 105) dX7_tell_1 (by rw [k1_8]; decide) (by rw [k1_8]; decide) (by rw [k1_8]; decide) (by decide) ?_
    refine q_aload_n hJ dX7_tell_105 (q := 106) rfl rfl rfl ?_
    refine q_getI hJ dX7_tell_106 (q := 109) rfl fl_X7_58 rfl (by assumption) (s1 5 (by decide)) ?_
    refine q_iret hM dX7_tell_109 rfl rfl ?_
    exact ⟨by simp [stTell, *], rfl, rfl, rfl⟩
  by_cases k1_9 : w = 9
  · refine q_tswIn hJ (off := 109) (tgt := 110) dX7_tell_1 (by rw [k1_9]; decide) (by rw [k1_9]; decide) (by rw [k1_9]; decide) (by decide) ?_
    refine q_aload_n hJ dX7_tell_110 (q := 111) rfl rfl rfl ?_
    refine q_getR hJ dX7_tell_111 (q := 114) rfl fl_X7_28 rfl (by assumption) (by assumption) rfl ?_
    refine q_getI hJ dX7_tell_114 (q := 117) rfl fl_X7_69 rfl hk3 l1.1 ?_
    refine q_iret hM dX7_tell_117 rfl rfl ?_
    exact ⟨by simp [stTell, *], rfl, rfl, rfl⟩
  refine q_tswOut hJ (tgt := 118) dX7_tell_1 (tsw_out10 k1_0 k1_1 k1_2 k1_3 k1_4 k1_5 k1_6 k1_7 k1_8 k1_9) (by decide) ?_
  refine q_sipush hJ (v := (-1002)) dX7_tell_118 (q := 121) rfl (by decide) ?_
  refine q_iret hM dX7_tell_121 rfl rfl ?_
  exact ⟨by simp [stTell, *], rfl, rfl, rfl⟩
end
