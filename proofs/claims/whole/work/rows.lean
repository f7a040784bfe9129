section
-- ===== PART A: goes FIRST, ahead of the names: the tables' words, and 'selects' of the private methods out of them =====
/-- a private method of a class that the tables say can be made, by its rows of tables_1 -/
def lw_okq (q : MethodName × Nat) : Prop := (q.1.cls ≠ "java/lang/invoke/MethodHandle" ∧ q.1.cls ≠ "java/lang/invoke/VarHandle") ∧ Cond.instantiable q.1.cls q.2 ∈ tables_1 ∧ Cond.privateMethod q.1 ∈ tables_1 ∧ Cond.instanceMethod q.1 ∈ tables_1
theorem lw_p0 : lw_okq (⟨"RuleDepths$History", "dropOldest", "()V"⟩, 2) := ⟨⟨by decide +kernel, by decide +kernel⟩, List.mem_of_getElem? (i := 258) (by decide +kernel), List.mem_of_getElem? (i := 366) (by decide +kernel), List.mem_of_getElem? (i := 367) (by decide +kernel)⟩
theorem lw_p1 : lw_okq (⟨"RuleDepths$RuleList", "sortByRank", "()V"⟩, 3) := ⟨⟨by decide +kernel, by decide +kernel⟩, List.mem_of_getElem? (i := 74) (by decide +kernel), List.mem_of_getElem? (i := 419) (by decide +kernel), List.mem_of_getElem? (i := 420) (by decide +kernel)⟩
theorem lw_p2 : lw_okq (⟨"RuleDepths$RuleList", "rankOf", "(I)I"⟩, 3) := ⟨⟨by decide +kernel, by decide +kernel⟩, List.mem_of_getElem? (i := 74) (by decide +kernel), List.mem_of_getElem? (i := 423) (by decide +kernel), List.mem_of_getElem? (i := 424) (by decide +kernel)⟩
theorem lw_p3 : lw_okq (⟨"RuleDepths$Engine", "run", "(I)I"⟩, 8) := ⟨⟨by decide +kernel, by decide +kernel⟩, List.mem_of_getElem? (i := 24) (by decide +kernel), List.mem_of_getElem? (i := 480) (by decide +kernel), List.mem_of_getElem? (i := 481) (by decide +kernel)⟩
theorem lw_p4 : lw_okq (⟨"RuleDepths$Engine", "begin", "()V"⟩, 8) := ⟨⟨by decide +kernel, by decide +kernel⟩, List.mem_of_getElem? (i := 24) (by decide +kernel), List.mem_of_getElem? (i := 484) (by decide +kernel), List.mem_of_getElem? (i := 485) (by decide +kernel)⟩
theorem lw_p5 : lw_okq (⟨"RuleDepths$Engine", "operate", "(ILRuleDepths$Level;I)V"⟩, 8) := ⟨⟨by decide +kernel, by decide +kernel⟩, List.mem_of_getElem? (i := 24) (by decide +kernel), List.mem_of_getElem? (i := 488) (by decide +kernel), List.mem_of_getElem? (i := 489) (by decide +kernel)⟩
theorem lw_p6 : lw_okq (⟨"RuleDepths$Engine", "refuse", "(II)V"⟩, 8) := ⟨⟨by decide +kernel, by decide +kernel⟩, List.mem_of_getElem? (i := 24) (by decide +kernel), List.mem_of_getElem? (i := 492) (by decide +kernel), List.mem_of_getElem? (i := 493) (by decide +kernel)⟩
theorem lw_p7 : lw_okq (⟨"RuleDepths$Engine", "fireRules", "(IILRuleDepths$Level;)Z"⟩, 8) := ⟨⟨by decide +kernel, by decide +kernel⟩, List.mem_of_getElem? (i := 24) (by decide +kernel), List.mem_of_getElem? (i := 499) (by decide +kernel), List.mem_of_getElem? (i := 500) (by decide +kernel)⟩
theorem lw_p8 : lw_okq (⟨"RuleDepths$Engine", "isHeldBack", "(I)Z"⟩, 8) := ⟨⟨by decide +kernel, by decide +kernel⟩, List.mem_of_getElem? (i := 24) (by decide +kernel), List.mem_of_getElem? (i := 512) (by decide +kernel), List.mem_of_getElem? (i := 513) (by decide +kernel)⟩
theorem lw_p9 : lw_okq (⟨"RuleDepths$Engine", "fire", "(ILRuleDepths$Rule;LRuleDepths$Level;)Z"⟩, 8) := ⟨⟨by decide +kernel, by decide +kernel⟩, List.mem_of_getElem? (i := 24) (by decide +kernel), List.mem_of_getElem? (i := 524) (by decide +kernel), List.mem_of_getElem? (i := 525) (by decide +kernel)⟩
theorem lw_p10 : lw_okq (⟨"RuleDepths$Engine", "cause", "(ILRuleDepths$Rule;LRuleDepths$Level;)V"⟩, 8) := ⟨⟨by decide +kernel, by decide +kernel⟩, List.mem_of_getElem? (i := 24) (by decide +kernel), List.mem_of_getElem? (i := 544) (by decide +kernel), List.mem_of_getElem? (i := 545) (by decide +kernel)⟩
theorem lw_p11 : lw_okq (⟨"RuleDepths$Engine", "prepareCaused", "(LRuleDepths$Rule;LRuleDepths$Row;LRuleDepths$Row;)Z"⟩, 8) := ⟨⟨by decide +kernel, by decide +kernel⟩, List.mem_of_getElem? (i := 24) (by decide +kernel), List.mem_of_getElem? (i := 548) (by decide +kernel), List.mem_of_getElem? (i := 549) (by decide +kernel)⟩
theorem lw_p12 : lw_okq (⟨"RuleDepths$Engine", "canTake", "(I)Z"⟩, 8) := ⟨⟨by decide +kernel, by decide +kernel⟩, List.mem_of_getElem? (i := 24) (by decide +kernel), List.mem_of_getElem? (i := 553) (by decide +kernel), List.mem_of_getElem? (i := 554) (by decide +kernel)⟩
theorem lw_p13 : lw_okq (⟨"RuleDepths$Engine", "prepareUpdate", "(LRuleDepths$Row;III)Z"⟩, 8) := ⟨⟨by decide +kernel, by decide +kernel⟩, List.mem_of_getElem? (i := 24) (by decide +kernel), List.mem_of_getElem? (i := 557) (by decide +kernel), List.mem_of_getElem? (i := 558) (by decide +kernel)⟩
theorem lw_p14 : lw_okq (⟨"RuleDepths$Engine", "prepareDelete", "(LRuleDepths$Row;I)Z"⟩, 8) := ⟨⟨by decide +kernel, by decide +kernel⟩, List.mem_of_getElem? (i := 24) (by decide +kernel), List.mem_of_getElem? (i := 562) (by decide +kernel), List.mem_of_getElem? (i := 563) (by decide +kernel)⟩
theorem lw_p15 : lw_okq (⟨"RuleDepths$Engine", "mark", "(IZ)V"⟩, 8) := ⟨⟨by decide +kernel, by decide +kernel⟩, List.mem_of_getElem? (i := 24) (by decide +kernel), List.mem_of_getElem? (i := 566) (by decide +kernel), List.mem_of_getElem? (i := 567) (by decide +kernel)⟩
def lw_privs_1 : List (MethodName × Nat) := [(⟨"RuleDepths$History", "dropOldest", "()V"⟩, 2), (⟨"RuleDepths$RuleList", "sortByRank", "()V"⟩, 3), (⟨"RuleDepths$RuleList", "rankOf", "(I)I"⟩, 3), (⟨"RuleDepths$Engine", "run", "(I)I"⟩, 8), (⟨"RuleDepths$Engine", "begin", "()V"⟩, 8), (⟨"RuleDepths$Engine", "operate", "(ILRuleDepths$Level;I)V"⟩, 8), (⟨"RuleDepths$Engine", "refuse", "(II)V"⟩, 8), (⟨"RuleDepths$Engine", "fireRules", "(IILRuleDepths$Level;)Z"⟩, 8), (⟨"RuleDepths$Engine", "isHeldBack", "(I)Z"⟩, 8), (⟨"RuleDepths$Engine", "fire", "(ILRuleDepths$Rule;LRuleDepths$Level;)Z"⟩, 8), (⟨"RuleDepths$Engine", "cause", "(ILRuleDepths$Rule;LRuleDepths$Level;)V"⟩, 8), (⟨"RuleDepths$Engine", "prepareCaused", "(LRuleDepths$Rule;LRuleDepths$Row;LRuleDepths$Row;)Z"⟩, 8), (⟨"RuleDepths$Engine", "canTake", "(I)Z"⟩, 8), (⟨"RuleDepths$Engine", "prepareUpdate", "(LRuleDepths$Row;III)Z"⟩, 8), (⟨"RuleDepths$Engine", "prepareDelete", "(LRuleDepths$Row;I)Z"⟩, 8), (⟨"RuleDepths$Engine", "mark", "(IZ)V"⟩, 8)]
theorem lw_r1 : ∀ q ∈ lw_privs_1, lw_okq q := List.forall_mem_cons.mpr ⟨lw_p0, List.forall_mem_cons.mpr ⟨lw_p1, List.forall_mem_cons.mpr ⟨lw_p2, List.forall_mem_cons.mpr ⟨lw_p3, List.forall_mem_cons.mpr ⟨lw_p4, List.forall_mem_cons.mpr ⟨lw_p5, List.forall_mem_cons.mpr ⟨lw_p6, List.forall_mem_cons.mpr ⟨lw_p7, List.forall_mem_cons.mpr ⟨lw_p8, List.forall_mem_cons.mpr ⟨lw_p9, List.forall_mem_cons.mpr ⟨lw_p10, List.forall_mem_cons.mpr ⟨lw_p11, List.forall_mem_cons.mpr ⟨lw_p12, List.forall_mem_cons.mpr ⟨lw_p13, List.forall_mem_cons.mpr ⟨lw_p14, List.forall_mem_cons.mpr ⟨lw_p15, fun _ h => absurd h List.not_mem_nil⟩⟩⟩⟩⟩⟩⟩⟩⟩⟩⟩⟩⟩⟩⟩⟩
theorem lw_p16 : lw_okq (⟨"RuleDepths$Engine", "carryOut", "(ILRuleDepths$Row;)V"⟩, 8) := ⟨⟨by decide +kernel, by decide +kernel⟩, List.mem_of_getElem? (i := 24) (by decide +kernel), List.mem_of_getElem? (i := 570) (by decide +kernel), List.mem_of_getElem? (i := 571) (by decide +kernel)⟩
theorem lw_p17 : lw_okq (⟨"RuleDepths", "settle", "(I)I"⟩, 6) := ⟨⟨by decide +kernel, by decide +kernel⟩, List.mem_of_getElem? (i := 16) (by decide +kernel), List.mem_of_getElem? (i := 582) (by decide +kernel), List.mem_of_getElem? (i := 583) (by decide +kernel)⟩
theorem lw_p18 : lw_okq (⟨"RuleDepths$Text", "pass", "(C)V"⟩, 10) := ⟨⟨by decide +kernel, by decide +kernel⟩, List.mem_of_getElem? (i := 275) (by decide +kernel), List.mem_of_getElem? (i := 638) (by decide +kernel), List.mem_of_getElem? (i := 639) (by decide +kernel)⟩
theorem lw_p19 : lw_okq (⟨"RuleDepths$Text", "here", "()I"⟩, 10) := ⟨⟨by decide +kernel, by decide +kernel⟩, List.mem_of_getElem? (i := 275) (by decide +kernel), List.mem_of_getElem? (i := 642) (by decide +kernel), List.mem_of_getElem? (i := 643) (by decide +kernel)⟩
theorem lw_p20 : lw_okq (⟨"RuleDepths$Text", "readInsert", "()V"⟩, 10) := ⟨⟨by decide +kernel, by decide +kernel⟩, List.mem_of_getElem? (i := 275) (by decide +kernel), List.mem_of_getElem? (i := 646) (by decide +kernel), List.mem_of_getElem? (i := 647) (by decide +kernel)⟩
theorem lw_p21 : lw_okq (⟨"RuleDepths$Text", "readNumber", "(I)I"⟩, 10) := ⟨⟨by decide +kernel, by decide +kernel⟩, List.mem_of_getElem? (i := 275) (by decide +kernel), List.mem_of_getElem? (i := 650) (by decide +kernel), List.mem_of_getElem? (i := 651) (by decide +kernel)⟩
theorem lw_p22 : lw_okq (⟨"RuleDepths$Text", "readDigit", "(I)I"⟩, 10) := ⟨⟨by decide +kernel, by decide +kernel⟩, List.mem_of_getElem? (i := 275) (by decide +kernel), List.mem_of_getElem? (i := 654) (by decide +kernel), List.mem_of_getElem? (i := 655) (by decide +kernel)⟩
theorem lw_p23 : lw_okq (⟨"RuleDepths$Text", "readValue", "()I"⟩, 10) := ⟨⟨by decide +kernel, by decide +kernel⟩, List.mem_of_getElem? (i := 275) (by decide +kernel), List.mem_of_getElem? (i := 661) (by decide +kernel), List.mem_of_getElem? (i := 662) (by decide +kernel)⟩
theorem lw_p24 : lw_okq (⟨"RuleDepths$Text", "readUpdate", "()V"⟩, 10) := ⟨⟨by decide +kernel, by decide +kernel⟩, List.mem_of_getElem? (i := 275) (by decide +kernel), List.mem_of_getElem? (i := 665) (by decide +kernel), List.mem_of_getElem? (i := 666) (by decide +kernel)⟩
theorem lw_p25 : lw_okq (⟨"RuleDepths", "performStatement", "()I"⟩, 6) := ⟨⟨by decide +kernel, by decide +kernel⟩, List.mem_of_getElem? (i := 16) (by decide +kernel), List.mem_of_getElem? (i := 671) (by decide +kernel), List.mem_of_getElem? (i := 672) (by decide +kernel)⟩
theorem lw_p26 : lw_okq (⟨"RuleDepthsModel", "whyNotInsertHere", "(IIII)I"⟩, 13) := ⟨⟨by decide +kernel, by decide +kernel⟩, List.mem_of_getElem? (i := 763) (by decide +kernel), List.mem_of_getElem? (i := 813) (by decide +kernel), List.mem_of_getElem? (i := 814) (by decide +kernel)⟩
theorem lw_p27 : lw_okq (⟨"RuleDepthsModel", "whyNotInsert", "(II)I"⟩, 13) := ⟨⟨by decide +kernel, by decide +kernel⟩, List.mem_of_getElem? (i := 763) (by decide +kernel), List.mem_of_getElem? (i := 826) (by decide +kernel), List.mem_of_getElem? (i := 827) (by decide +kernel)⟩
theorem lw_p28 : lw_okq (⟨"RuleDepthsModel", "rowOf", "(II)I"⟩, 13) := ⟨⟨by decide +kernel, by decide +kernel⟩, List.mem_of_getElem? (i := 763) (by decide +kernel), List.mem_of_getElem? (i := 830) (by decide +kernel), List.mem_of_getElem? (i := 831) (by decide +kernel)⟩
theorem lw_p29 : lw_okq (⟨"RuleDepthsModel", "copies", "(II)V"⟩, 13) := ⟨⟨by decide +kernel, by decide +kernel⟩, List.mem_of_getElem? (i := 763) (by decide +kernel), List.mem_of_getElem? (i := 834) (by decide +kernel), List.mem_of_getElem? (i := 835) (by decide +kernel)⟩
theorem lw_p30 : lw_okq (⟨"RuleDepthsModel", "runsInsert", "(IIIII)V"⟩, 13) := ⟨⟨by decide +kernel, by decide +kernel⟩, List.mem_of_getElem? (i := 763) (by decide +kernel), List.mem_of_getElem? (i := 838) (by decide +kernel), List.mem_of_getElem? (i := 839) (by decide +kernel)⟩
theorem lw_p31 : lw_okq (⟨"RuleDepthsModel", "asks", "(IIII)V"⟩, 13) := ⟨⟨by decide +kernel, by decide +kernel⟩, List.mem_of_getElem? (i := 763) (by decide +kernel), List.mem_of_getElem? (i := 842) (by decide +kernel), List.mem_of_getElem? (i := 843) (by decide +kernel)⟩
def lw_privs_2 : List (MethodName × Nat) := [(⟨"RuleDepths$Engine", "carryOut", "(ILRuleDepths$Row;)V"⟩, 8), (⟨"RuleDepths", "settle", "(I)I"⟩, 6), (⟨"RuleDepths$Text", "pass", "(C)V"⟩, 10), (⟨"RuleDepths$Text", "here", "()I"⟩, 10), (⟨"RuleDepths$Text", "readInsert", "()V"⟩, 10), (⟨"RuleDepths$Text", "readNumber", "(I)I"⟩, 10), (⟨"RuleDepths$Text", "readDigit", "(I)I"⟩, 10), (⟨"RuleDepths$Text", "readValue", "()I"⟩, 10), (⟨"RuleDepths$Text", "readUpdate", "()V"⟩, 10), (⟨"RuleDepths", "performStatement", "()I"⟩, 6), (⟨"RuleDepthsModel", "whyNotInsertHere", "(IIII)I"⟩, 13), (⟨"RuleDepthsModel", "whyNotInsert", "(II)I"⟩, 13), (⟨"RuleDepthsModel", "rowOf", "(II)I"⟩, 13), (⟨"RuleDepthsModel", "copies", "(II)V"⟩, 13), (⟨"RuleDepthsModel", "runsInsert", "(IIIII)V"⟩, 13), (⟨"RuleDepthsModel", "asks", "(IIII)V"⟩, 13)]
theorem lw_r2 : ∀ q ∈ lw_privs_2, lw_okq q := List.forall_mem_cons.mpr ⟨lw_p16, List.forall_mem_cons.mpr ⟨lw_p17, List.forall_mem_cons.mpr ⟨lw_p18, List.forall_mem_cons.mpr ⟨lw_p19, List.forall_mem_cons.mpr ⟨lw_p20, List.forall_mem_cons.mpr ⟨lw_p21, List.forall_mem_cons.mpr ⟨lw_p22, List.forall_mem_cons.mpr ⟨lw_p23, List.forall_mem_cons.mpr ⟨lw_p24, List.forall_mem_cons.mpr ⟨lw_p25, List.forall_mem_cons.mpr ⟨lw_p26, List.forall_mem_cons.mpr ⟨lw_p27, List.forall_mem_cons.mpr ⟨lw_p28, List.forall_mem_cons.mpr ⟨lw_p29, List.forall_mem_cons.mpr ⟨lw_p30, List.forall_mem_cons.mpr ⟨lw_p31, fun _ h => absurd h List.not_mem_nil⟩⟩⟩⟩⟩⟩⟩⟩⟩⟩⟩⟩⟩⟩⟩⟩
theorem lw_p32 : lw_okq (⟨"RuleDepthsModel", "runs", "(III)V"⟩, 13) := ⟨⟨by decide +kernel, by decide +kernel⟩, List.mem_of_getElem? (i := 763) (by decide +kernel), List.mem_of_getElem? (i := 846) (by decide +kernel), List.mem_of_getElem? (i := 847) (by decide +kernel)⟩
theorem lw_p33 : lw_okq (⟨"RuleDepthsModel", "begins", "(IIII)Z"⟩, 13) := ⟨⟨by decide +kernel, by decide +kernel⟩, List.mem_of_getElem? (i := 763) (by decide +kernel), List.mem_of_getElem? (i := 850) (by decide +kernel), List.mem_of_getElem? (i := 851) (by decide +kernel)⟩
theorem lw_p34 : lw_okq (⟨"RuleDepthsModel", "isNothing", "(IIII)Z"⟩, 13) := ⟨⟨by decide +kernel, by decide +kernel⟩, List.mem_of_getElem? (i := 763) (by decide +kernel), List.mem_of_getElem? (i := 854) (by decide +kernel), List.mem_of_getElem? (i := 855) (by decide +kernel)⟩
theorem lw_p35 : lw_okq (⟨"RuleDepthsModel", "refuses", "(II)V"⟩, 13) := ⟨⟨by decide +kernel, by decide +kernel⟩, List.mem_of_getElem? (i := 763) (by decide +kernel), List.mem_of_getElem? (i := 858) (by decide +kernel), List.mem_of_getElem? (i := 859) (by decide +kernel)⟩
theorem lw_p36 : lw_okq (⟨"RuleDepthsModel", "goes", "(II)I"⟩, 13) := ⟨⟨by decide +kernel, by decide +kernel⟩, List.mem_of_getElem? (i := 763) (by decide +kernel), List.mem_of_getElem? (i := 862) (by decide +kernel), List.mem_of_getElem? (i := 863) (by decide +kernel)⟩
theorem lw_p37 : lw_okq (⟨"RuleDepthsModel", "orderAt", "(IIII)I"⟩, 13) := ⟨⟨by decide +kernel, by decide +kernel⟩, List.mem_of_getElem? (i := 763) (by decide +kernel), List.mem_of_getElem? (i := 866) (by decide +kernel), List.mem_of_getElem? (i := 867) (by decide +kernel)⟩
theorem lw_p38 : lw_okq (⟨"RuleDepthsModel", "isOf", "(IIII)Z"⟩, 13) := ⟨⟨by decide +kernel, by decide +kernel⟩, List.mem_of_getElem? (i := 763) (by decide +kernel), List.mem_of_getElem? (i := 873) (by decide +kernel), List.mem_of_getElem? (i := 874) (by decide +kernel)⟩
theorem lw_p39 : lw_okq (⟨"RuleDepthsModel", "carriesOut", "(II)V"⟩, 13) := ⟨⟨by decide +kernel, by decide +kernel⟩, List.mem_of_getElem? (i := 763) (by decide +kernel), List.mem_of_getElem? (i := 877) (by decide +kernel), List.mem_of_getElem? (i := 878) (by decide +kernel)⟩
theorem lw_p40 : lw_okq (⟨"RuleDepthsModel", "fires", "(III)Z"⟩, 13) := ⟨⟨by decide +kernel, by decide +kernel⟩, List.mem_of_getElem? (i := 763) (by decide +kernel), List.mem_of_getElem? (i := 881) (by decide +kernel), List.mem_of_getElem? (i := 882) (by decide +kernel)⟩
theorem lw_p41 : lw_okq (⟨"RuleDepthsModel", "isFiring", "(II)Z"⟩, 13) := ⟨⟨by decide +kernel, by decide +kernel⟩, List.mem_of_getElem? (i := 763) (by decide +kernel), List.mem_of_getElem? (i := 885) (by decide +kernel), List.mem_of_getElem? (i := 886) (by decide +kernel)⟩
theorem lw_p42 : lw_okq (⟨"RuleDepthsModel", "image", "(II)I"⟩, 13) := ⟨⟨by decide +kernel, by decide +kernel⟩, List.mem_of_getElem? (i := 763) (by decide +kernel), List.mem_of_getElem? (i := 889) (by decide +kernel), List.mem_of_getElem? (i := 890) (by decide +kernel)⟩
theorem lw_p43 : lw_okq (⟨"RuleDepthsModel", "acts", "(III)I"⟩, 13) := ⟨⟨by decide +kernel, by decide +kernel⟩, List.mem_of_getElem? (i := 763) (by decide +kernel), List.mem_of_getElem? (i := 896) (by decide +kernel), List.mem_of_getElem? (i := 897) (by decide +kernel)⟩
theorem lw_p44 : lw_okq (⟨"RuleDepthsModel", "valueOf", "(III)I"⟩, 13) := ⟨⟨by decide +kernel, by decide +kernel⟩, List.mem_of_getElem? (i := 763) (by decide +kernel), List.mem_of_getElem? (i := 900) (by decide +kernel), List.mem_of_getElem? (i := 901) (by decide +kernel)⟩
theorem lw_p45 : lw_okq (⟨"RuleDepthsModel", "counts", "(III)V"⟩, 13) := ⟨⟨by decide +kernel, by decide +kernel⟩, List.mem_of_getElem? (i := 763) (by decide +kernel), List.mem_of_getElem? (i := 904) (by decide +kernel), List.mem_of_getElem? (i := 905) (by decide +kernel)⟩
theorem lw_p46 : lw_okq (⟨"RuleDepthsModel", "operates", "(IIII)Z"⟩, 13) := ⟨⟨by decide +kernel, by decide +kernel⟩, List.mem_of_getElem? (i := 763) (by decide +kernel), List.mem_of_getElem? (i := 908) (by decide +kernel), List.mem_of_getElem? (i := 909) (by decide +kernel)⟩
theorem lw_p47 : lw_okq (⟨"RuleDepthsModel", "ends", "()I"⟩, 13) := ⟨⟨by decide +kernel, by decide +kernel⟩, List.mem_of_getElem? (i := 763) (by decide +kernel), List.mem_of_getElem? (i := 912) (by decide +kernel), List.mem_of_getElem? (i := 913) (by decide +kernel)⟩
def lw_privs_3 : List (MethodName × Nat) := [(⟨"RuleDepthsModel", "runs", "(III)V"⟩, 13), (⟨"RuleDepthsModel", "begins", "(IIII)Z"⟩, 13), (⟨"RuleDepthsModel", "isNothing", "(IIII)Z"⟩, 13), (⟨"RuleDepthsModel", "refuses", "(II)V"⟩, 13), (⟨"RuleDepthsModel", "goes", "(II)I"⟩, 13), (⟨"RuleDepthsModel", "orderAt", "(IIII)I"⟩, 13), (⟨"RuleDepthsModel", "isOf", "(IIII)Z"⟩, 13), (⟨"RuleDepthsModel", "carriesOut", "(II)V"⟩, 13), (⟨"RuleDepthsModel", "fires", "(III)Z"⟩, 13), (⟨"RuleDepthsModel", "isFiring", "(II)Z"⟩, 13), (⟨"RuleDepthsModel", "image", "(II)I"⟩, 13), (⟨"RuleDepthsModel", "acts", "(III)I"⟩, 13), (⟨"RuleDepthsModel", "valueOf", "(III)I"⟩, 13), (⟨"RuleDepthsModel", "counts", "(III)V"⟩, 13), (⟨"RuleDepthsModel", "operates", "(IIII)Z"⟩, 13), (⟨"RuleDepthsModel", "ends", "()I"⟩, 13)]
theorem lw_r3 : ∀ q ∈ lw_privs_3, lw_okq q := List.forall_mem_cons.mpr ⟨lw_p32, List.forall_mem_cons.mpr ⟨lw_p33, List.forall_mem_cons.mpr ⟨lw_p34, List.forall_mem_cons.mpr ⟨lw_p35, List.forall_mem_cons.mpr ⟨lw_p36, List.forall_mem_cons.mpr ⟨lw_p37, List.forall_mem_cons.mpr ⟨lw_p38, List.forall_mem_cons.mpr ⟨lw_p39, List.forall_mem_cons.mpr ⟨lw_p40, List.forall_mem_cons.mpr ⟨lw_p41, List.forall_mem_cons.mpr ⟨lw_p42, List.forall_mem_cons.mpr ⟨lw_p43, List.forall_mem_cons.mpr ⟨lw_p44, List.forall_mem_cons.mpr ⟨lw_p45, List.forall_mem_cons.mpr ⟨lw_p46, List.forall_mem_cons.mpr ⟨lw_p47, fun _ h => absurd h List.not_mem_nil⟩⟩⟩⟩⟩⟩⟩⟩⟩⟩⟩⟩⟩⟩⟩⟩
theorem lw_p48 : lw_okq (⟨"RuleDepthsModel", "lays", "()V"⟩, 13) := ⟨⟨by decide +kernel, by decide +kernel⟩, List.mem_of_getElem? (i := 763) (by decide +kernel), List.mem_of_getElem? (i := 916) (by decide +kernel), List.mem_of_getElem? (i := 917) (by decide +kernel)⟩
theorem lw_p49 : lw_okq (⟨"RuleDepthsModel", "remembers", "()V"⟩, 13) := ⟨⟨by decide +kernel, by decide +kernel⟩, List.mem_of_getElem? (i := 763) (by decide +kernel), List.mem_of_getElem? (i := 920) (by decide +kernel), List.mem_of_getElem? (i := 921) (by decide +kernel)⟩
theorem lw_p50 : lw_okq (⟨"RuleDepthsModel", "whyNotUpdateHere", "(III)I"⟩, 13) := ⟨⟨by decide +kernel, by decide +kernel⟩, List.mem_of_getElem? (i := 763) (by decide +kernel), List.mem_of_getElem? (i := 928) (by decide +kernel), List.mem_of_getElem? (i := 929) (by decide +kernel)⟩
theorem lw_p51 : lw_okq (⟨"RuleDepthsModel", "whyNotUpdate", "(IIII)I"⟩, 13) := ⟨⟨by decide +kernel, by decide +kernel⟩, List.mem_of_getElem? (i := 763) (by decide +kernel), List.mem_of_getElem? (i := 932) (by decide +kernel), List.mem_of_getElem? (i := 933) (by decide +kernel)⟩
theorem lw_p52 : lw_okq (⟨"RuleDepthsModel", "runsUpdate", "(IIII)V"⟩, 13) := ⟨⟨by decide +kernel, by decide +kernel⟩, List.mem_of_getElem? (i := 763) (by decide +kernel), List.mem_of_getElem? (i := 936) (by decide +kernel), List.mem_of_getElem? (i := 937) (by decide +kernel)⟩
theorem lw_p53 : lw_okq (⟨"RuleDepthsModel", "runsDelete", "(II)V"⟩, 13) := ⟨⟨by decide +kernel, by decide +kernel⟩, List.mem_of_getElem? (i := 763) (by decide +kernel), List.mem_of_getElem? (i := 944) (by decide +kernel), List.mem_of_getElem? (i := 945) (by decide +kernel)⟩
theorem lw_p54 : lw_okq (⟨"RuleDepthsModel", "isRule", "(I)Z"⟩, 13) := ⟨⟨by decide +kernel, by decide +kernel⟩, List.mem_of_getElem? (i := 763) (by decide +kernel), List.mem_of_getElem? (i := 956) (by decide +kernel), List.mem_of_getElem? (i := 957) (by decide +kernel)⟩
theorem lw_p55 : lw_okq (⟨"RuleDepthsModel", "rulesOn", "()I"⟩, 13) := ⟨⟨by decide +kernel, by decide +kernel⟩, List.mem_of_getElem? (i := 763) (by decide +kernel), List.mem_of_getElem? (i := 964) (by decide +kernel), List.mem_of_getElem? (i := 965) (by decide +kernel)⟩
theorem lw_p56 : lw_okq (⟨"RuleDepthsModel", "fault", "()I"⟩, 13) := ⟨⟨by decide +kernel, by decide +kernel⟩, List.mem_of_getElem? (i := 763) (by decide +kernel), List.mem_of_getElem? (i := 988) (by decide +kernel), List.mem_of_getElem? (i := 989) (by decide +kernel)⟩
theorem lw_p57 : lw_okq (⟨"RuleDepthsModel", "statementEnd", "(I)I"⟩, 13) := ⟨⟨by decide +kernel, by decide +kernel⟩, List.mem_of_getElem? (i := 763) (by decide +kernel), List.mem_of_getElem? (i := 992) (by decide +kernel), List.mem_of_getElem? (i := 993) (by decide +kernel)⟩
theorem lw_p58 : lw_okq (⟨"RuleDepthsModel", "sign", "(I)I"⟩, 13) := ⟨⟨by decide +kernel, by decide +kernel⟩, List.mem_of_getElem? (i := 763) (by decide +kernel), List.mem_of_getElem? (i := 996) (by decide +kernel), List.mem_of_getElem? (i := 997) (by decide +kernel)⟩
theorem lw_p59 : lw_okq (⟨"RuleDepthsModel", "insertEnd", "(I)I"⟩, 13) := ⟨⟨by decide +kernel, by decide +kernel⟩, List.mem_of_getElem? (i := 763) (by decide +kernel), List.mem_of_getElem? (i := 1000) (by decide +kernel), List.mem_of_getElem? (i := 1001) (by decide +kernel)⟩
theorem lw_p60 : lw_okq (⟨"RuleDepthsModel", "numberEnd", "(II)I"⟩, 13) := ⟨⟨by decide +kernel, by decide +kernel⟩, List.mem_of_getElem? (i := 763) (by decide +kernel), List.mem_of_getElem? (i := 1004) (by decide +kernel), List.mem_of_getElem? (i := 1005) (by decide +kernel)⟩
theorem lw_p61 : lw_okq (⟨"RuleDepthsModel", "digit", "(I)I"⟩, 13) := ⟨⟨by decide +kernel, by decide +kernel⟩, List.mem_of_getElem? (i := 763) (by decide +kernel), List.mem_of_getElem? (i := 1008) (by decide +kernel), List.mem_of_getElem? (i := 1009) (by decide +kernel)⟩
theorem lw_p62 : lw_okq (⟨"RuleDepthsModel", "valueBehind", "(II)I"⟩, 13) := ⟨⟨by decide +kernel, by decide +kernel⟩, List.mem_of_getElem? (i := 763) (by decide +kernel), List.mem_of_getElem? (i := 1012) (by decide +kernel), List.mem_of_getElem? (i := 1013) (by decide +kernel)⟩
theorem lw_p63 : lw_okq (⟨"RuleDepthsModel", "behind", "(II)I"⟩, 13) := ⟨⟨by decide +kernel, by decide +kernel⟩, List.mem_of_getElem? (i := 763) (by decide +kernel), List.mem_of_getElem? (i := 1016) (by decide +kernel), List.mem_of_getElem? (i := 1017) (by decide +kernel)⟩
def lw_privs_4 : List (MethodName × Nat) := [(⟨"RuleDepthsModel", "lays", "()V"⟩, 13), (⟨"RuleDepthsModel", "remembers", "()V"⟩, 13), (⟨"RuleDepthsModel", "whyNotUpdateHere", "(III)I"⟩, 13), (⟨"RuleDepthsModel", "whyNotUpdate", "(IIII)I"⟩, 13), (⟨"RuleDepthsModel", "runsUpdate", "(IIII)V"⟩, 13), (⟨"RuleDepthsModel", "runsDelete", "(II)V"⟩, 13), (⟨"RuleDepthsModel", "isRule", "(I)Z"⟩, 13), (⟨"RuleDepthsModel", "rulesOn", "()I"⟩, 13), (⟨"RuleDepthsModel", "fault", "()I"⟩, 13), (⟨"RuleDepthsModel", "statementEnd", "(I)I"⟩, 13), (⟨"RuleDepthsModel", "sign", "(I)I"⟩, 13), (⟨"RuleDepthsModel", "insertEnd", "(I)I"⟩, 13), (⟨"RuleDepthsModel", "numberEnd", "(II)I"⟩, 13), (⟨"RuleDepthsModel", "digit", "(I)I"⟩, 13), (⟨"RuleDepthsModel", "valueBehind", "(II)I"⟩, 13), (⟨"RuleDepthsModel", "behind", "(II)I"⟩, 13)]
theorem lw_r4 : ∀ q ∈ lw_privs_4, lw_okq q := List.forall_mem_cons.mpr ⟨lw_p48, List.forall_mem_cons.mpr ⟨lw_p49, List.forall_mem_cons.mpr ⟨lw_p50, List.forall_mem_cons.mpr ⟨lw_p51, List.forall_mem_cons.mpr ⟨lw_p52, List.forall_mem_cons.mpr ⟨lw_p53, List.forall_mem_cons.mpr ⟨lw_p54, List.forall_mem_cons.mpr ⟨lw_p55, List.forall_mem_cons.mpr ⟨lw_p56, List.forall_mem_cons.mpr ⟨lw_p57, List.forall_mem_cons.mpr ⟨lw_p58, List.forall_mem_cons.mpr ⟨lw_p59, List.forall_mem_cons.mpr ⟨lw_p60, List.forall_mem_cons.mpr ⟨lw_p61, List.forall_mem_cons.mpr ⟨lw_p62, List.forall_mem_cons.mpr ⟨lw_p63, fun _ h => absurd h List.not_mem_nil⟩⟩⟩⟩⟩⟩⟩⟩⟩⟩⟩⟩⟩⟩⟩⟩
theorem lw_p64 : lw_okq (⟨"RuleDepthsModel", "valueEnd", "(I)I"⟩, 13) := ⟨⟨by decide +kernel, by decide +kernel⟩, List.mem_of_getElem? (i := 763) (by decide +kernel), List.mem_of_getElem? (i := 1020) (by decide +kernel), List.mem_of_getElem? (i := 1021) (by decide +kernel)⟩
theorem lw_p65 : lw_okq (⟨"RuleDepthsModel", "updateEnd", "(I)I"⟩, 13) := ⟨⟨by decide +kernel, by decide +kernel⟩, List.mem_of_getElem? (i := 763) (by decide +kernel), List.mem_of_getElem? (i := 1024) (by decide +kernel), List.mem_of_getElem? (i := 1025) (by decide +kernel)⟩
theorem lw_p66 : lw_okq (⟨"RuleDepthsModel", "does", "(I)I"⟩, 13) := ⟨⟨by decide +kernel, by decide +kernel⟩, List.mem_of_getElem? (i := 763) (by decide +kernel), List.mem_of_getElem? (i := 1028) (by decide +kernel), List.mem_of_getElem? (i := 1029) (by decide +kernel)⟩
theorem lw_p67 : lw_okq (⟨"RuleDepthsModel", "numberAt", "(I)I"⟩, 13) := ⟨⟨by decide +kernel, by decide +kernel⟩, List.mem_of_getElem? (i := 763) (by decide +kernel), List.mem_of_getElem? (i := 1032) (by decide +kernel), List.mem_of_getElem? (i := 1033) (by decide +kernel)⟩
theorem lw_p68 : lw_okq (⟨"RuleDepthsModel", "told", "(I)I"⟩, 13) := ⟨⟨by decide +kernel, by decide +kernel⟩, List.mem_of_getElem? (i := 763) (by decide +kernel), List.mem_of_getElem? (i := 1076) (by decide +kernel), List.mem_of_getElem? (i := 1077) (by decide +kernel)⟩
def lw_privs_5 : List (MethodName × Nat) := [(⟨"RuleDepthsModel", "valueEnd", "(I)I"⟩, 13), (⟨"RuleDepthsModel", "updateEnd", "(I)I"⟩, 13), (⟨"RuleDepthsModel", "does", "(I)I"⟩, 13), (⟨"RuleDepthsModel", "numberAt", "(I)I"⟩, 13), (⟨"RuleDepthsModel", "told", "(I)I"⟩, 13)]
theorem lw_r5 : ∀ q ∈ lw_privs_5, lw_okq q := List.forall_mem_cons.mpr ⟨lw_p64, List.forall_mem_cons.mpr ⟨lw_p65, List.forall_mem_cons.mpr ⟨lw_p66, List.forall_mem_cons.mpr ⟨lw_p67, List.forall_mem_cons.mpr ⟨lw_p68, fun _ h => absurd h List.not_mem_nil⟩⟩⟩⟩⟩
def lw_privs : List (MethodName × Nat) := lw_privs_1 ++ (lw_privs_2 ++ (lw_privs_3 ++ (lw_privs_4 ++ (lw_privs_5))))
def lw_tbl : List Cond := k2_sels lw_privs ++ tables_1
theorem lw_privs_ok : ∀ q ∈ lw_privs, lw_okq q := by
  show ∀ q ∈ lw_privs_1 ++ (lw_privs_2 ++ (lw_privs_3 ++ (lw_privs_4 ++ (lw_privs_5)))), lw_okq q
  exact List.forall_mem_append.mpr ⟨lw_r1, List.forall_mem_append.mpr ⟨lw_r2, List.forall_mem_append.mpr ⟨lw_r3, List.forall_mem_append.mpr ⟨lw_r4, lw_r5⟩⟩⟩⟩
def RX0 : String := "RuleDepths$Engine"
def TX0 : u_T := fun k => match k with
  | 0 => ("RuleDepths$Engine", "state", "LRuleDepths$State;", true)
  | 1 => ("RuleDepths$Engine", "top", "LRuleDepths$Level;", true)
  | 2 => ("RuleDepths$Engine", "firing", "[Z", true)
  | 3 => ("RuleDepths$Engine", "operations", "I", false)
  | 4 => ("RuleDepths$Engine", "firings", "I", false)
  | 5 => ("RuleDepths$Engine", "deepest", "I", false)
  | 6 => ("RuleDepths$Engine", "reason", "I", false)
  | _ => ("RuleDepths$Engine", "refusingRule", "I", false)
def tyX0 : Nat → FieldType := fun k => match k with
  | 0 => .object "RuleDepths$State"
  | 1 => .object "RuleDepths$Level"
  | 2 => .array .boolean
  | 3 => .int
  | 4 => .int
  | 5 => .int
  | 6 => .int
  | _ => .int
abbrev wsX00 : List Cond := u_ws RX0 TX0 8
theorem nmX0 : ∀ a, a < 8 → ∀ b, b < 8 → a ≠ b → (TX0 a).2.1 ≠ (TX0 b).2.1 := by decide +kernel
theorem tyX0_ok : ∀ k, k < 8 → parseFieldDescriptor (TX0 k).2.2.1 = some (tyX0 k) := by decide +kernel
abbrev cX0_init : ByteArray := prog_2_method_1_code
def yX0_init : MethodName := ⟨RX0, "<init>", "()V"⟩
abbrev cX0_insertFault : ByteArray := prog_2_method_2_code
def yX0_insertFault : MethodName := ⟨RX0, "insertFault", "(IIII)I"⟩
abbrev cX0_updateFault : ByteArray := prog_2_method_3_code
def yX0_updateFault : MethodName := ⟨RX0, "updateFault", "(III)I"⟩
abbrev cX0_deleteFault : ByteArray := prog_2_method_4_code
def yX0_deleteFault : MethodName := ⟨RX0, "deleteFault", "(I)I"⟩
abbrev cX0_runInsert : ByteArray := prog_2_method_5_code
def yX0_runInsert : MethodName := ⟨RX0, "runInsert", "(IIII)I"⟩
abbrev cX0_runUpdate : ByteArray := prog_2_method_6_code
def yX0_runUpdate : MethodName := ⟨RX0, "runUpdate", "(III)I"⟩
abbrev cX0_runDelete : ByteArray := prog_2_method_7_code
def yX0_runDelete : MethodName := ⟨RX0, "runDelete", "(I)I"⟩
abbrev cX0_run : ByteArray := prog_2_method_8_code
def yX0_run : MethodName := ⟨RX0, "run", "(I)I"⟩
abbrev cX0_report : ByteArray := prog_2_method_9_code
def yX0_report : MethodName := ⟨RX0, "report", "(I)I"⟩
abbrev cX0_begin : ByteArray := prog_2_method_10_code
def yX0_begin : MethodName := ⟨RX0, "begin", "()V"⟩
abbrev cX0_canTake : ByteArray := prog_2_method_11_code
def yX0_canTake : MethodName := ⟨RX0, "canTake", "(I)Z"⟩
abbrev cX0_prepareUpdate : ByteArray := prog_2_method_12_code
def yX0_prepareUpdate : MethodName := ⟨RX0, "prepareUpdate", "(LRuleDepths$Row;III)Z"⟩
abbrev cX0_prepareDelete : ByteArray := prog_2_method_13_code
def yX0_prepareDelete : MethodName := ⟨RX0, "prepareDelete", "(LRuleDepths$Row;I)Z"⟩
abbrev cX0_prepareCaused : ByteArray := prog_2_method_14_code
def yX0_prepareCaused : MethodName := ⟨RX0, "prepareCaused", "(LRuleDepths$Rule;LRuleDepths$Row;LRuleDepths$Row;)Z"⟩
abbrev cX0_operate : ByteArray := prog_2_method_15_code
def yX0_operate : MethodName := ⟨RX0, "operate", "(ILRuleDepths$Level;I)V"⟩
abbrev cX0_carryOut : ByteArray := prog_2_method_16_code
def yX0_carryOut : MethodName := ⟨RX0, "carryOut", "(ILRuleDepths$Row;)V"⟩
abbrev cX0_fireRules : ByteArray := prog_2_method_17_code
def yX0_fireRules : MethodName := ⟨RX0, "fireRules", "(IILRuleDepths$Level;)Z"⟩
abbrev cX0_fire : ByteArray := prog_2_method_18_code
def yX0_fire : MethodName := ⟨RX0, "fire", "(ILRuleDepths$Rule;LRuleDepths$Level;)Z"⟩
abbrev cX0_cause : ByteArray := prog_2_method_19_code
def yX0_cause : MethodName := ⟨RX0, "cause", "(ILRuleDepths$Rule;LRuleDepths$Level;)V"⟩
abbrev cX0_isHeldBack : ByteArray := prog_2_method_20_code
def yX0_isHeldBack : MethodName := ⟨RX0, "isHeldBack", "(I)Z"⟩
abbrev cX0_mark : ByteArray := prog_2_method_21_code
def yX0_mark : MethodName := ⟨RX0, "mark", "(IZ)V"⟩
abbrev cX0_refuse : ByteArray := prog_2_method_22_code
def yX0_refuse : MethodName := ⟨RX0, "refuse", "(II)V"⟩
def RX1 : String := "RuleDepths$FiringLog"
def TX1 : u_T := fun k => match k with
  | 0 => ("RuleDepths$FiringLog", "rules", "[I", true)
  | 1 => ("RuleDepths$FiringLog", "depths", "[I", true)
  | 2 => ("RuleDepths$FiringLog", "keys", "[I", true)
  | _ => ("RuleDepths$FiringLog", "count", "I", false)
def tyX1 : Nat → FieldType := fun k => match k with
  | 0 => .array .int
  | 1 => .array .int
  | 2 => .array .int
  | _ => .int
abbrev wsX10 : List Cond := u_ws RX1 TX1 4
theorem nmX1 : ∀ a, a < 4 → ∀ b, b < 4 → a ≠ b → (TX1 a).2.1 ≠ (TX1 b).2.1 := by decide +kernel
theorem tyX1_ok : ∀ k, k < 4 → parseFieldDescriptor (TX1 k).2.2.1 = some (tyX1 k) := by decide +kernel
abbrev cX1_init : ByteArray := prog_3_method_1_code
def yX1_init : MethodName := ⟨RX1, "<init>", "()V"⟩
abbrev cX1_add : ByteArray := prog_3_method_2_code
def yX1_add : MethodName := ⟨RX1, "add", "(III)V"⟩
abbrev cX1_tell : ByteArray := prog_3_method_3_code
def yX1_tell : MethodName := ⟨RX1, "tell", "(II)I"⟩
abbrev cX1_copyFrom : ByteArray := prog_3_method_4_code
def yX1_copyFrom : MethodName := ⟨RX1, "copyFrom", "(LRuleDepths$FiringLog;)V"⟩
def RX2 : String := "RuleDepths$History"
def TX2 : u_T := fun k => match k with
  | 0 => ("RuleDepths$History", "states", "[LRuleDepths$State;", true)
  | _ => ("RuleDepths$History", "count", "I", false)
def tyX2 : Nat → FieldType := fun k => match k with
  | 0 => .array (.object "RuleDepths$State")
  | _ => .int
abbrev wsX20 : List Cond := u_ws RX2 TX2 2
theorem nmX2 : ∀ a, a < 2 → ∀ b, b < 2 → a ≠ b → (TX2 a).2.1 ≠ (TX2 b).2.1 := by decide +kernel
theorem tyX2_ok : ∀ k, k < 2 → parseFieldDescriptor (TX2 k).2.2.1 = some (tyX2 k) := by decide +kernel
abbrev cX2_init : ByteArray := prog_4_method_1_code
def yX2_init : MethodName := ⟨RX2, "<init>", "()V"⟩
abbrev cX2_push : ByteArray := prog_4_method_2_code
def yX2_push : MethodName := ⟨RX2, "push", "(LRuleDepths$State;)V"⟩
abbrev cX2_popInto : ByteArray := prog_4_method_3_code
def yX2_popInto : MethodName := ⟨RX2, "popInto", "(LRuleDepths$State;)Z"⟩
abbrev cX2_dropOldest : ByteArray := prog_4_method_4_code
def yX2_dropOldest : MethodName := ⟨RX2, "dropOldest", "()V"⟩
def RX3 : String := "RuleDepths$Level"
def TX3 : u_T := fun k => match k with
  | 0 => ("RuleDepths$Level", "depth", "I", true)
  | 1 => ("RuleDepths$Level", "deeper", "LRuleDepths$Level;", true)
  | _ => ("RuleDepths$Level", "image", "LRuleDepths$Row;", true)
def tyX3 : Nat → FieldType := fun k => match k with
  | 0 => .int
  | 1 => .object "RuleDepths$Level"
  | _ => .object "RuleDepths$Row"
abbrev wsX30 : List Cond := u_ws RX3 TX3 3
theorem nmX3 : ∀ a, a < 3 → ∀ b, b < 3 → a ≠ b → (TX3 a).2.1 ≠ (TX3 b).2.1 := by decide +kernel
theorem tyX3_ok : ∀ k, k < 3 → parseFieldDescriptor (TX3 k).2.2.1 = some (tyX3 k) := by decide +kernel
abbrev cX3_init : ByteArray := prog_5_method_1_code
def yX3_init : MethodName := ⟨RX3, "<init>", "(ILRuleDepths$Level;)V"⟩
def RX4 : String := "RuleDepths$Row"
def TX4 : u_T := fun k => match k with
  | 0 => ("RuleDepths$Row", "key", "I", false)
  | 1 => ("RuleDepths$Row", "zero", "I", false)
  | 2 => ("RuleDepths$Row", "one", "I", false)
  | _ => ("RuleDepths$Row", "two", "I", false)
def tyX4 : Nat → FieldType := fun k => match k with
  | 0 => .int
  | 1 => .int
  | 2 => .int
  | _ => .int
abbrev wsX40 : List Cond := u_ws RX4 TX4 4
theorem nmX4 : ∀ a, a < 4 → ∀ b, b < 4 → a ≠ b → (TX4 a).2.1 ≠ (TX4 b).2.1 := by decide +kernel
theorem tyX4_ok : ∀ k, k < 4 → parseFieldDescriptor (TX4 k).2.2.1 = some (tyX4 k) := by decide +kernel
abbrev cX4_init : ByteArray := prog_6_method_1_code
def yX4_init : MethodName := ⟨RX4, "<init>", "()V"⟩
abbrev cX4_fill : ByteArray := prog_6_method_2_code
def yX4_fill : MethodName := ⟨RX4, "fill", "(IIII)V"⟩
abbrev cX4_copyFrom : ByteArray := prog_6_method_3_code
def yX4_copyFrom : MethodName := ⟨RX4, "copyFrom", "(LRuleDepths$Row;)V"⟩
abbrev cX4_valueOf : ByteArray := prog_6_method_4_code
def yX4_valueOf : MethodName := ⟨RX4, "valueOf", "(I)I"⟩
abbrev cX4_change : ByteArray := prog_6_method_5_code
def yX4_change : MethodName := ⟨RX4, "change", "(II)V"⟩
def RX5 : String := "RuleDepths$Rule"
def TX5 : u_T := fun k => match k with
  | 0 => ("RuleDepths$Rule", "event", "I", false)
  | 1 => ("RuleDepths$Rule", "moment", "I", false)
  | 2 => ("RuleDepths$Rule", "rank", "I", false)
  | 3 => ("RuleDepths$Rule", "kind", "I", false)
  | 4 => ("RuleDepths$Rule", "a", "I", false)
  | 5 => ("RuleDepths$Rule", "b", "I", false)
  | 6 => ("RuleDepths$Rule", "c", "I", false)
  | 7 => ("RuleDepths$Rule", "field", "I", false)
  | 8 => ("RuleDepths$Rule", "comparison", "I", false)
  | 9 => ("RuleDepths$Rule", "number", "I", false)
  | 10 => ("RuleDepths$Rule", "on", "Z", false)
  | _ => ("RuleDepths$Rule", "firings", "I", false)
def tyX5 : Nat → FieldType := fun k => match k with
  | 0 => .int
  | 1 => .int
  | 2 => .int
  | 3 => .int
  | 4 => .int
  | 5 => .int
  | 6 => .int
  | 7 => .int
  | 8 => .int
  | 9 => .int
  | 10 => .boolean
  | _ => .int
abbrev wsX50 : List Cond := u_ws RX5 TX5 12
theorem nmX5 : ∀ a, a < 12 → ∀ b, b < 12 → a ≠ b → (TX5 a).2.1 ≠ (TX5 b).2.1 := by decide +kernel
theorem tyX5_ok : ∀ k, k < 12 → parseFieldDescriptor (TX5 k).2.2.1 = some (tyX5 k) := by decide +kernel
abbrev cX5_init : ByteArray := prog_7_method_1_code
def yX5_init : MethodName := ⟨RX5, "<init>", "()V"⟩
abbrev cX5_define : ByteArray := prog_7_method_2_code
def yX5_define : MethodName := ⟨RX5, "define", "(IIIIIII)V"⟩
abbrev cX5_demand : ByteArray := prog_7_method_3_code
def yX5_demand : MethodName := ⟨RX5, "demand", "(III)V"⟩
abbrev cX5_copyFrom : ByteArray := prog_7_method_4_code
def yX5_copyFrom : MethodName := ⟨RX5, "copyFrom", "(LRuleDepths$Rule;)V"⟩
abbrev cX5_isFor : ByteArray := prog_7_method_5_code
def yX5_isFor : MethodName := ⟨RX5, "isFor", "(II)Z"⟩
abbrev cX5_holdsFor : ByteArray := prog_7_method_6_code
def yX5_holdsFor : MethodName := ⟨RX5, "holdsFor", "(LRuleDepths$Row;)Z"⟩
abbrev cX5_valueFor : ByteArray := prog_7_method_7_code
def yX5_valueFor : MethodName := ⟨RX5, "valueFor", "(LRuleDepths$Row;)I"⟩
abbrev cX5_tell : ByteArray := prog_7_method_8_code
def yX5_tell : MethodName := ⟨RX5, "tell", "(I)I"⟩
def RX6 : String := "RuleDepths$RuleList"
def TX6 : u_T := fun k => match k with
  | 0 => ("RuleDepths$RuleList", "rules", "[LRuleDepths$Rule;", true)
  | 1 => ("RuleDepths$RuleList", "numbersByRank", "[I", true)
  | _ => ("RuleDepths$RuleList", "count", "I", false)
def tyX6 : Nat → FieldType := fun k => match k with
  | 0 => .array (.object "RuleDepths$Rule")
  | 1 => .array .int
  | _ => .int
abbrev wsX60 : List Cond := u_ws RX6 TX6 3
theorem nmX6 : ∀ a, a < 3 → ∀ b, b < 3 → a ≠ b → (TX6 a).2.1 ≠ (TX6 b).2.1 := by decide +kernel
theorem tyX6_ok : ∀ k, k < 3 → parseFieldDescriptor (TX6 k).2.2.1 = some (tyX6 k) := by decide +kernel
abbrev cX6_init : ByteArray := prog_8_method_1_code
def yX6_init : MethodName := ⟨RX6, "<init>", "()V"⟩
abbrev cX6_ruleOf : ByteArray := prog_8_method_2_code
def yX6_ruleOf : MethodName := ⟨RX6, "ruleOf", "(I)LRuleDepths$Rule;"⟩
abbrev cX6_numberAt : ByteArray := prog_8_method_3_code
def yX6_numberAt : MethodName := ⟨RX6, "numberAt", "(I)I"⟩
abbrev cX6_numberAmong : ByteArray := prog_8_method_4_code
def yX6_numberAmong : MethodName := ⟨RX6, "numberAmong", "(III)I"⟩
abbrev cX6_countOn : ByteArray := prog_8_method_5_code
def yX6_countOn : MethodName := ⟨RX6, "countOn", "()I"⟩
abbrev cX6_spare : ByteArray := prog_8_method_6_code
def yX6_spare : MethodName := ⟨RX6, "spare", "()LRuleDepths$Rule;"⟩
abbrev cX6_takeSpare : ByteArray := prog_8_method_7_code
def yX6_takeSpare : MethodName := ⟨RX6, "takeSpare", "()I"⟩
abbrev cX6_drop : ByteArray := prog_8_method_8_code
def yX6_drop : MethodName := ⟨RX6, "drop", "(I)V"⟩
abbrev cX6_sortByRank : ByteArray := prog_8_method_9_code
def yX6_sortByRank : MethodName := ⟨RX6, "sortByRank", "()V"⟩
abbrev cX6_rankOf : ByteArray := prog_8_method_10_code
def yX6_rankOf : MethodName := ⟨RX6, "rankOf", "(I)I"⟩
abbrev cX6_copyFrom : ByteArray := prog_8_method_11_code
def yX6_copyFrom : MethodName := ⟨RX6, "copyFrom", "(LRuleDepths$RuleList;)V"⟩
def RX7 : String := "RuleDepths$State"
def TX7 : u_T := fun k => match k with
  | 0 => ("RuleDepths$State", "table", "LRuleDepths$Table;", true)
  | 1 => ("RuleDepths$State", "rules", "LRuleDepths$RuleList;", true)
  | 2 => ("RuleDepths$State", "record", "LRuleDepths$FiringLog;", true)
  | 3 => ("RuleDepths$State", "greatestDepth", "I", false)
  | 4 => ("RuleDepths$State", "guarding", "I", false)
  | 5 => ("RuleDepths$State", "statements", "I", false)
  | 6 => ("RuleDepths$State", "operations", "I", false)
  | 7 => ("RuleDepths$State", "firings", "I", false)
  | _ => ("RuleDepths$State", "deepest", "I", false)
def tyX7 : Nat → FieldType := fun k => match k with
  | 0 => .object "RuleDepths$Table"
  | 1 => .object "RuleDepths$RuleList"
  | 2 => .object "RuleDepths$FiringLog"
  | 3 => .int
  | 4 => .int
  | 5 => .int
  | 6 => .int
  | 7 => .int
  | _ => .int
abbrev wsX70 : List Cond := u_ws RX7 TX7 9
theorem nmX7 : ∀ a, a < 9 → ∀ b, b < 9 → a ≠ b → (TX7 a).2.1 ≠ (TX7 b).2.1 := by decide +kernel
theorem tyX7_ok : ∀ k, k < 9 → parseFieldDescriptor (TX7 k).2.2.1 = some (tyX7 k) := by decide +kernel
abbrev cX7_init : ByteArray := prog_9_method_1_code
def yX7_init : MethodName := ⟨RX7, "<init>", "()V"⟩
abbrev cX7_copyFrom : ByteArray := prog_9_method_2_code
def yX7_copyFrom : MethodName := ⟨RX7, "copyFrom", "(LRuleDepths$State;)V"⟩
abbrev cX7_tell : ByteArray := prog_9_method_3_code
def yX7_tell : MethodName := ⟨RX7, "tell", "(I)I"⟩
def RX8 : String := "RuleDepths$Table"
def TX8 : u_T := fun k => match k with
  | 0 => ("RuleDepths$Table", "rows", "[LRuleDepths$Row;", true)
  | _ => ("RuleDepths$Table", "count", "I", false)
def tyX8 : Nat → FieldType := fun k => match k with
  | 0 => .array (.object "RuleDepths$Row")
  | _ => .int
abbrev wsX80 : List Cond := u_ws RX8 TX8 2
theorem nmX8 : ∀ a, a < 2 → ∀ b, b < 2 → a ≠ b → (TX8 a).2.1 ≠ (TX8 b).2.1 := by decide +kernel
theorem tyX8_ok : ∀ k, k < 2 → parseFieldDescriptor (TX8 k).2.2.1 = some (tyX8 k) := by decide +kernel
abbrev cX8_init : ByteArray := prog_10_method_1_code
def yX8_init : MethodName := ⟨RX8, "<init>", "()V"⟩
abbrev cX8_isFull : ByteArray := prog_10_method_2_code
def yX8_isFull : MethodName := ⟨RX8, "isFull", "()Z"⟩
abbrev cX8_rowAt : ByteArray := prog_10_method_3_code
def yX8_rowAt : MethodName := ⟨RX8, "rowAt", "(I)LRuleDepths$Row;"⟩
abbrev cX8_rowOf : ByteArray := prog_10_method_4_code
def yX8_rowOf : MethodName := ⟨RX8, "rowOf", "(I)LRuleDepths$Row;"⟩
abbrev cX8_take : ByteArray := prog_10_method_5_code
def yX8_take : MethodName := ⟨RX8, "take", "(LRuleDepths$Row;)V"⟩
abbrev cX8_drop : ByteArray := prog_10_method_6_code
def yX8_drop : MethodName := ⟨RX8, "drop", "(I)V"⟩
abbrev cX8_copyFrom : ByteArray := prog_10_method_7_code
def yX8_copyFrom : MethodName := ⟨RX8, "copyFrom", "(LRuleDepths$Table;)V"⟩
def RX9 : String := "RuleDepths$Text"
def TX9 : u_T := fun k => match k with
  | 0 => ("RuleDepths$Text", "characters", "[C", true)
  | 1 => ("RuleDepths$Text", "length", "I", false)
  | 2 => ("RuleDepths$Text", "position", "I", false)
  | 3 => ("RuleDepths$Text", "faulty", "Z", false)
  | 4 => ("RuleDepths$Text", "event", "I", false)
  | 5 => ("RuleDepths$Text", "key", "I", false)
  | 6 => ("RuleDepths$Text", "field", "I", false)
  | 7 => ("RuleDepths$Text", "first", "I", false)
  | 8 => ("RuleDepths$Text", "second", "I", false)
  | _ => ("RuleDepths$Text", "third", "I", false)
def tyX9 : Nat → FieldType := fun k => match k with
  | 0 => .array .char
  | 1 => .int
  | 2 => .int
  | 3 => .boolean
  | 4 => .int
  | 5 => .int
  | 6 => .int
  | 7 => .int
  | 8 => .int
  | _ => .int
abbrev wsX90 : List Cond := u_ws RX9 TX9 10
theorem nmX9 : ∀ a, a < 10 → ∀ b, b < 10 → a ≠ b → (TX9 a).2.1 ≠ (TX9 b).2.1 := by decide +kernel
theorem tyX9_ok : ∀ k, k < 10 → parseFieldDescriptor (TX9 k).2.2.1 = some (tyX9 k) := by decide +kernel
abbrev cX9_init : ByteArray := prog_11_method_1_code
def yX9_init : MethodName := ⟨RX9, "<init>", "()V"⟩
abbrev cX9_append : ByteArray := prog_11_method_2_code
def yX9_append : MethodName := ⟨RX9, "append", "(C)Z"⟩
abbrev cX9_rewind : ByteArray := prog_11_method_3_code
def yX9_rewind : MethodName := ⟨RX9, "rewind", "()V"⟩
abbrev cX9_countStatements : ByteArray := prog_11_method_4_code
def yX9_countStatements : MethodName := ⟨RX9, "countStatements", "()I"⟩
abbrev cX9_readStatement : ByteArray := prog_11_method_5_code
def yX9_readStatement : MethodName := ⟨RX9, "readStatement", "()V"⟩
abbrev cX9_readInsert : ByteArray := prog_11_method_6_code
def yX9_readInsert : MethodName := ⟨RX9, "readInsert", "()V"⟩
abbrev cX9_readUpdate : ByteArray := prog_11_method_7_code
def yX9_readUpdate : MethodName := ⟨RX9, "readUpdate", "()V"⟩
abbrev cX9_readValue : ByteArray := prog_11_method_8_code
def yX9_readValue : MethodName := ⟨RX9, "readValue", "()I"⟩
abbrev cX9_readNumber : ByteArray := prog_11_method_9_code
def yX9_readNumber : MethodName := ⟨RX9, "readNumber", "(I)I"⟩
abbrev cX9_readDigit : ByteArray := prog_11_method_10_code
def yX9_readDigit : MethodName := ⟨RX9, "readDigit", "(I)I"⟩
abbrev cX9_isDigit : ByteArray := prog_11_method_11_code
def yX9_isDigit : MethodName := ⟨RX9, "isDigit", "(II)Z"⟩
abbrev cX9_pass : ByteArray := prog_11_method_12_code
def yX9_pass : MethodName := ⟨RX9, "pass", "(C)V"⟩
abbrev cX9_here : ByteArray := prog_11_method_13_code
def yX9_here : MethodName := ⟨RX9, "here", "()I"⟩
def RX10 : String := "RuleDepths"
def TX10 : u_T := fun k => match k with
  | 0 => ("RuleDepths", "engine", "LRuleDepths$Engine;", true)
  | 1 => ("RuleDepths", "before", "LRuleDepths$State;", true)
  | 2 => ("RuleDepths", "snapshot", "LRuleDepths$State;", true)
  | 3 => ("RuleDepths", "hasSnapshot", "Z", false)
  | 4 => ("RuleDepths", "history", "LRuleDepths$History;", true)
  | _ => ("RuleDepths", "text", "LRuleDepths$Text;", true)
def tyX10 : Nat → FieldType := fun k => match k with
  | 0 => .object "RuleDepths$Engine"
  | 1 => .object "RuleDepths$State"
  | 2 => .object "RuleDepths$State"
  | 3 => .boolean
  | 4 => .object "RuleDepths$History"
  | _ => .object "RuleDepths$Text"
abbrev wsX100 : List Cond := u_ws RX10 TX10 6
theorem nmX10 : ∀ a, a < 6 → ∀ b, b < 6 → a ≠ b → (TX10 a).2.1 ≠ (TX10 b).2.1 := by decide +kernel
theorem tyX10_ok : ∀ k, k < 6 → parseFieldDescriptor (TX10 k).2.2.1 = some (tyX10 k) := by decide +kernel
abbrev cX10_init : ByteArray := prog_1_method_1_code
def yX10_init : MethodName := ⟨RX10, "<init>", "()V"⟩
abbrev cX10_addRule : ByteArray := prog_1_method_2_code
def yX10_addRule : MethodName := ⟨RX10, "addRule", "(IIIIIII)I"⟩
abbrev cX10_setCondition : ByteArray := prog_1_method_3_code
def yX10_setCondition : MethodName := ⟨RX10, "setCondition", "(IIII)I"⟩
abbrev cX10_put : ByteArray := prog_1_method_4_code
def yX10_put : MethodName := ⟨RX10, "put", "(IZ)I"⟩
abbrev cX10_removeRule : ByteArray := prog_1_method_5_code
def yX10_removeRule : MethodName := ⟨RX10, "removeRule", "(I)I"⟩
abbrev cX10_set : ByteArray := prog_1_method_6_code
def yX10_set : MethodName := ⟨RX10, "set", "(II)I"⟩
abbrev cX10_insert : ByteArray := prog_1_method_7_code
def yX10_insert : MethodName := ⟨RX10, "insert", "(IIII)I"⟩
abbrev cX10_update : ByteArray := prog_1_method_8_code
def yX10_update : MethodName := ⟨RX10, "update", "(III)I"⟩
abbrev cX10_delete : ByteArray := prog_1_method_9_code
def yX10_delete : MethodName := ⟨RX10, "delete", "(I)I"⟩
abbrev cX10_type : ByteArray := prog_1_method_10_code
def yX10_type : MethodName := ⟨RX10, "type", "(C)I"⟩
abbrev cX10_clearText : ByteArray := prog_1_method_11_code
def yX10_clearText : MethodName := ⟨RX10, "clearText", "()I"⟩
abbrev cX10_perform : ByteArray := prog_1_method_12_code
def yX10_perform : MethodName := ⟨RX10, "perform", "()I"⟩
abbrev cX10_undo : ByteArray := prog_1_method_13_code
def yX10_undo : MethodName := ⟨RX10, "undo", "()I"⟩
abbrev cX10_keep : ByteArray := prog_1_method_14_code
def yX10_keep : MethodName := ⟨RX10, "keep", "()I"⟩
abbrev cX10_restore : ByteArray := prog_1_method_15_code
def yX10_restore : MethodName := ⟨RX10, "restore", "()I"⟩
abbrev cX10_field : ByteArray := prog_1_method_16_code
def yX10_field : MethodName := ⟨RX10, "field", "(II)I"⟩
abbrev cX10_keyAt : ByteArray := prog_1_method_17_code
def yX10_keyAt : MethodName := ⟨RX10, "keyAt", "(I)I"⟩
abbrev cX10_rule : ByteArray := prog_1_method_18_code
def yX10_rule : MethodName := ⟨RX10, "rule", "(II)I"⟩
abbrev cX10_order : ByteArray := prog_1_method_19_code
def yX10_order : MethodName := ⟨RX10, "order", "(III)I"⟩
abbrev cX10_firing : ByteArray := prog_1_method_20_code
def yX10_firing : MethodName := ⟨RX10, "firing", "(II)I"⟩
abbrev cX10_total : ByteArray := prog_1_method_21_code
def yX10_total : MethodName := ⟨RX10, "total", "(I)I"⟩
abbrev cX10_ifInserted : ByteArray := prog_1_method_22_code
def yX10_ifInserted : MethodName := ⟨RX10, "ifInserted", "(IIIII)I"⟩
abbrev cX10_ifUpdated : ByteArray := prog_1_method_23_code
def yX10_ifUpdated : MethodName := ⟨RX10, "ifUpdated", "(IIII)I"⟩
abbrev cX10_ifDeleted : ByteArray := prog_1_method_24_code
def yX10_ifDeleted : MethodName := ⟨RX10, "ifDeleted", "(II)I"⟩
abbrev cX10_depthFor : ByteArray := prog_1_method_25_code
def yX10_depthFor : MethodName := ⟨RX10, "depthFor", "(III)I"⟩
abbrev cX10_settle : ByteArray := prog_1_method_26_code
def yX10_settle : MethodName := ⟨RX10, "settle", "(I)I"⟩
abbrev cX10_performStatement : ByteArray := prog_1_method_27_code
def yX10_performStatement : MethodName := ⟨RX10, "performStatement", "()I"⟩
abbrev cX10_isReport : ByteArray := prog_1_method_28_code
def yX10_isReport : MethodName := ⟨RX10, "isReport", "(I)Z"⟩
abbrev cX10_isEvent : ByteArray := prog_1_method_29_code
def yX10_isEvent : MethodName := ⟨RX10, "isEvent", "(I)Z"⟩
abbrev cX10_isMoment : ByteArray := prog_1_method_30_code
def yX10_isMoment : MethodName := ⟨RX10, "isMoment", "(I)Z"⟩
abbrev cX10_isKindFor : ByteArray := prog_1_method_31_code
def yX10_isKindFor : MethodName := ⟨RX10, "isKindFor", "(II)Z"⟩
abbrev cX10_isValue : ByteArray := prog_1_method_32_code
def yX10_isValue : MethodName := ⟨RX10, "isValue", "(I)Z"⟩
abbrev cX10_within : ByteArray := prog_1_method_33_code
def yX10_within : MethodName := ⟨RX10, "within", "(III)Z"⟩
def RX11 : String := "RuleDepthsModel"
def TX11 : u_T := fun k => match k with
  | 0 => ("RuleDepthsModel", "s", "[I", true)
  | 1 => ("RuleDepthsModel", "before", "[I", true)
  | 2 => ("RuleDepthsModel", "known", "I", false)
  | 3 => ("RuleDepthsModel", "snap", "[I", true)
  | 4 => ("RuleDepthsModel", "isKept", "Z", false)
  | 5 => ("RuleDepthsModel", "text", "[I", true)
  | 6 => ("RuleDepthsModel", "length", "I", false)
  | 7 => ("RuleDepthsModel", "frame", "[I", true)
  | 8 => ("RuleDepthsModel", "operations", "I", false)
  | 9 => ("RuleDepthsModel", "fired", "I", false)
  | 10 => ("RuleDepthsModel", "deepest", "I", false)
  | 11 => ("RuleDepthsModel", "reason", "I", false)
  | _ => ("RuleDepthsModel", "refusing", "I", false)
def tyX11 : Nat → FieldType := fun k => match k with
  | 0 => .array .int
  | 1 => .array .int
  | 2 => .int
  | 3 => .array .int
  | 4 => .boolean
  | 5 => .array .int
  | 6 => .int
  | 7 => .array .int
  | 8 => .int
  | 9 => .int
  | 10 => .int
  | 11 => .int
  | _ => .int
abbrev wsX110 : List Cond := u_ws RX11 TX11 13
theorem nmX11 : ∀ a, a < 13 → ∀ b, b < 13 → a ≠ b → (TX11 a).2.1 ≠ (TX11 b).2.1 := by decide +kernel
theorem tyX11_ok : ∀ k, k < 13 → parseFieldDescriptor (TX11 k).2.2.1 = some (tyX11 k) := by decide +kernel
abbrev cX11_init : ByteArray := prog_13_method_1_code
def yX11_init : MethodName := ⟨RX11, "<init>", "()V"⟩
abbrev cX11_in : ByteArray := prog_13_method_3_code
def yX11_in : MethodName := ⟨RX11, "in", "(III)Z"⟩
abbrev cX11_isKey : ByteArray := prog_13_method_4_code
def yX11_isKey : MethodName := ⟨RX11, "isKey", "(I)Z"⟩
abbrev cX11_isValue : ByteArray := prog_13_method_5_code
def yX11_isValue : MethodName := ⟨RX11, "isValue", "(I)Z"⟩
abbrev cX11_isRule : ByteArray := prog_13_method_6_code
def yX11_isRule : MethodName := ⟨RX11, "isRule", "(I)Z"⟩
abbrev cX11_copies : ByteArray := prog_13_method_7_code
def yX11_copies : MethodName := ⟨RX11, "copies", "(II)V"⟩
abbrev cX11_remembers : ByteArray := prog_13_method_8_code
def yX11_remembers : MethodName := ⟨RX11, "remembers", "()V"⟩
abbrev cX11_lays : ByteArray := prog_13_method_9_code
def yX11_lays : MethodName := ⟨RX11, "lays", "()V"⟩
abbrev cX11_rowOf : ByteArray := prog_13_method_10_code
def yX11_rowOf : MethodName := ⟨RX11, "rowOf", "(II)I"⟩
abbrev cX11_ruleAt : ByteArray := prog_13_method_11_code
def yX11_ruleAt : MethodName := ⟨RX11, "ruleAt", "(II)I"⟩
abbrev cX11_isOf : ByteArray := prog_13_method_12_code
def yX11_isOf : MethodName := ⟨RX11, "isOf", "(IIII)Z"⟩
abbrev cX11_orderAt : ByteArray := prog_13_method_13_code
def yX11_orderAt : MethodName := ⟨RX11, "orderAt", "(IIII)I"⟩
abbrev cX11_image : ByteArray := prog_13_method_14_code
def yX11_image : MethodName := ⟨RX11, "image", "(II)I"⟩
abbrev cX11_asks : ByteArray := prog_13_method_15_code
def yX11_asks : MethodName := ⟨RX11, "asks", "(IIII)V"⟩
abbrev cX11_refuses : ByteArray := prog_13_method_16_code
def yX11_refuses : MethodName := ⟨RX11, "refuses", "(II)V"⟩
abbrev cX11_isNothing : ByteArray := prog_13_method_17_code
def yX11_isNothing : MethodName := ⟨RX11, "isNothing", "(IIII)Z"⟩
abbrev cX11_begins : ByteArray := prog_13_method_18_code
def yX11_begins : MethodName := ⟨RX11, "begins", "(IIII)Z"⟩
abbrev cX11_carriesOut : ByteArray := prog_13_method_19_code
def yX11_carriesOut : MethodName := ⟨RX11, "carriesOut", "(II)V"⟩
abbrev cX11_compares : ByteArray := prog_13_method_20_code
def yX11_compares : MethodName := ⟨RX11, "compares", "(III)Z"⟩
abbrev cX11_isFiring : ByteArray := prog_13_method_21_code
def yX11_isFiring : MethodName := ⟨RX11, "isFiring", "(II)Z"⟩
abbrev cX11_fires : ByteArray := prog_13_method_22_code
def yX11_fires : MethodName := ⟨RX11, "fires", "(III)Z"⟩
abbrev cX11_valueOf : ByteArray := prog_13_method_23_code
def yX11_valueOf : MethodName := ⟨RX11, "valueOf", "(III)I"⟩
abbrev cX11_counts : ByteArray := prog_13_method_24_code
def yX11_counts : MethodName := ⟨RX11, "counts", "(III)V"⟩
abbrev cX11_operates : ByteArray := prog_13_method_25_code
def yX11_operates : MethodName := ⟨RX11, "operates", "(IIII)Z"⟩
abbrev cX11_acts : ByteArray := prog_13_method_26_code
def yX11_acts : MethodName := ⟨RX11, "acts", "(III)I"⟩
abbrev cX11_goes : ByteArray := prog_13_method_27_code
def yX11_goes : MethodName := ⟨RX11, "goes", "(II)I"⟩
abbrev cX11_runs : ByteArray := prog_13_method_28_code
def yX11_runs : MethodName := ⟨RX11, "runs", "(III)V"⟩
abbrev cX11_whyNotInsert : ByteArray := prog_13_method_29_code
def yX11_whyNotInsert : MethodName := ⟨RX11, "whyNotInsert", "(II)I"⟩
abbrev cX11_whyNotUpdate : ByteArray := prog_13_method_30_code
def yX11_whyNotUpdate : MethodName := ⟨RX11, "whyNotUpdate", "(IIII)I"⟩
abbrev cX11_runsInsert : ByteArray := prog_13_method_31_code
def yX11_runsInsert : MethodName := ⟨RX11, "runsInsert", "(IIIII)V"⟩
abbrev cX11_runsUpdate : ByteArray := prog_13_method_32_code
def yX11_runsUpdate : MethodName := ⟨RX11, "runsUpdate", "(IIII)V"⟩
abbrev cX11_runsDelete : ByteArray := prog_13_method_33_code
def yX11_runsDelete : MethodName := ⟨RX11, "runsDelete", "(II)V"⟩
abbrev cX11_ends : ByteArray := prog_13_method_34_code
def yX11_ends : MethodName := ⟨RX11, "ends", "()I"⟩
abbrev cX11_whyNotInsertHere : ByteArray := prog_13_method_35_code
def yX11_whyNotInsertHere : MethodName := ⟨RX11, "whyNotInsertHere", "(IIII)I"⟩
abbrev cX11_whyNotUpdateHere : ByteArray := prog_13_method_36_code
def yX11_whyNotUpdateHere : MethodName := ⟨RX11, "whyNotUpdateHere", "(III)I"⟩
abbrev cX11_insert : ByteArray := prog_13_method_37_code
def yX11_insert : MethodName := ⟨RX11, "insert", "(IIII)I"⟩
abbrev cX11_update : ByteArray := prog_13_method_38_code
def yX11_update : MethodName := ⟨RX11, "update", "(III)I"⟩
abbrev cX11_delete : ByteArray := prog_13_method_39_code
def yX11_delete : MethodName := ⟨RX11, "delete", "(I)I"⟩
abbrev cX11_addRule : ByteArray := prog_13_method_40_code
def yX11_addRule : MethodName := ⟨RX11, "addRule", "(IIIIIII)I"⟩
abbrev cX11_setCondition : ByteArray := prog_13_method_41_code
def yX11_setCondition : MethodName := ⟨RX11, "setCondition", "(IIII)I"⟩
abbrev cX11_rulesOn : ByteArray := prog_13_method_42_code
def yX11_rulesOn : MethodName := ⟨RX11, "rulesOn", "()I"⟩
abbrev cX11_put : ByteArray := prog_13_method_43_code
def yX11_put : MethodName := ⟨RX11, "put", "(IZ)I"⟩
abbrev cX11_removeRule : ByteArray := prog_13_method_44_code
def yX11_removeRule : MethodName := ⟨RX11, "removeRule", "(I)I"⟩
abbrev cX11_set : ByteArray := prog_13_method_45_code
def yX11_set : MethodName := ⟨RX11, "set", "(II)I"⟩
abbrev cX11_type : ByteArray := prog_13_method_46_code
def yX11_type : MethodName := ⟨RX11, "type", "(C)I"⟩
abbrev cX11_clearText : ByteArray := prog_13_method_47_code
def yX11_clearText : MethodName := ⟨RX11, "clearText", "()I"⟩
abbrev cX11_sign : ByteArray := prog_13_method_48_code
def yX11_sign : MethodName := ⟨RX11, "sign", "(I)I"⟩
abbrev cX11_digit : ByteArray := prog_13_method_49_code
def yX11_digit : MethodName := ⟨RX11, "digit", "(I)I"⟩
abbrev cX11_numberEnd : ByteArray := prog_13_method_50_code
def yX11_numberEnd : MethodName := ⟨RX11, "numberEnd", "(II)I"⟩
abbrev cX11_valueEnd : ByteArray := prog_13_method_51_code
def yX11_valueEnd : MethodName := ⟨RX11, "valueEnd", "(I)I"⟩
abbrev cX11_behind : ByteArray := prog_13_method_52_code
def yX11_behind : MethodName := ⟨RX11, "behind", "(II)I"⟩
abbrev cX11_valueBehind : ByteArray := prog_13_method_53_code
def yX11_valueBehind : MethodName := ⟨RX11, "valueBehind", "(II)I"⟩
abbrev cX11_insertEnd : ByteArray := prog_13_method_54_code
def yX11_insertEnd : MethodName := ⟨RX11, "insertEnd", "(I)I"⟩
abbrev cX11_updateEnd : ByteArray := prog_13_method_55_code
def yX11_updateEnd : MethodName := ⟨RX11, "updateEnd", "(I)I"⟩
abbrev cX11_statementEnd : ByteArray := prog_13_method_56_code
def yX11_statementEnd : MethodName := ⟨RX11, "statementEnd", "(I)I"⟩
abbrev cX11_fault : ByteArray := prog_13_method_57_code
def yX11_fault : MethodName := ⟨RX11, "fault", "()I"⟩
abbrev cX11_numberAt : ByteArray := prog_13_method_58_code
def yX11_numberAt : MethodName := ⟨RX11, "numberAt", "(I)I"⟩
abbrev cX11_does : ByteArray := prog_13_method_59_code
def yX11_does : MethodName := ⟨RX11, "does", "(I)I"⟩
abbrev cX11_perform : ByteArray := prog_13_method_60_code
def yX11_perform : MethodName := ⟨RX11, "perform", "()I"⟩
abbrev cX11_undo : ByteArray := prog_13_method_61_code
def yX11_undo : MethodName := ⟨RX11, "undo", "()I"⟩
abbrev cX11_keep : ByteArray := prog_13_method_62_code
def yX11_keep : MethodName := ⟨RX11, "keep", "()I"⟩
abbrev cX11_restore : ByteArray := prog_13_method_63_code
def yX11_restore : MethodName := ⟨RX11, "restore", "()I"⟩
abbrev cX11_field : ByteArray := prog_13_method_64_code
def yX11_field : MethodName := ⟨RX11, "field", "(II)I"⟩
abbrev cX11_keyAt : ByteArray := prog_13_method_65_code
def yX11_keyAt : MethodName := ⟨RX11, "keyAt", "(I)I"⟩
abbrev cX11_rule : ByteArray := prog_13_method_66_code
def yX11_rule : MethodName := ⟨RX11, "rule", "(II)I"⟩
abbrev cX11_order : ByteArray := prog_13_method_67_code
def yX11_order : MethodName := ⟨RX11, "order", "(III)I"⟩
abbrev cX11_firing : ByteArray := prog_13_method_68_code
def yX11_firing : MethodName := ⟨RX11, "firing", "(II)I"⟩
abbrev cX11_total : ByteArray := prog_13_method_69_code
def yX11_total : MethodName := ⟨RX11, "total", "(I)I"⟩
abbrev cX11_told : ByteArray := prog_13_method_70_code
def yX11_told : MethodName := ⟨RX11, "told", "(I)I"⟩
abbrev cX11_ifInserted : ByteArray := prog_13_method_71_code
def yX11_ifInserted : MethodName := ⟨RX11, "ifInserted", "(IIIII)I"⟩
abbrev cX11_ifUpdated : ByteArray := prog_13_method_72_code
def yX11_ifUpdated : MethodName := ⟨RX11, "ifUpdated", "(IIII)I"⟩
abbrev cX11_ifDeleted : ByteArray := prog_13_method_73_code
def yX11_ifDeleted : MethodName := ⟨RX11, "ifDeleted", "(II)I"⟩
abbrev cX11_depthFor : ByteArray := prog_13_method_74_code
def yX11_depthFor : MethodName := ⟨RX11, "depthFor", "(III)I"⟩
def RL : String := "RuleDepthsLaw"
abbrev cL_law : ByteArray := code
def yL_law : MethodName := ⟨RL, "law", "([I)Z"⟩
abbrev vwCl : List vw_C := [(RX0, TX0, 8), (RX1, TX1, 4), (RX2, TX2, 2), (RX3, TX3, 3), (RX4, TX4, 4), (RX5, TX5, 12), (RX6, TX6, 3), (RX7, TX7, 9), (RX8, TX8, 2), (RX9, TX9, 10), (RX10, TX10, 6), (RX11, TX11, 13)]
end
