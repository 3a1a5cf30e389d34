section
-- ===== PART A: goes FIRST, ahead of the names: the tables' words, and 'selects' of the private methods out of them =====
/-- a private method of a class that the tables say can be made, by its rows of tables_1 -/
def lw_okq (q : MethodName × Nat) : Prop := (q.1.cls ≠ "java/lang/invoke/MethodHandle" ∧ q.1.cls ≠ "java/lang/invoke/VarHandle") ∧ Cond.instantiable q.1.cls q.2 ∈ tables_1 ∧ Cond.privateMethod q.1 ∈ tables_1 ∧ Cond.instanceMethod q.1 ∈ tables_1
theorem lw_p0 : lw_okq (⟨"SsaRepair$Flow", "findReachable", "()V"⟩, 13) := ⟨⟨by decide +kernel, by decide +kernel⟩, List.mem_of_getElem? (i := 27) (by decide +kernel), List.mem_of_getElem? (i := 196) (by decide +kernel), List.mem_of_getElem? (i := 197) (by decide +kernel)⟩
theorem lw_p1 : lw_okq (⟨"SsaRepair$Flow", "reachedWithout", "(I)I"⟩, 13) := ⟨⟨by decide +kernel, by decide +kernel⟩, List.mem_of_getElem? (i := 27) (by decide +kernel), List.mem_of_getElem? (i := 212) (by decide +kernel), List.mem_of_getElem? (i := 213) (by decide +kernel)⟩
theorem lw_p2 : lw_okq (⟨"SsaRepair$Flow", "findSourcesOfEdges", "(I)I"⟩, 13) := ⟨⟨by decide +kernel, by decide +kernel⟩, List.mem_of_getElem? (i := 27) (by decide +kernel), List.mem_of_getElem? (i := 219) (by decide +kernel), List.mem_of_getElem? (i := 220) (by decide +kernel)⟩
theorem lw_p3 : lw_okq (⟨"SsaRepair$Flow", "findDominators", "()V"⟩, 13) := ⟨⟨by decide +kernel, by decide +kernel⟩, List.mem_of_getElem? (i := 27) (by decide +kernel), List.mem_of_getElem? (i := 223) (by decide +kernel), List.mem_of_getElem? (i := 224) (by decide +kernel)⟩
theorem lw_p4 : lw_okq (⟨"SsaRepair$Flow", "findParent", "(I)I"⟩, 13) := ⟨⟨by decide +kernel, by decide +kernel⟩, List.mem_of_getElem? (i := 27) (by decide +kernel), List.mem_of_getElem? (i := 227) (by decide +kernel), List.mem_of_getElem? (i := 228) (by decide +kernel)⟩
theorem lw_p5 : lw_okq (⟨"SsaRepair$Flow", "findFrontier", "(I)I"⟩, 13) := ⟨⟨by decide +kernel, by decide +kernel⟩, List.mem_of_getElem? (i := 27) (by decide +kernel), List.mem_of_getElem? (i := 231) (by decide +kernel), List.mem_of_getElem? (i := 232) (by decide +kernel)⟩
theorem lw_p6 : lw_okq (⟨"SsaRepair$Flow", "findDefining", "(I)I"⟩, 13) := ⟨⟨by decide +kernel, by decide +kernel⟩, List.mem_of_getElem? (i := 27) (by decide +kernel), List.mem_of_getElem? (i := 235) (by decide +kernel), List.mem_of_getElem? (i := 236) (by decide +kernel)⟩
theorem lw_p7 : lw_okq (⟨"SsaRepair$Flow", "findLive", "(I)I"⟩, 13) := ⟨⟨by decide +kernel, by decide +kernel⟩, List.mem_of_getElem? (i := 27) (by decide +kernel), List.mem_of_getElem? (i := 247) (by decide +kernel), List.mem_of_getElem? (i := 248) (by decide +kernel)⟩
theorem lw_p8 : lw_okq (⟨"SsaRepair$Flow", "isLiveGiven", "(III)Z"⟩, 13) := ⟨⟨by decide +kernel, by decide +kernel⟩, List.mem_of_getElem? (i := 27) (by decide +kernel), List.mem_of_getElem? (i := 251) (by decide +kernel), List.mem_of_getElem? (i := 252) (by decide +kernel)⟩
theorem lw_p9 : lw_okq (⟨"SsaRepair$Flow", "findMinimal", "(I)I"⟩, 13) := ⟨⟨by decide +kernel, by decide +kernel⟩, List.mem_of_getElem? (i := 27) (by decide +kernel), List.mem_of_getElem? (i := 259) (by decide +kernel), List.mem_of_getElem? (i := 260) (by decide +kernel)⟩
theorem lw_p10 : lw_okq (⟨"SsaRepair$Flow", "noteUses", "(I)V"⟩, 13) := ⟨⟨by decide +kernel, by decide +kernel⟩, List.mem_of_getElem? (i := 27) (by decide +kernel), List.mem_of_getElem? (i := 320) (by decide +kernel), List.mem_of_getElem? (i := 321) (by decide +kernel)⟩
theorem lw_p11 : lw_okq (⟨"SsaRepair$Flow", "noteNeeded", "(I)V"⟩, 13) := ⟨⟨by decide +kernel, by decide +kernel⟩, List.mem_of_getElem? (i := 27) (by decide +kernel), List.mem_of_getElem? (i := 340) (by decide +kernel), List.mem_of_getElem? (i := 341) (by decide +kernel)⟩
theorem lw_p12 : lw_okq (⟨"SsaRepair$Flow", "noteOperands", "(I)V"⟩, 13) := ⟨⟨by decide +kernel, by decide +kernel⟩, List.mem_of_getElem? (i := 27) (by decide +kernel), List.mem_of_getElem? (i := 344) (by decide +kernel), List.mem_of_getElem? (i := 345) (by decide +kernel)⟩
theorem lw_p13 : lw_okq (⟨"SsaRepair$Flow", "countUnneededIn", "(I)I"⟩, 13) := ⟨⟨by decide +kernel, by decide +kernel⟩, List.mem_of_getElem? (i := 27) (by decide +kernel), List.mem_of_getElem? (i := 352) (by decide +kernel), List.mem_of_getElem? (i := 353) (by decide +kernel)⟩
theorem lw_p14 : lw_okq (⟨"SsaRepair", "readPrevious", "()Z"⟩, 10) := ⟨⟨by decide +kernel, by decide +kernel⟩, List.mem_of_getElem? (i := 19) (by decide +kernel), List.mem_of_getElem? (i := 360) (by decide +kernel), List.mem_of_getElem? (i := 361) (by decide +kernel)⟩
theorem lw_p15 : lw_okq (⟨"SsaRepair", "changedUsesIn", "(I)I"⟩, 10) := ⟨⟨by decide +kernel, by decide +kernel⟩, List.mem_of_getElem? (i := 19) (by decide +kernel), List.mem_of_getElem? (i := 388) (by decide +kernel), List.mem_of_getElem? (i := 389) (by decide +kernel)⟩
def lw_privs_1 : List (MethodName × Nat) := [(⟨"SsaRepair$Flow", "findReachable", "()V"⟩, 13), (⟨"SsaRepair$Flow", "reachedWithout", "(I)I"⟩, 13), (⟨"SsaRepair$Flow", "findSourcesOfEdges", "(I)I"⟩, 13), (⟨"SsaRepair$Flow", "findDominators", "()V"⟩, 13), (⟨"SsaRepair$Flow", "findParent", "(I)I"⟩, 13), (⟨"SsaRepair$Flow", "findFrontier", "(I)I"⟩, 13), (⟨"SsaRepair$Flow", "findDefining", "(I)I"⟩, 13), (⟨"SsaRepair$Flow", "findLive", "(I)I"⟩, 13), (⟨"SsaRepair$Flow", "isLiveGiven", "(III)Z"⟩, 13), (⟨"SsaRepair$Flow", "findMinimal", "(I)I"⟩, 13), (⟨"SsaRepair$Flow", "noteUses", "(I)V"⟩, 13), (⟨"SsaRepair$Flow", "noteNeeded", "(I)V"⟩, 13), (⟨"SsaRepair$Flow", "noteOperands", "(I)V"⟩, 13), (⟨"SsaRepair$Flow", "countUnneededIn", "(I)I"⟩, 13), (⟨"SsaRepair", "readPrevious", "()Z"⟩, 10), (⟨"SsaRepair", "changedUsesIn", "(I)I"⟩, 10)]
theorem lw_r1 : ∀ q ∈ lw_privs_1, lw_okq q := List.forall_mem_cons.mpr ⟨lw_p0, List.forall_mem_cons.mpr ⟨lw_p1, List.forall_mem_cons.mpr ⟨lw_p2, List.forall_mem_cons.mpr ⟨lw_p3, List.forall_mem_cons.mpr ⟨lw_p4, List.forall_mem_cons.mpr ⟨lw_p5, List.forall_mem_cons.mpr ⟨lw_p6, List.forall_mem_cons.mpr ⟨lw_p7, List.forall_mem_cons.mpr ⟨lw_p8, List.forall_mem_cons.mpr ⟨lw_p9, List.forall_mem_cons.mpr ⟨lw_p10, List.forall_mem_cons.mpr ⟨lw_p11, List.forall_mem_cons.mpr ⟨lw_p12, List.forall_mem_cons.mpr ⟨lw_p13, List.forall_mem_cons.mpr ⟨lw_p14, List.forall_mem_cons.mpr ⟨lw_p15, fun _ h => absurd h List.not_mem_nil⟩⟩⟩⟩⟩⟩⟩⟩⟩⟩⟩⟩⟩⟩⟩⟩
theorem lw_p16 : lw_okq (⟨"java/lang/Throwable", "fillInStackTrace", "(I)Ljava/lang/Throwable;"⟩, 6) := ⟨⟨by decide +kernel, by decide +kernel⟩, List.mem_of_getElem? (i := 473) (by decide +kernel), List.mem_of_getElem? (i := 471) (by decide +kernel), List.mem_of_getElem? (i := 472) (by decide +kernel)⟩
theorem lw_p17 : lw_okq (⟨"SsaRepair", "followGraph", "()V"⟩, 10) := ⟨⟨by decide +kernel, by decide +kernel⟩, List.mem_of_getElem? (i := 19) (by decide +kernel), List.mem_of_getElem? (i := 515) (by decide +kernel), List.mem_of_getElem? (i := 516) (by decide +kernel)⟩
theorem lw_p18 : lw_okq (⟨"SsaRepair$Line", "letterAt", "(I)C"⟩, 7) := ⟨⟨by decide +kernel, by decide +kernel⟩, List.mem_of_getElem? (i := 133) (by decide +kernel), List.mem_of_getElem? (i := 559) (by decide +kernel), List.mem_of_getElem? (i := 560) (by decide +kernel)⟩
theorem lw_p19 : lw_okq (⟨"SsaRepair$Line", "readActions", "()V"⟩, 7) := ⟨⟨by decide +kernel, by decide +kernel⟩, List.mem_of_getElem? (i := 133) (by decide +kernel), List.mem_of_getElem? (i := 563) (by decide +kernel), List.mem_of_getElem? (i := 564) (by decide +kernel)⟩
theorem lw_p20 : lw_okq (⟨"SsaRepair$Line", "readTargets", "(II)V"⟩, 7) := ⟨⟨by decide +kernel, by decide +kernel⟩, List.mem_of_getElem? (i := 133) (by decide +kernel), List.mem_of_getElem? (i := 570) (by decide +kernel), List.mem_of_getElem? (i := 571) (by decide +kernel)⟩
theorem lw_p21 : lw_okq (⟨"SsaRepair$Line", "isTarget", "(I)Z"⟩, 7) := ⟨⟨by decide +kernel, by decide +kernel⟩, List.mem_of_getElem? (i := 133) (by decide +kernel), List.mem_of_getElem? (i := 574) (by decide +kernel), List.mem_of_getElem? (i := 575) (by decide +kernel)⟩
theorem lw_p22 : lw_okq (⟨"SsaRepair", "requireAction", "(II)V"⟩, 10) := ⟨⟨by decide +kernel, by decide +kernel⟩, List.mem_of_getElem? (i := 19) (by decide +kernel), List.mem_of_getElem? (i := 628) (by decide +kernel), List.mem_of_getElem? (i := 629) (by decide +kernel)⟩
theorem lw_p23 : lw_okq (⟨"SsaRepair", "requireBlock", "(I)V"⟩, 10) := ⟨⟨by decide +kernel, by decide +kernel⟩, List.mem_of_getElem? (i := 19) (by decide +kernel), List.mem_of_getElem? (i := 664) (by decide +kernel), List.mem_of_getElem? (i := 665) (by decide +kernel)⟩
theorem lw_p24 : lw_okq (⟨"SsaRepair", "requireReachable", "(I)V"⟩, 10) := ⟨⟨by decide +kernel, by decide +kernel⟩, List.mem_of_getElem? (i := 19) (by decide +kernel), List.mem_of_getElem? (i := 754) (by decide +kernel), List.mem_of_getElem? (i := 755) (by decide +kernel)⟩
theorem lw_p25 : lw_okq (⟨"SsaRepair", "requireVariable", "(I)V"⟩, 10) := ⟨⟨by decide +kernel, by decide +kernel⟩, List.mem_of_getElem? (i := 19) (by decide +kernel), List.mem_of_getElem? (i := 788) (by decide +kernel), List.mem_of_getElem? (i := 789) (by decide +kernel)⟩
theorem lw_p26 : lw_okq (⟨"SsaRepair", "requireMerge", "(II)V"⟩, 10) := ⟨⟨by decide +kernel, by decide +kernel⟩, List.mem_of_getElem? (i := 19) (by decide +kernel), List.mem_of_getElem? (i := 831) (by decide +kernel), List.mem_of_getElem? (i := 832) (by decide +kernel)⟩
theorem lw_p27 : lw_okq (⟨"SsaRepair$Flow", "isNewOperand", "(III)Z"⟩, 13) := ⟨⟨by decide +kernel, by decide +kernel⟩, List.mem_of_getElem? (i := 27) (by decide +kernel), List.mem_of_getElem? (i := 848) (by decide +kernel), List.mem_of_getElem? (i := 849) (by decide +kernel)⟩
theorem lw_p28 : lw_okq (⟨"SsaRepair$Flow", "countUsesIn", "(III)I"⟩, 13) := ⟨⟨by decide +kernel, by decide +kernel⟩, List.mem_of_getElem? (i := 27) (by decide +kernel), List.mem_of_getElem? (i := 863) (by decide +kernel), List.mem_of_getElem? (i := 864) (by decide +kernel)⟩
theorem lw_p29 : lw_okq (⟨"SsaRepair$Flow", "sourcesOfEdgesTo", "(I)I"⟩, 13) := ⟨⟨by decide +kernel, by decide +kernel⟩, List.mem_of_getElem? (i := 27) (by decide +kernel), List.mem_of_getElem? (i := 882) (by decide +kernel), List.mem_of_getElem? (i := 883) (by decide +kernel)⟩
theorem lw_p30 : lw_okq (⟨"SsaRepair$Walk", "lengthen", "(LSsaRepair$Graph;)V"⟩, 4) := ⟨⟨by decide +kernel, by decide +kernel⟩, List.mem_of_getElem? (i := 169) (by decide +kernel), List.mem_of_getElem? (i := 958) (by decide +kernel), List.mem_of_getElem? (i := 959) (by decide +kernel)⟩
theorem lw_p31 : lw_okq (⟨"SsaRepairModel", "fails", "(IZ)Z"⟩, 36) := ⟨⟨by decide +kernel, by decide +kernel⟩, List.mem_of_getElem? (i := 972) (by decide +kernel), List.mem_of_getElem? (i := 1100) (by decide +kernel), List.mem_of_getElem? (i := 1101) (by decide +kernel)⟩
def lw_privs_2 : List (MethodName × Nat) := [(⟨"java/lang/Throwable", "fillInStackTrace", "(I)Ljava/lang/Throwable;"⟩, 6), (⟨"SsaRepair", "followGraph", "()V"⟩, 10), (⟨"SsaRepair$Line", "letterAt", "(I)C"⟩, 7), (⟨"SsaRepair$Line", "readActions", "()V"⟩, 7), (⟨"SsaRepair$Line", "readTargets", "(II)V"⟩, 7), (⟨"SsaRepair$Line", "isTarget", "(I)Z"⟩, 7), (⟨"SsaRepair", "requireAction", "(II)V"⟩, 10), (⟨"SsaRepair", "requireBlock", "(I)V"⟩, 10), (⟨"SsaRepair", "requireReachable", "(I)V"⟩, 10), (⟨"SsaRepair", "requireVariable", "(I)V"⟩, 10), (⟨"SsaRepair", "requireMerge", "(II)V"⟩, 10), (⟨"SsaRepair$Flow", "isNewOperand", "(III)Z"⟩, 13), (⟨"SsaRepair$Flow", "countUsesIn", "(III)I"⟩, 13), (⟨"SsaRepair$Flow", "sourcesOfEdgesTo", "(I)I"⟩, 13), (⟨"SsaRepair$Walk", "lengthen", "(LSsaRepair$Graph;)V"⟩, 4), (⟨"SsaRepairModel", "fails", "(IZ)Z"⟩, 36)]
theorem lw_r2 : ∀ q ∈ lw_privs_2, lw_okq q := List.forall_mem_cons.mpr ⟨lw_p16, List.forall_mem_cons.mpr ⟨lw_p17, List.forall_mem_cons.mpr ⟨lw_p18, List.forall_mem_cons.mpr ⟨lw_p19, List.forall_mem_cons.mpr ⟨lw_p20, List.forall_mem_cons.mpr ⟨lw_p21, List.forall_mem_cons.mpr ⟨lw_p22, List.forall_mem_cons.mpr ⟨lw_p23, List.forall_mem_cons.mpr ⟨lw_p24, List.forall_mem_cons.mpr ⟨lw_p25, List.forall_mem_cons.mpr ⟨lw_p26, List.forall_mem_cons.mpr ⟨lw_p27, List.forall_mem_cons.mpr ⟨lw_p28, List.forall_mem_cons.mpr ⟨lw_p29, List.forall_mem_cons.mpr ⟨lw_p30, List.forall_mem_cons.mpr ⟨lw_p31, fun _ h => absurd h List.not_mem_nil⟩⟩⟩⟩⟩⟩⟩⟩⟩⟩⟩⟩⟩⟩⟩⟩
theorem lw_p32 : lw_okq (⟨"SsaRepairModel", "readLine", "()V"⟩, 36) := ⟨⟨by decide +kernel, by decide +kernel⟩, List.mem_of_getElem? (i := 972) (by decide +kernel), List.mem_of_getElem? (i := 1116) (by decide +kernel), List.mem_of_getElem? (i := 1117) (by decide +kernel)⟩
theorem lw_p33 : lw_okq (⟨"SsaRepairModel", "pass", "(CC)I"⟩, 36) := ⟨⟨by decide +kernel, by decide +kernel⟩, List.mem_of_getElem? (i := 972) (by decide +kernel), List.mem_of_getElem? (i := 1120) (by decide +kernel), List.mem_of_getElem? (i := 1121) (by decide +kernel)⟩
theorem lw_p34 : lw_okq (⟨"SsaRepairModel", "sees", "(C)Z"⟩, 36) := ⟨⟨by decide +kernel, by decide +kernel⟩, List.mem_of_getElem? (i := 972) (by decide +kernel), List.mem_of_getElem? (i := 1124) (by decide +kernel), List.mem_of_getElem? (i := 1125) (by decide +kernel)⟩
theorem lw_p35 : lw_okq (⟨"SsaRepairModel", "readTargets", "()V"⟩, 36) := ⟨⟨by decide +kernel, by decide +kernel⟩, List.mem_of_getElem? (i := 972) (by decide +kernel), List.mem_of_getElem? (i := 1128) (by decide +kernel), List.mem_of_getElem? (i := 1129) (by decide +kernel)⟩
theorem lw_p36 : lw_okq (⟨"SsaRepairModel", "isNewTarget", "(I)Z"⟩, 36) := ⟨⟨by decide +kernel, by decide +kernel⟩, List.mem_of_getElem? (i := 972) (by decide +kernel), List.mem_of_getElem? (i := 1132) (by decide +kernel), List.mem_of_getElem? (i := 1133) (by decide +kernel)⟩
theorem lw_p37 : lw_okq (⟨"SsaRepairModel", "remember", "()V"⟩, 36) := ⟨⟨by decide +kernel, by decide +kernel⟩, List.mem_of_getElem? (i := 972) (by decide +kernel), List.mem_of_getElem? (i := 1136) (by decide +kernel), List.mem_of_getElem? (i := 1137) (by decide +kernel)⟩
theorem lw_p38 : lw_okq (⟨"SsaRepairModel", "write", "([I)V"⟩, 36) := ⟨⟨by decide +kernel, by decide +kernel⟩, List.mem_of_getElem? (i := 972) (by decide +kernel), List.mem_of_getElem? (i := 1140) (by decide +kernel), List.mem_of_getElem? (i := 1141) (by decide +kernel)⟩
theorem lw_p39 : lw_okq (⟨"SsaRepairModel", "isAction", "(II)Z"⟩, 36) := ⟨⟨by decide +kernel, by decide +kernel⟩, List.mem_of_getElem? (i := 972) (by decide +kernel), List.mem_of_getElem? (i := 1152) (by decide +kernel), List.mem_of_getElem? (i := 1153) (by decide +kernel)⟩
theorem lw_p40 : lw_okq (⟨"SsaRepairModel", "isBlock", "(I)Z"⟩, 36) := ⟨⟨by decide +kernel, by decide +kernel⟩, List.mem_of_getElem? (i := 972) (by decide +kernel), List.mem_of_getElem? (i := 1156) (by decide +kernel), List.mem_of_getElem? (i := 1157) (by decide +kernel)⟩
theorem lw_p41 : lw_okq (⟨"SsaRepairModel", "edgeTo", "(II)I"⟩, 36) := ⟨⟨by decide +kernel, by decide +kernel⟩, List.mem_of_getElem? (i := 972) (by decide +kernel), List.mem_of_getElem? (i := 1164) (by decide +kernel), List.mem_of_getElem? (i := 1165) (by decide +kernel)⟩
theorem lw_p42 : lw_okq (⟨"SsaRepairModel", "isUnreached", "(I)Z"⟩, 36) := ⟨⟨by decide +kernel, by decide +kernel⟩, List.mem_of_getElem? (i := 972) (by decide +kernel), List.mem_of_getElem? (i := 1196) (by decide +kernel), List.mem_of_getElem? (i := 1197) (by decide +kernel)⟩
theorem lw_p43 : lw_okq (⟨"SsaRepairModel", "analyze", "()V"⟩, 36) := ⟨⟨by decide +kernel, by decide +kernel⟩, List.mem_of_getElem? (i := 972) (by decide +kernel), List.mem_of_getElem? (i := 1200) (by decide +kernel), List.mem_of_getElem? (i := 1201) (by decide +kernel)⟩
theorem lw_p44 : lw_okq (⟨"SsaRepairModel", "findReached", "()V"⟩, 36) := ⟨⟨by decide +kernel, by decide +kernel⟩, List.mem_of_getElem? (i := 972) (by decide +kernel), List.mem_of_getElem? (i := 1204) (by decide +kernel), List.mem_of_getElem? (i := 1205) (by decide +kernel)⟩
theorem lw_p45 : lw_okq (⟨"SsaRepairModel", "findDominators", "()V"⟩, 36) := ⟨⟨by decide +kernel, by decide +kernel⟩, List.mem_of_getElem? (i := 972) (by decide +kernel), List.mem_of_getElem? (i := 1211) (by decide +kernel), List.mem_of_getElem? (i := 1212) (by decide +kernel)⟩
theorem lw_p46 : lw_okq (⟨"SsaRepairModel", "findParents", "()V"⟩, 36) := ⟨⟨by decide +kernel, by decide +kernel⟩, List.mem_of_getElem? (i := 972) (by decide +kernel), List.mem_of_getElem? (i := 1215) (by decide +kernel), List.mem_of_getElem? (i := 1216) (by decide +kernel)⟩
theorem lw_p47 : lw_okq (⟨"SsaRepairModel", "isDominator", "(II)Z"⟩, 36) := ⟨⟨by decide +kernel, by decide +kernel⟩, List.mem_of_getElem? (i := 972) (by decide +kernel), List.mem_of_getElem? (i := 1219) (by decide +kernel), List.mem_of_getElem? (i := 1220) (by decide +kernel)⟩
def lw_privs_3 : List (MethodName × Nat) := [(⟨"SsaRepairModel", "readLine", "()V"⟩, 36), (⟨"SsaRepairModel", "pass", "(CC)I"⟩, 36), (⟨"SsaRepairModel", "sees", "(C)Z"⟩, 36), (⟨"SsaRepairModel", "readTargets", "()V"⟩, 36), (⟨"SsaRepairModel", "isNewTarget", "(I)Z"⟩, 36), (⟨"SsaRepairModel", "remember", "()V"⟩, 36), (⟨"SsaRepairModel", "write", "([I)V"⟩, 36), (⟨"SsaRepairModel", "isAction", "(II)Z"⟩, 36), (⟨"SsaRepairModel", "isBlock", "(I)Z"⟩, 36), (⟨"SsaRepairModel", "edgeTo", "(II)I"⟩, 36), (⟨"SsaRepairModel", "isUnreached", "(I)Z"⟩, 36), (⟨"SsaRepairModel", "analyze", "()V"⟩, 36), (⟨"SsaRepairModel", "findReached", "()V"⟩, 36), (⟨"SsaRepairModel", "findDominators", "()V"⟩, 36), (⟨"SsaRepairModel", "findParents", "()V"⟩, 36), (⟨"SsaRepairModel", "isDominator", "(II)Z"⟩, 36)]
theorem lw_r3 : ∀ q ∈ lw_privs_3, lw_okq q := List.forall_mem_cons.mpr ⟨lw_p32, List.forall_mem_cons.mpr ⟨lw_p33, List.forall_mem_cons.mpr ⟨lw_p34, List.forall_mem_cons.mpr ⟨lw_p35, List.forall_mem_cons.mpr ⟨lw_p36, List.forall_mem_cons.mpr ⟨lw_p37, List.forall_mem_cons.mpr ⟨lw_p38, List.forall_mem_cons.mpr ⟨lw_p39, List.forall_mem_cons.mpr ⟨lw_p40, List.forall_mem_cons.mpr ⟨lw_p41, List.forall_mem_cons.mpr ⟨lw_p42, List.forall_mem_cons.mpr ⟨lw_p43, List.forall_mem_cons.mpr ⟨lw_p44, List.forall_mem_cons.mpr ⟨lw_p45, List.forall_mem_cons.mpr ⟨lw_p46, List.forall_mem_cons.mpr ⟨lw_p47, fun _ h => absurd h List.not_mem_nil⟩⟩⟩⟩⟩⟩⟩⟩⟩⟩⟩⟩⟩⟩⟩⟩
theorem lw_p48 : lw_okq (⟨"SsaRepairModel", "findLive", "(I)V"⟩, 36) := ⟨⟨by decide +kernel, by decide +kernel⟩, List.mem_of_getElem? (i := 972) (by decide +kernel), List.mem_of_getElem? (i := 1223) (by decide +kernel), List.mem_of_getElem? (i := 1224) (by decide +kernel)⟩
theorem lw_p49 : lw_okq (⟨"SsaRepairModel", "isUsedFirst", "(II)Z"⟩, 36) := ⟨⟨by decide +kernel, by decide +kernel⟩, List.mem_of_getElem? (i := 972) (by decide +kernel), List.mem_of_getElem? (i := 1227) (by decide +kernel), List.mem_of_getElem? (i := 1228) (by decide +kernel)⟩
theorem lw_p50 : lw_okq (⟨"SsaRepairModel", "lastDefinition", "(III)I"⟩, 36) := ⟨⟨by decide +kernel, by decide +kernel⟩, List.mem_of_getElem? (i := 972) (by decide +kernel), List.mem_of_getElem? (i := 1231) (by decide +kernel), List.mem_of_getElem? (i := 1232) (by decide +kernel)⟩
theorem lw_p51 : lw_okq (⟨"SsaRepairModel", "isDefined", "(II)Z"⟩, 36) := ⟨⟨by decide +kernel, by decide +kernel⟩, List.mem_of_getElem? (i := 972) (by decide +kernel), List.mem_of_getElem? (i := 1235) (by decide +kernel), List.mem_of_getElem? (i := 1236) (by decide +kernel)⟩
theorem lw_p52 : lw_okq (⟨"SsaRepairModel", "findMerges", "(I)V"⟩, 36) := ⟨⟨by decide +kernel, by decide +kernel⟩, List.mem_of_getElem? (i := 972) (by decide +kernel), List.mem_of_getElem? (i := 1239) (by decide +kernel), List.mem_of_getElem? (i := 1240) (by decide +kernel)⟩
theorem lw_p53 : lw_okq (⟨"SsaRepairModel", "beginSource", "(II)I"⟩, 36) := ⟨⟨by decide +kernel, by decide +kernel⟩, List.mem_of_getElem? (i := 972) (by decide +kernel), List.mem_of_getElem? (i := 1243) (by decide +kernel), List.mem_of_getElem? (i := 1244) (by decide +kernel)⟩
theorem lw_p54 : lw_okq (⟨"SsaRepairModel", "endSource", "(III)I"⟩, 36) := ⟨⟨by decide +kernel, by decide +kernel⟩, List.mem_of_getElem? (i := 972) (by decide +kernel), List.mem_of_getElem? (i := 1247) (by decide +kernel), List.mem_of_getElem? (i := 1248) (by decide +kernel)⟩
theorem lw_p55 : lw_okq (⟨"SsaRepairModel", "failsAt", "(II)Z"⟩, 36) := ⟨⟨by decide +kernel, by decide +kernel⟩, List.mem_of_getElem? (i := 972) (by decide +kernel), List.mem_of_getElem? (i := 1271) (by decide +kernel), List.mem_of_getElem? (i := 1272) (by decide +kernel)⟩
theorem lw_p56 : lw_okq (⟨"SsaRepairModel", "countMerges", "()I"⟩, 36) := ⟨⟨by decide +kernel, by decide +kernel⟩, List.mem_of_getElem? (i := 972) (by decide +kernel), List.mem_of_getElem? (i := 1290) (by decide +kernel), List.mem_of_getElem? (i := 1291) (by decide +kernel)⟩
theorem lw_p57 : lw_okq (⟨"SsaRepairModel", "useSource", "(II)I"⟩, 36) := ⟨⟨by decide +kernel, by decide +kernel⟩, List.mem_of_getElem? (i := 972) (by decide +kernel), List.mem_of_getElem? (i := 1305) (by decide +kernel), List.mem_of_getElem? (i := 1306) (by decide +kernel)⟩
theorem lw_p58 : lw_okq (⟨"SsaRepairModel", "countUses", "(II)I"⟩, 36) := ⟨⟨by decide +kernel, by decide +kernel⟩, List.mem_of_getElem? (i := 972) (by decide +kernel), List.mem_of_getElem? (i := 1321) (by decide +kernel), List.mem_of_getElem? (i := 1322) (by decide +kernel)⟩
theorem lw_p59 : lw_okq (⟨"SsaRepairModel", "isOperand", "(II)Z"⟩, 36) := ⟨⟨by decide +kernel, by decide +kernel⟩, List.mem_of_getElem? (i := 972) (by decide +kernel), List.mem_of_getElem? (i := 1329) (by decide +kernel), List.mem_of_getElem? (i := 1330) (by decide +kernel)⟩
theorem lw_p60 : lw_okq (⟨"SsaRepairModel", "countReaching", "(III)I"⟩, 36) := ⟨⟨by decide +kernel, by decide +kernel⟩, List.mem_of_getElem? (i := 972) (by decide +kernel), List.mem_of_getElem? (i := 1337) (by decide +kernel), List.mem_of_getElem? (i := 1338) (by decide +kernel)⟩
theorem lw_p61 : lw_okq (⟨"SsaRepairModel", "arrival", "(IIZ)I"⟩, 36) := ⟨⟨by decide +kernel, by decide +kernel⟩, List.mem_of_getElem? (i := 972) (by decide +kernel), List.mem_of_getElem? (i := 1341) (by decide +kernel), List.mem_of_getElem? (i := 1342) (by decide +kernel)⟩
theorem lw_p62 : lw_okq (⟨"SsaRepairModel", "isReportEmpty", "()Z"⟩, 36) := ⟨⟨by decide +kernel, by decide +kernel⟩, List.mem_of_getElem? (i := 972) (by decide +kernel), List.mem_of_getElem? (i := 1357) (by decide +kernel), List.mem_of_getElem? (i := 1358) (by decide +kernel)⟩
theorem lw_p63 : lw_okq (⟨"SsaRepairModel", "take", "([I)V"⟩, 36) := ⟨⟨by decide +kernel, by decide +kernel⟩, List.mem_of_getElem? (i := 972) (by decide +kernel), List.mem_of_getElem? (i := 1361) (by decide +kernel), List.mem_of_getElem? (i := 1362) (by decide +kernel)⟩
def lw_privs_4 : List (MethodName × Nat) := [(⟨"SsaRepairModel", "findLive", "(I)V"⟩, 36), (⟨"SsaRepairModel", "isUsedFirst", "(II)Z"⟩, 36), (⟨"SsaRepairModel", "lastDefinition", "(III)I"⟩, 36), (⟨"SsaRepairModel", "isDefined", "(II)Z"⟩, 36), (⟨"SsaRepairModel", "findMerges", "(I)V"⟩, 36), (⟨"SsaRepairModel", "beginSource", "(II)I"⟩, 36), (⟨"SsaRepairModel", "endSource", "(III)I"⟩, 36), (⟨"SsaRepairModel", "failsAt", "(II)Z"⟩, 36), (⟨"SsaRepairModel", "countMerges", "()I"⟩, 36), (⟨"SsaRepairModel", "useSource", "(II)I"⟩, 36), (⟨"SsaRepairModel", "countUses", "(II)I"⟩, 36), (⟨"SsaRepairModel", "isOperand", "(II)Z"⟩, 36), (⟨"SsaRepairModel", "countReaching", "(III)I"⟩, 36), (⟨"SsaRepairModel", "arrival", "(IIZ)I"⟩, 36), (⟨"SsaRepairModel", "isReportEmpty", "()Z"⟩, 36), (⟨"SsaRepairModel", "take", "([I)V"⟩, 36)]
theorem lw_r4 : ∀ q ∈ lw_privs_4, lw_okq q := List.forall_mem_cons.mpr ⟨lw_p48, List.forall_mem_cons.mpr ⟨lw_p49, List.forall_mem_cons.mpr ⟨lw_p50, List.forall_mem_cons.mpr ⟨lw_p51, List.forall_mem_cons.mpr ⟨lw_p52, List.forall_mem_cons.mpr ⟨lw_p53, List.forall_mem_cons.mpr ⟨lw_p54, List.forall_mem_cons.mpr ⟨lw_p55, List.forall_mem_cons.mpr ⟨lw_p56, List.forall_mem_cons.mpr ⟨lw_p57, List.forall_mem_cons.mpr ⟨lw_p58, List.forall_mem_cons.mpr ⟨lw_p59, List.forall_mem_cons.mpr ⟨lw_p60, List.forall_mem_cons.mpr ⟨lw_p61, List.forall_mem_cons.mpr ⟨lw_p62, List.forall_mem_cons.mpr ⟨lw_p63, fun _ h => absurd h List.not_mem_nil⟩⟩⟩⟩⟩⟩⟩⟩⟩⟩⟩⟩⟩⟩⟩⟩
theorem lw_p64 : lw_okq (⟨"SsaRepairModel", "end", "()I"⟩, 36) := ⟨⟨by decide +kernel, by decide +kernel⟩, List.mem_of_getElem? (i := 972) (by decide +kernel), List.mem_of_getElem? (i := 1385) (by decide +kernel), List.mem_of_getElem? (i := 1386) (by decide +kernel)⟩
def lw_privs_5 : List (MethodName × Nat) := [(⟨"SsaRepairModel", "end", "()I"⟩, 36)]
theorem lw_r5 : ∀ q ∈ lw_privs_5, lw_okq q := List.forall_mem_cons.mpr ⟨lw_p64, fun _ h => absurd h List.not_mem_nil⟩
def lw_privs : List (MethodName × Nat) := lw_privs_1 ++ (lw_privs_2 ++ (lw_privs_3 ++ (lw_privs_4 ++ (lw_privs_5))))
def lw_tbl : List Cond := k2_sels lw_privs ++ tables_1
theorem lw_privs_ok : ∀ q ∈ lw_privs, lw_okq q := by
  show ∀ q ∈ lw_privs_1 ++ (lw_privs_2 ++ (lw_privs_3 ++ (lw_privs_4 ++ (lw_privs_5)))), lw_okq q
  exact List.forall_mem_append.mpr ⟨lw_r1, List.forall_mem_append.mpr ⟨lw_r2, List.forall_mem_append.mpr ⟨lw_r3, List.forall_mem_append.mpr ⟨lw_r4, lw_r5⟩⟩⟩⟩
/-- the streams that the claim lets the run draw from -/
abbrev lw_cs : List Choice := [Jvm.Choice.named "NaN.bits"]
theorem lw_bits : nanBits ∈ lw_cs := by first | decide | exact List.mem_cons_self | simp [lw_cs, nanBits]
end
section
/-- the tables' word on an array of arrays (as va_AO) -/
def va_AOA (ty : FieldType) (U : State) : Prop := (Cond.arrayOver (.array ty)).before #[] U = true
theorem va_AOA.of {ty : FieldType} {A : Array Value} {U : State} (h : (Cond.arrayOver (.array ty)).before A U = true) : va_AOA ty U := h
theorem va_AOA.use {ty : FieldType} {A : Array Value} {U : State} (h : va_AOA ty U) : (Cond.arrayOver (.array ty)).before A U = true := h
theorem va_AOA.spec {ty : FieldType} {U : State} (h : va_AOA ty U) : ∃ comp c k, U.vm.findClass (FieldType.array ty).toString = some comp ∧ (U.vm.classes.findIdx? fun x => match x.kind with | .array component _ => component == comp | _ => false) = some c ∧ U.vm.classes[c]? = some k ∧ k.kind = .array comp (.array ty) ∧ U.vm.findClass ("[" ++ (FieldType.array ty).toString) = some c := by
  unfold va_AOA Cond.before at h
  simp only [Cond.holds, Cond.value, beq_iff_eq] at h
  cases hc : U.vm.findClass (FieldType.array ty).toString with
  | none => simp [hc] at h
  | some comp =>
    simp only [hc, Option.bind_some, Option.bind_eq_some_iff, Option.map_eq_some_iff] at h
    obtain ⟨c, hi, k, hk, hb⟩ := h
    obtain ⟨hlt, hp, -⟩ := Array.findIdx?_eq_some_iff_getElem.mp hi
    rw [Array.getElem?_eq_getElem hlt] at hk
    cases hk
    revert hb hp
    cases hkd : (U.vm.classes[c]).kind with
    | array component t2 =>
      intro hp hb
      simp only [beq_iff_eq] at hp
      simp only [Bool.and_eq_true, decide_eq_true_eq] at hb
      exact ⟨comp, c, _, rfl, hi, Array.getElem?_eq_getElem hlt, by rw [hkd, hp, hb.1], hb.2⟩
    | _ => intro hp hb; simp at hp
theorem va_AOA.moved {ty : FieldType} {u U : State} (hvm : u.vm.Alike U.vm) (h : va_AOA ty u) : va_AOA ty U := by
  obtain ⟨comp, c, k, h1, h2, h3, h4, h5⟩ := h.spec
  obtain ⟨k', hk', he⟩ := hvm.2.2 _ _ h3
  have hi : (U.vm.classes.findIdx? fun (x : Class) => match x.kind with | .array component _ => component == comp | _ => false) = some c := by
    have e1 := va_idx_bare u.vm comp
    have e2 := va_idx_bare U.vm comp
    have e3 : u.vm.bare = U.vm.bare := by first | exact hvm.bare_eq | exact hvm.bare_eq.symm
    rw [e3] at e1
    exact (e2.symm.trans e1).trans h2
  have hkind : k'.kind = .array comp (.array ty) := by rw [he]; exact h4
  have f1 : U.vm.findClass (FieldType.array ty).toString = some comp := by rw [hvm.findClass]; exact h1
  have f2 : U.vm.findClass ("[" ++ (FieldType.array ty).toString) = some c := by rw [hvm.findClass]; exact h5
  unfold va_AOA Cond.before Cond.holds
  simp only [Cond.value]
  rw [f1, Option.bind_some]
  refine (congrArg (fun o : Option Nat => (o.bind (fun c => (U.vm.classes[c]?).map fun (k : Class) => match k.kind with | .array _ t2 => decide (t2 = FieldType.array ty) && decide (U.vm.findClass ("[" ++ (FieldType.array ty).toString) = some c) | _ => false) == some true)) hi).trans ?_
  simp [hk', hkind, f2]
/-! ===== BEGIN words of one list among another's, by their places ===== -/
theorem goodIn_r {big : List Cond} (ws : List Cond) (ps : List Nat) (hp : ws = ps.filterMap (fun i => big[i]?)) (h : ws.all goodWord = true) : GoodIn big ws := by
  intro w hw
  have h1 := List.all_eq_true.mp h w hw
  rw [hp] at hw
  obtain ⟨i, -, hi⟩ := List.mem_filterMap.mp hw
  have hm : w ∈ big := by first | exact List.mem_of_getElem? hi | exact List.getElem?_mem hi
  exact ⟨hm, good_of_word h1⟩
theorem goodIn_app {big a b : List Cond} (ha : GoodIn big a) (hb : GoodIn big b) : GoodIn big (a ++ b) := fun w h => (List.mem_append.mp h).elim (ha w) (hb w)
theorem goodIn_ca {big a b : List Cond} {c : Cond} (ha : GoodIn big (c :: a)) (hb : GoodIn big b) : GoodIn big (c :: (a ++ b)) := fun w h => (List.mem_cons.mp h).elim (fun e => ha w (List.mem_cons.mpr (Or.inl e))) (fun h => (List.mem_append.mp h).elim (fun h => ha w (List.mem_cons.mpr (Or.inr h))) (hb w))
theorem goodIn_sub {big ws : List Cond} (hm : ∀ w ∈ ws, w ∈ big) (h : ws.all goodWord = true) : GoodIn big ws := fun w hw => ⟨hm w hw, good_of_word (List.all_eq_true.mp h w hw)⟩
/-! ===== END ===== -/

/-! ===== BEGIN new T[n][m]: the outer array a place, the inner ones among the pooled ===== -/
/-- f, but v at every address of l -/
def vr_up {α : Type} (f : Nat → α) (l : List Nat) (v : α) : Nat → α := fun a => if a ∈ l then v else f a
theorem vr_up_in {α : Type} {f : Nat → α} {l : List Nat} {v : α} {a : Nat} (h : a ∈ l) : vr_up f l v a = v := if_pos h
theorem vr_up_ne {α : Type} {f : Nat → α} {l : List Nat} {v : α} {a : Nat} (h : a ∉ l) : vr_up f l v a = f a := if_neg h
theorem vr_rows {L l : List Nat} {f : Nat → va_E} {e : va_E} (h : ∀ a, a ∈ l → a ∉ L) : va_pl L f ++ l.map (fun a => (a, e)) = va_pl (L ++ l) (vr_up f l e) := by
  unfold va_pl
  rw [List.map_append]
  congr 1
  · apply List.map_congr_left
    intro a ha
    rw [vr_up_ne (fun q => h a q ha)]
  · apply List.map_congr_left
    intro a ha
    rw [vr_up_in ha]
theorem vr_lay {X rows : va_W} {x : Nat × va_E} {pl : va_W} {D : va_G} {cl : List vw_C} {H : Heap} (hP : va_P D cl (((X ++ pl) ++ [x]) ++ rows) H) : va_P D cl ((X ++ [x]) ++ (pl ++ rows)) H := by
  rw [List.append_assoc (X ++ pl)] at hP
  have h := va_P.swap hP
  rw [← List.append_assoc X] at h
  have h2 := va_P.swap h
  rw [List.append_assoc (X ++ [x])] at h2
  exact h2
theorem vr_layD {X rows : va_W} {x : Nat × va_E} {pl : va_W} {A : Nat → Prop} (hD : va_D A (((X ++ pl) ++ [x]) ++ rows)) : va_D A ((X ++ [x]) ++ (pl ++ rows)) := by
  rw [List.append_assoc (X ++ pl)] at hD
  have h := va_D.swap hD
  rw [← List.append_assoc X] at h
  have h2 := va_D.swap h
  rw [List.append_assoc (X ++ [x])] at h2
  exact h2
theorem vr_outer (c : ClassId) (N h0 : Nat) : ∀ i : Nat, Jvm.Free.Multi.outerC c N h0 i = arrV c N (fun j => va_rf (if j < i then some (h0 + 1 + j) else none))
  | 0 => by
    show ({ cls := c, slots := Array.replicate N .null, vm := .none } : Cell) = _
    rw [arrV_new]
    refine congrArg (arrV c N) (funext fun j => ?_)
    simp [va_rf]
  | i + 1 => by
    show (Jvm.Free.Multi.outerC c N h0 i).setSlot i (.ref (h0 + 1 + i)) = _
    rw [vr_outer c N h0 i, arrV_store]
    refine congrArg (arrV c N) (funext fun j => ?_)
    by_cases e : j = i
    · subst e
      simp [updV, va_rf]
    · by_cases h : j < i
      · simp [updV, e, h, Nat.lt_succ_of_lt h]
      · simp [updV, e, h, show ¬ j < i + 1 by omega]
section VGM
variable {p : Program} {l : Launch} {e : Env} {R : Room} {s : State} {m : MethodId} {args : Array Value} {below : List Frame} {meth : Method} {c : Code} {H : Heap} {locs : List Loc} {cells slots : Nat} {Q : State → Prop}
variable {cc : ByteArray} {pc : Nat} {ls : Array Slot} {rest : List Value} {D : va_G} {cl : List vw_C} {A : Nat → Prop} {a : Nat} {tys : List (ClassId × FieldType)} {ws : va_W} {H0 : Heap}
theorem va_mna {X : va_W} {L : List Nat} {f : Nat → va_E} {cc : ByteArray} (hexec : p.tables.exec = Jvm.exec) (hb : c.code = cc) {own : String} {index : Nat} {ty : FieldType} {cy : ClassId} (hown : s.vm.findClass own = some m.cls) (hclink : (Cond.classLink own index ("[" ++ (FieldType.array ty).toString)).before args s = true) (hover : va_AOA ty s) (harr : (Cond.arrayClass ty).before args s = true) (hcy : s.vm.findClass (FieldType.array ty).toString = some cy)
    (hK : va_K D cl tys s) (hP : va_P D cl (X ++ va_pl L f) H) (hD : va_D A (X ++ va_pl L f)) (hS : va_S A H0 H locs) (hA : ∀ q, H0.size ≤ q → A q) {n k : Int32} {N' K' : Nat} {z : vp_A} (hn : ¬ n < 0) (hk : ¬ k < 0) (hN : n.toNatClampNeg = N') (hM : k.toNatClampNeg = K')
    (hb1 : N' * 4 ≤ 536870912) (hb2 : K' * componentBytes ty ≤ 536870912) (hb3 : K' ≤ 536870912) (hdf : fits ty (defaultValue ty) = true) (hdd : (defaultValue ty).isDefault = true) (hcells : cells + (1 + N') ≤ R.cells) (hslots : slots + (N' + N' * K') ≤ R.slots) (hz : ∀ c : ClassId, Jvm.Free.Multi.innerC c K' (defaultValue ty) = vp_cell c z) (hdg : decode cc pc = .ok (.multianewarray index 2, 4))
    (kk : ∀ (q : Nat) (r : Nat → Nat) (cA : ClassId) (H1 : Heap), (∀ i j : Nat, i < N' → j < N' → r i = r j → i = j) → (∀ i : Nat, i < N' → r i ∉ L) → va_K D cl (tys ++ [(cA, .array ty)]) s →
      va_P D cl ((X ++ [(q, .inl (cA, N', .inr (.inr (.inr (.inr (fun i => if i < N' then some (r i) else none))))))]) ++ va_pl (L ++ (List.range N').map r) (vr_up f ((List.range N').map r) (.inl (cy, z)))) H1 → va_D A ((X ++ [(q, .inl (cA, N', .inr (.inr (.inr (.inr (fun i => if i < N' then some (r i) else none))))))]) ++ va_pl (L ++ (List.range N').map r) (vr_up f ((List.range N').map r) (.inl (cy, z)))) → va_S A H0 H1 locs →
      W p l e R s m args below meth c H1 locs (cells + 1 + N') (slots + N' + N' * K') Q (F0 m (pc + 4) ls (.ref q :: rest))) : W p l e R s m args below meth c H locs cells slots Q (F0 m pc ls (.int k :: .int n :: rest)) := by
  subst hN
  subst hM
  intro T hT Xs
  obtain ⟨vm₁, cA, comp, -, fA, fC, hO, -, X', step⟩ := Xs.multianewarray2F hexec hown hclink (va_AOA.use hover) harr (g := F0 m pc ls (.int k :: .int n :: rest)) rfl (by rw [hb]; exact hdg) rfl hn hk hb1 hb2 hb3 hdf hdd hcells hslots
  have ec : some cy = some comp := hcy.symm.trans fC
  cases ec
  generalize hF : Jvm.Free.Multi.fill (T.setVm vm₁) cA cy n.toNatClampNeg k.toNatClampNeg (defaultValue ty) n.toNatClampNeg = F at X' step
  have hTh : (T.setVm vm₁).heap = H := hT
  obtain ⟨f1, f2, -, -⟩ := Jvm.Free.Multi.fill_facts (T.setVm vm₁) cA cy n.toNatClampNeg k.toNatClampNeg (defaultValue ty) n.toNatClampNeg
  rw [hF, hTh] at f1 f2
  have hold : ∀ x : Nat, x < H.size → F.heap[x]? = H[x]? := fun x hx => by
    have := Jvm.Free.Multi.fill_old (T.setVm vm₁) cA cy n.toNatClampNeg k.toNatClampNeg (defaultValue ty) (a := x) (by rw [hTh]; exact hx) n.toNatClampNeg
    rw [hF, hTh] at this
    exact this
  have hrow : ∀ j : Nat, j < n.toNatClampNeg → F.heap[H.size + 1 + j]? = some (vp_cell cy z) := fun j hj => by
    have := Jvm.Free.Multi.fill_inner (T.setVm vm₁) cA cy n.toNatClampNeg k.toNatClampNeg (defaultValue ty) n.toNatClampNeg j hj
    rw [hF, hTh, hz] at this
    exact this
  have hout : Jvm.Free.Multi.outerC cA n.toNatClampNeg H.size n.toNatClampNeg = vp_cell cA (n.toNatClampNeg, .inr (.inr (.inr (.inr (fun i => if i < n.toNatClampNeg then some (H.size + 1 + i) else none))))) := by
    rw [vp_cell_q]
    exact vr_outer cA n.toNatClampNeg H.size n.toNatClampNeg
  rw [hout] at f2
  have hlt : ∀ a, a ∈ L → a < H.size := fun a ha => by
    obtain ⟨k9, hk9⟩ := va_pl_get (X := X) (f := f) ha
    exact (hP k9 _ hk9).lt
  have hnl : ∀ i : Nat, i < n.toNatClampNeg → H.size + 1 + i ∉ L := fun i _ h => by
    have := hlt _ h
    omega
  have hnm : ∀ a, a ∈ (List.range n.toNatClampNeg).map (fun i => H.size + 1 + i) → a ∉ L := fun a ha h => by
    obtain ⟨i, -, rfl⟩ := List.mem_map.mp ha
    have := hlt _ h
    omega
  have hP0 : va_P D cl (X ++ va_pl L f) F.heap := hP.kept (fun k9 x hx => hold x.1 ((hP k9 x hx).lt))
  have hP1 : va_P D cl ((X ++ va_pl L f) ++ [(H.size, .inl (cA, n.toNatClampNeg, .inr (.inr (.inr (.inr (fun i => if i < n.toNatClampNeg then some (H.size + 1 + i) else none))))))]) F.heap := hP0.app (fun k9 x hx => by
    have h0 : k9 < 1 := (List.getElem?_eq_some_iff.mp hx).1
    rw [show k9 = 0 by omega] at hx
    cases hx
    exact f2)
  have hP2 : va_P D cl (((X ++ va_pl L f) ++ [(H.size, .inl (cA, n.toNatClampNeg, .inr (.inr (.inr (.inr (fun i => if i < n.toNatClampNeg then some (H.size + 1 + i) else none))))))]) ++ ((List.range n.toNatClampNeg).map (fun i => H.size + 1 + i)).map (fun a => (a, .inl (cy, z)))) F.heap := hP1.app (fun k9 x hx => by
    obtain ⟨a, ha, rfl⟩ := List.mem_map.mp (List.mem_of_getElem? hx)
    obtain ⟨i, hi, rfl⟩ := List.mem_map.mp ha
    exact hrow i (List.mem_range.mp hi))
  have hD2 : va_D A (((X ++ va_pl L f) ++ [(H.size, .inl (cA, n.toNatClampNeg, .inr (.inr (.inr (.inr (fun i => if i < n.toNatClampNeg then some (H.size + 1 + i) else none))))))]) ++ ((List.range n.toNatClampNeg).map (fun i => H.size + 1 + i)).map (fun a => (a, .inl (cy, z)))) := by
    have hD1 := hD.push (e := .inl (cA, n.toNatClampNeg, .inr (.inr (.inr (.inr (fun i => if i < n.toNatClampNeg then some (H.size + 1 + i) else none)))))) hP rfl (hA _ hS.1)
    generalize hW1 : (X ++ va_pl L f) ++ [(H.size, .inl (cA, n.toNatClampNeg, .inr (.inr (.inr (.inr (fun i => if i < n.toNatClampNeg then some (H.size + 1 + i) else none))))))] = W1 at hD1 hP1 ⊢
    have hle : ∀ (k9 : Nat) (x : Nat × va_E), W1[k9]? = some x → x.1 ≤ H.size := fun k9 x hx => by
      rw [← hW1] at hx
      by_cases hl : k9 < (X ++ va_pl L f).length
      · rw [List.getElem?_append_left hl] at hx
        exact Nat.le_of_lt ((hP k9 x hx).lt)
      · rw [List.getElem?_append_right (by omega)] at hx
        have h0 : k9 - (X ++ va_pl L f).length < 1 := (List.getElem?_eq_some_iff.mp hx).1
        rw [show k9 - (X ++ va_pl L f).length = 0 by omega] at hx
        cases hx
        exact Nat.le_refl _
    have hr : ∀ (k9 : Nat) (x : Nat × va_E), (((List.range n.toNatClampNeg).map (fun i => H.size + 1 + i)).map (fun a => ((a, .inl (cy, z)) : Nat × va_E)))[k9]? = some x → x.1 = H.size + 1 + k9 := fun k9 x hx => by
      rw [List.getElem?_map, List.getElem?_map] at hx
      by_cases h9 : k9 < n.toNatClampNeg
      · rw [List.getElem?_range h9] at hx
        cases hx
        rfl
      · have hn0 : (List.range n.toNatClampNeg)[k9]? = none := List.getElem?_eq_none (by rw [List.length_range]; omega)
        rw [hn0] at hx
        cases hx
    refine ⟨fun i j x y hi hj hxy => ?_, fun k9 x hx => ?_⟩
    · by_cases h1 : i < W1.length <;> by_cases h2 : j < W1.length
      · rw [List.getElem?_append_left h1] at hi
        rw [List.getElem?_append_left h2] at hj
        exact hD1.1 i j x y hi hj hxy
      · rw [List.getElem?_append_left h1] at hi
        rw [List.getElem?_append_right (by omega)] at hj
        have := hle _ _ hi
        have := hr _ _ hj
        omega
      · rw [List.getElem?_append_right (by omega)] at hi
        rw [List.getElem?_append_left h2] at hj
        have := hle _ _ hj
        have := hr _ _ hi
        omega
      · rw [List.getElem?_append_right (by omega)] at hi hj
        have := hr _ _ hi
        have := hr _ _ hj
        omega
    · by_cases h1 : k9 < W1.length
      · rw [List.getElem?_append_left h1] at hx
        exact hD1.2 k9 x hx
      · rw [List.getElem?_append_right (by omega)] at hx
        have := hr _ _ hx
        exact hA _ (by have := hS.1; omega)
  have hAr : ArrOfT s cA (.array ty) := fun N9 z9 => by
    obtain ⟨-, k9, hk9, cm9, hkk9⟩ := (hO 0 0 0).1
    exact ⟨(fun q hq => by cases hq), k9, hk9, cm9, hkk9⟩
  have hK2 : va_K D cl (tys ++ [(cA, .array ty)]) s := ⟨hK.1, fun k9 x hx => by
    by_cases hl : k9 < tys.length
    · rw [List.getElem?_append_left hl] at hx
      exact hK.2 k9 x hx
    · rw [List.getElem?_append_right (by omega)] at hx
      have h0 : k9 - tys.length < 1 := (List.getElem?_eq_some_iff.mp hx).1
      rw [show k9 - tys.length = 0 by omega] at hx
      cases hx
      exact ⟨hAr, fA⟩⟩
  obtain ⟨t, a1, b1⟩ := kk H.size (fun i => H.size + 1 + i) cA F.heap (fun i j _ _ h => by have h9 : H.size + 1 + i = H.size + 1 + j := h; omega) hnl hK2 (by rw [← vr_rows hnm]; exact vr_lay hP2) (by rw [← vr_rows hnm]; exact vr_layD hD2) ⟨by rw [f1]; have := hS.1; omega, fun x h1 h2 => (hold x (Nat.lt_of_lt_of_le h1 hS.1)).trans (hS.2.1 x h1 h2), hS.2.2⟩ F rfl X'
  refine ⟨t, step t ?_, b1⟩
  have e : T.heap.size = H.size := by rw [hT]
  rw [e]
  exact a1
end VGM
/-! ===== END ===== -/

/-! ===== BEGIN exceptions that leave a method, and their catching by the caller (launches without stack traces) ===== -/
section VXA
/-! The laws vx_back, vx_callV, vx_callS, vx_callSW, vx_throw0, vx_throwS follow proofs of the library, with one case more: JvmDerived/Free/Laws.lean (Back.of_free), Shelf42/LK1.lean (callV, callS), Shelf/KitTraced.lean (throwNew0V, throwNewS). -/
/-- where a method has thrown q: the class by its name, the cell, what was written, the world -/
def vx_T (XC : String → State → State → Prop) (st : State) (q : Addr) (t : State) (mc ms : Nat) (free : Addr → Prop) : Prop :=
  ∃ (E : String) (ce : Cell) (L : List Loc), XC E st t ∧ t.heap[q]? = some ce ∧ ce.vm = .none ∧ st.vm.findClass E = some ce.cls ∧ st.WarmedH t.vm ∧ st.sameButNew ({ t with vm := st.vm } : State) L mc ms ∧ ∀ z ∈ L, free z.base
def vx_Q (Qc : Array Value → State → Outcome → State → Prop) (XC : String → State → State → Prop) (mc ms : Nat) (free : Addr → Prop) : Array Value → State → Outcome → State → Prop := fun a st o t =>
  (Qc a st o t ∧ ∃ L, FrameEnd st o t L mc ms ∧ ∀ q ∈ L, free q.base) ∨ ∃ q, o = .threw q ∧ vx_T XC st q t mc ms free
/-- a callee that returns or throws -/
def vx_Met (l : Launch) (y : MethodName) (ws : List Cond) (rm : Room) (Pc : Array Value → State → Prop) (Qc : Array Value → State → Outcome → State → Prop) (XC : String → State → State → Prop) (mc ms : Nat) (free : Addr → Prop) : Prop :=
  MetFree l y (headSpec ws rm) Pc (fun _ _ _ _ _ => True) (vx_Q Qc XC mc ms free)
def vx_Post (XC : String → State → State → Prop) (mc ms : Nat) (free : Addr → Prop) : Pt → Array Value → Addr → Pt → Prop := fun A a q B =>
  ∃ (g : JFrame) (mk : MethodId) (t : State) (L : List Loc) (E : String) (ce : Cell), B.U.heap = t.heap ∧ B.U.vm = t.vm ∧ XC E (A.U.calling g mk a) t ∧ t.heap[q]? = some ce ∧ ce.vm = .none ∧ A.U.vm.findClass E = some ce.cls ∧ B.locs = A.locs ++ L ∧ (∀ z ∈ L, free z.base) ∧ B.cells = A.cells + mc ∧ B.slots = A.slots + ms
def vx_Back (l : Launch) (R : Room) (p : Program) (e : Env) (below : List Frame) (s : State) (sargs : Array Value) (y : MethodName) (len W9 : Nat)
    (Pre : Pt → Array Value → Prop) (Post : Pt → Array Value → Option Value → Pt → Prop) (PostX : Pt → Array Value → Addr → Pt → Prop) : Prop :=
  ∀ (m : MethodId) (meth : Method) (c : Code) (A : Pt) (g : JFrame) (ig : Instr) (mk : MethodId) (a : Array Value),
    Stand p l e R s m sargs below meth c A.U A.locs A.cells A.slots → g.method = m → g.locals.size = c.maxLocals → decode c.code g.pc = .ok (ig, len) →
    2 * g.monitorRoom + (g.stack.map fun v => v.category).sum ≤ W9 → A.U.methodNamed? y = some mk → Pre A a →
    (∃ (v : Option Value) (B : Pt), Stand p l e R s m sargs below meth c B.U B.locs B.cells B.slots ∧ Post A a v B ∧
      Steps p.tables e below (doInvoke e (A.U.setTop g) [] mk a).1 (B.U.setTop { g with pc := g.pc + len, stack := v.toList ++ g.stack })) ∨
    (∃ (q : Addr) (B : Pt), Stand p l e R s m sargs below meth c B.U B.locs B.cells B.slots ∧ PostX A a q B ∧
      Steps p.tables e below (doInvoke e (A.U.setTop g) [] mk a).1 ((B.U.setTop g).pushFrame (.throwing q)))
section Payer
variable {l : Launch} {R : Room} {p : Program} {e : Env} {below : List Frame} {s : State} {sargs : Array Value} {y : MethodName} {len W9 : Nat}
theorem vx_back {ws : List Cond} {rm : Room} {Pc : Array Value → State → Prop} {Qc : Array Value → State → Outcome → State → Prop} {XC : String → State → State → Prop} {mc ms : Nat} {free : Addr → Prop} {bytes : ByteArray} {maxL : Nat} {ret : Option FieldType}
    (hM : vx_Met l y ws rm Pc Qc XC mc ms free) (hblind : FrameBlind Pc) (hrc : rm.cells = mc) (hrs : rm.slots = ms)
    (hframes : rm.frames + 1 ≤ R.frames) (hlocals : W9 + (maxL + 11) + rm.locals ≤ R.locals)
    (hws : ∀ w ∈ ws, ∀ a' U, s.WarmedH U.vm → w.before a' U = true) (hcode : Cond.code y bytes maxL ret ∈ ws) (hinit : ∀ a' U, s.WarmedH U.vm → (Cond.initialized y.cls).before a' U = true) :
    vx_Back l R p e below s sargs y len W9 (PreOf R mc ms Pc) (PostOf Qc mc ms free) (vx_Post XC mc ms free) := by
  intro m meth c A g ig mk a X hg hsize hdg hW hn hp
  have h1 : (headSpec ws rm).pre.before a A.U = true := atoms_intro fun w hw => hws w hw _ _ X.warmed
  have h2 : (Cond.code y bytes maxL ret).before a A.U = true := hws _ hcode _ _ X.warmed
  have h3 : (Cond.initialized y.cls).before a A.U = true := hinit _ _ X.warmed
  have h4 : A.cells + (headSpec ws rm).room.cells ≤ R.cells := by rw [show (headSpec ws rm).room.cells = mc from hrc]; exact hp.1
  have h5 : A.slots + (headSpec ws rm).room.slots ≤ R.slots := by rw [show (headSpec ws rm).room.slots = ms from hrs]; exact hp.2.1
  have hPc : Pc a (A.U.calling g mk a) := hblind _ _ _ _ hp.2.2
  obtain ⟨U, Ls, c0, s0⟩ := A
  dsimp only [Pt.U, Pt.locs, Pt.cells, Pt.slots] at h1 h2 h3 h4 h5 X hn hPc ⊢
  obtain ⟨methY, cY, hmY, hcY, -, hlY, -, -, -, -⟩ := Cond.code_spec hn h2
  obtain ⟨kY, hkY, -⟩ := className_of_methodNamed hn
  have hinitY : kY.init = .initialized := Cond.initialized_spec (findClass_of_methodNamed hn) hkY h3
  have h : At U g.method c below := by rw [hg]; exact X.here
  have hlocals9 : W9 + (maxL + 11) + (headSpec ws rm).room.locals ≤ R.locals := hlocals
  have happ : (headSpec ws rm).appliesLoose y e.platform (U.calling g mk a) = true :=
    Spec.appliesLoose_calling (g := g) h hdg hn hkY hinitY
      (X.room_calling (g := g) (R' := (headSpec ws rm).room) hsize hmY hcY hframes (by rw [hlY]; omega) h4 h5) h1
  obtain ⟨mid, hmid⟩ := h.above
  have hfr : (U.setTop g).frames = (.java g :: mid) ++ below := by rw [State.frames_setTop' g h.top, hmid]; rfl
  obtain ⟨o, s₂, hsteps, -, hend, hq⟩ := Steps.callFree hM p X.admits X.cas X.clock (acts := []) hfr happ hPc trivial
  have hq' : vx_Q Qc XC mc ms free a (U.calling g mk a) o s₂ := hq
  rw [State.frames_setTop' g h.top] at hend
  obtain ⟨g₀, hg0⟩ := Option.isSome_iff_exists.mp h.top
  obtain ⟨r, hr⟩ := State.topJava?_eq_some.mp hg0
  have hr' : (({ U with heap := s₂.heap, slotsUsed := s₂.slotsUsed } : State).setVm s₂.vm).frames = .java g₀ :: r := hr
  rcases hq' with ⟨hqc, L, hfe, hL⟩ | ⟨q, rfl, E, ce, L, hx, hce, hcv, hcl, hW₂, hsm, hL⟩
  · obtain ⟨⟨v, rfl⟩, hW₂, e2, q2, q3, q4, q5, q6⟩ := id hfe
    have e3 : s₂ = ({ (U.calling g mk a).setFrames s₂.frames with heap := s₂.heap, slotsUsed := s₂.slotsUsed } : State).setVm s₂.vm := by
      have : s₂ = ({ s₂ with vm := (U.calling g mk a).vm } : State).setVm s₂.vm := rfl
      rw [e2] at this
      exact this
    obtain ⟨c₂, i₂, len₂, hc₂, hd₂, hf₂⟩ := hend
    have hW' : U.WarmedH s₂.vm := hW₂
    have hcc : c₂ = c := by
      have h1 : s₂.code? g.method = U.code? g.method := by
        rw [State.code?_eq, State.code?_eq, hW'.alike.method?]
      exact Option.some.inj (hc₂.symm.trans (h1.trans h.code))
    subst hcc
    have hlen : len₂ = len := by rw [hdg] at hd₂; cases hd₂; rfl
    subst hlen
    have hs₂ : s₂ = (({ U with heap := s₂.heap, slotsUsed := s₂.slotsUsed } : State).setVm s₂.vm).setTop { g with pc := g.pc + len₂, stack := v.toList ++ g.stack } := by
      refine e3.trans ?_
      rw [hf₂, State.calling_eq h.top, State.setFrames_setFrames, State.setTop_of_frames _ hr', hr]
      rfl
    have hsame : U.sameButNew ({ U with heap := s₂.heap, slotsUsed := s₂.slotsUsed } : State) L mc ms := by
      refine ⟨?_, q2, q3, q4, q5, q6⟩
      obtain ⟨t, ht, -⟩ := State.frames_cons hr
      show ({ U with heap := s₂.heap, slotsUsed := s₂.slotsUsed } : State) = { U.setFrames U.frames with heap := s₂.heap, slotsUsed := s₂.slotsUsed }
      rw [State.setFrames_self ht]
    subst hg
    refine Or.inl ⟨v, ⟨(({ U with heap := s₂.heap, slotsUsed := s₂.slotsUsed } : State).setVm s₂.vm), Ls ++ L, c0 + mc, s0 + ms⟩,
      ⟨X.admits, X.cas, X.clock, X.frames, X.room, X.hears, X.method, X.code, (X.here.setHeapUsed s₂.heap s₂.slotsUsed).setVm hW'.alike, X.tail, State.WarmedH.trans X.warmed hW', X.limits, X.bytes, X.same.trans (hsame.setVm s.vm)⟩,
      ⟨g, mk, s₂, L, rfl, rfl, hqc, rfl, hL, rfl, rfl⟩, ?_⟩
    show Steps p.tables e below _ ((({ U with heap := s₂.heap, slotsUsed := s₂.slotsUsed } : State).setVm s₂.vm).setTop { g with pc := g.pc + len₂, stack := v.toList ++ g.stack })
    rw [← hs₂]
    exact hsteps
  · obtain ⟨e2, q2, q3, q4, q5, q6⟩ := id hsm
    have e3 : s₂ = ({ (U.calling g mk a).setFrames s₂.frames with heap := s₂.heap, slotsUsed := s₂.slotsUsed } : State).setVm s₂.vm := by
      have : s₂ = ({ s₂ with vm := (U.calling g mk a).vm } : State).setVm s₂.vm := rfl
      rw [e2] at this
      exact this
    have hf₂ : s₂.frames = .throwing q :: .java g :: U.frames.tail := hend
    have hW' : U.WarmedH s₂.vm := hW₂
    have hs₂ : s₂ = ((({ U with heap := s₂.heap, slotsUsed := s₂.slotsUsed } : State).setVm s₂.vm).setTop g).pushFrame (.throwing q) := by
      refine e3.trans ?_
      rw [hf₂, State.calling_eq h.top, State.setFrames_setFrames, State.pushFrame, State.frames_setTop _ hr', State.setTop_of_frames _ hr', State.setFrames_setFrames, hr]
      rfl
    have hsame : U.sameButNew ({ U with heap := s₂.heap, slotsUsed := s₂.slotsUsed } : State) L mc ms := by
      refine ⟨?_, q2, q3, q4, q5, q6⟩
      obtain ⟨t, ht, -⟩ := State.frames_cons hr
      show ({ U with heap := s₂.heap, slotsUsed := s₂.slotsUsed } : State) = { U.setFrames U.frames with heap := s₂.heap, slotsUsed := s₂.slotsUsed }
      rw [State.setFrames_self ht]
    subst hg
    refine Or.inr ⟨q, ⟨(({ U with heap := s₂.heap, slotsUsed := s₂.slotsUsed } : State).setVm s₂.vm), Ls ++ L, c0 + mc, s0 + ms⟩,
      ⟨X.admits, X.cas, X.clock, X.frames, X.room, X.hears, X.method, X.code, (X.here.setHeapUsed s₂.heap s₂.slotsUsed).setVm hW'.alike, X.tail, State.WarmedH.trans X.warmed hW', X.limits, X.bytes, X.same.trans (hsame.setVm s.vm)⟩,
      ⟨g, mk, s₂, L, E, ce, rfl, rfl, hx, hce, hcv, hcl, rfl, hL, rfl, rfl⟩, ?_⟩
    show Steps p.tables e below _ (((({ U with heap := s₂.heap, slotsUsed := s₂.slotsUsed } : State).setVm s₂.vm).setTop g).pushFrame (.throwing q))
    rw [← hs₂]
    exact hsteps
end Payer
section Calls
variable {p : Program} {l : Launch} {e : Env} {R : Room} {s : State} {m : MethodId} {args : Array Value} {below : List Frame} {meth : Method} {c : Code} {T : State} {locs : List Loc} {cells slots : Nat}
theorem vx_callV (X : Stand p l e R s m args below meth c T locs cells slots) (hexec : p.tables.exec = Jvm.exec) {own C : String} {index : Nat} {y : MethodName} {bytes : ByteArray} {maxL : Nat} {ret : Option FieldType}
    (hown : s.vm.findClass own = some m.cls) (hlink : (Cond.methodLink own index y).before args s = true) (hinst : (Cond.instanceMethod y).before args s = true) (hsel : (Cond.selects C y y).before args s = true)
    (hcode : (Cond.code y bytes maxL ret).before args s = true) (hy : y.cls ≠ "java/lang/invoke/MethodHandle" ∧ y.cls ≠ "java/lang/invoke/VarHandle")
    {W9 : Nat} {Pre : Pt → Array Value → Prop} {Post : Pt → Array Value → Option Value → Pt → Prop} {PostX : Pt → Array Value → Addr → Pt → Prop} (hK : vx_Back l R p e below s args y 3 W9 Pre Post PostX)
    {b : Addr} {cellB : Cell} (hcell : T.heap[b]? = some cellB) (hobj : cellB.vm.isStatics = false) (hcls : s.vm.findClass C = some cellB.cls)
    {g : JFrame} (hg : g.method = m) (hsize : g.locals.size = c.maxLocals) {argsL rest : List Value} (hlen : ∀ sig, parseMethodDescriptor y.desc = some sig → argsL.length = sig.parameters.length)
    (hstack : g.stack = argsL.reverse ++ .ref b :: rest) (hW : 2 * g.monitorRoom + (rest.map fun v => v.category).sum ≤ W9) (hdg : decode c.code g.pc = .ok (.invokevirtual index, 3))
    (hpre : ∀ vm₁, s.WarmedH vm₁ → Pre ⟨T.setVm vm₁, locs, cells, slots⟩ (Value.ref b :: argsL).toArray) :
    (∃ (v : Option Value) (vm₁ : Vm) (B : Pt), s.WarmedH vm₁ ∧ Stand p l e R s m args below meth c B.U B.locs B.cells B.slots ∧ Post ⟨T.setVm vm₁, locs, cells, slots⟩ (Value.ref b :: argsL).toArray v B ∧
      ∀ target, Steps p.tables e below (B.U.setTop { g with pc := g.pc + 3, stack := v.toList ++ rest }) target → Steps p.tables e below (T.setTop g) target) ∨
    (∃ (q : Addr) (vm₁ : Vm) (B : Pt), s.WarmedH vm₁ ∧ Stand p l e R s m args below meth c B.U B.locs B.cells B.slots ∧ PostX ⟨T.setVm vm₁, locs, cells, slots⟩ (Value.ref b :: argsL).toArray q B ∧
      Steps p.tables e below (T.setTop g) ((B.U.setTop { g with stack := rest }).pushFrame (.throwing q))) := by
  obtain ⟨mk, methM, hnamed, hmethM, hstM, habM⟩ := Cond.instanceMethod_spec hinst
  obtain ⟨methM', cM, hmethM', -, -, -, -, -, -, hsigM⟩ := Cond.code_spec hnamed hcode
  cases hmethM.symm.trans hmethM'
  obtain ⟨c2, r2, m2, q1, q2, q3, q4, kP, hkP, hkPi⟩ := Cond.selects_spec hsel
  cases hcls.symm.trans q1
  cases (State.methodFound?_of_named hnamed hy).symm.trans q2
  cases hnamed.symm.trans q3
  have hselP : selectMethod e.platform s.vm cellB.cls mk = .method mk := by rw [Launch.admits_selectMethod X.admits]; exact q4
  obtain ⟨vm₁, X₁, hstep₁⟩ := X.invokevirtual hexec hown hlink hnamed hmethM hstM hkP hkPi hy (a := b) (cell := cellB) hcell
    (fun z h => by rw [h] at hobj; cases hobj) hselP hmethM habM hkP hkPi (g := g) hg (argsL := argsL) (rest := rest) (hlen _ hsigM) hstack hdg
  rcases hK m meth c ⟨T.setVm vm₁, locs, cells, slots⟩ { g with stack := rest } (.invokevirtual index) mk (Value.ref b :: argsL).toArray X₁ hg hsize hdg hW (X₁.named hnamed) (hpre vm₁ X₁.warmed) with ⟨v, B, X', hpost, hsteps⟩ | ⟨q, B, X', hpost, hsteps⟩
  · exact Or.inl ⟨v, vm₁, B, X₁.warmed, X', hpost, fun target h => hstep₁ _ fun acts => by rw [doInvoke_state]; exact hsteps.trans h⟩
  · exact Or.inr ⟨q, vm₁, B, X₁.warmed, X', hpost, hstep₁ _ fun acts => by rw [doInvoke_state]; exact hsteps⟩
theorem vx_callS (X : Stand p l e R s m args below meth c T locs cells slots) (hexec : p.tables.exec = Jvm.exec) {own : String} {index : Nat} {y : MethodName} {bytes : ByteArray} {maxL : Nat} {ret : Option FieldType}
    (hown : s.vm.findClass own = some m.cls) (hlink : (Cond.methodLink own index y).before args s = true) (hstat : (Cond.static y).before args s = true) (hinit : (Cond.initialized y.cls).before args s = true)
    (hcode : (Cond.code y bytes maxL ret).before args s = true) (hy : y.cls ≠ "java/lang/invoke/MethodHandle" ∧ y.cls ≠ "java/lang/invoke/VarHandle")
    {W9 : Nat} {Pre : Pt → Array Value → Prop} {Post : Pt → Array Value → Option Value → Pt → Prop} {PostX : Pt → Array Value → Addr → Pt → Prop} (hK : vx_Back l R p e below s args y 3 W9 Pre Post PostX)
    {g : JFrame} (hg : g.method = m) (hsize : g.locals.size = c.maxLocals) {argsL rest : List Value} (hlen : ∀ sig, parseMethodDescriptor y.desc = some sig → argsL.length = sig.parameters.length)
    (hstack : g.stack = argsL.reverse ++ rest) (hW : 2 * g.monitorRoom + (rest.map fun v => v.category).sum ≤ W9) (hdg : decode c.code g.pc = .ok (.invokestatic index, 3))
    (hpre : ∀ vm₁, s.WarmedH vm₁ → Pre ⟨T.setVm vm₁, locs, cells, slots⟩ argsL.toArray) :
    (∃ (v : Option Value) (vm₁ : Vm) (B : Pt), s.WarmedH vm₁ ∧ Stand p l e R s m args below meth c B.U B.locs B.cells B.slots ∧ Post ⟨T.setVm vm₁, locs, cells, slots⟩ argsL.toArray v B ∧
      ∀ target, Steps p.tables e below (B.U.setTop { g with pc := g.pc + 3, stack := v.toList ++ rest }) target → Steps p.tables e below (T.setTop g) target) ∨
    (∃ (q : Addr) (vm₁ : Vm) (B : Pt), s.WarmedH vm₁ ∧ Stand p l e R s m args below meth c B.U B.locs B.cells B.slots ∧ PostX ⟨T.setVm vm₁, locs, cells, slots⟩ argsL.toArray q B ∧
      Steps p.tables e below (T.setTop g) ((B.U.setTop { g with stack := rest }).pushFrame (.throwing q))) := by
  obtain ⟨mk, hnamed⟩ := Cond.code_named hcode
  obtain ⟨methM, cM, hmethM, -, -, -, -, -, -, hsigM⟩ := Cond.code_spec hnamed hcode
  have hstatic : methM.isStatic = true := Cond.static_spec hnamed hmethM hstat
  obtain ⟨kP, hkP, -⟩ := className_of_methodNamed hnamed
  have hinitP : kP.init = .initialized := Cond.initialized_spec (findClass_of_methodNamed hnamed) hkP hinit
  obtain ⟨vm₁, X₁, hstep₁⟩ := X.invokestatic hexec hown hlink hnamed hmethM hstatic hkP hinitP hy (g := g) hg (argsL := argsL) (rest := rest) (hlen _ hsigM) hstack hdg
  rcases hK m meth c ⟨T.setVm vm₁, locs, cells, slots⟩ { g with stack := rest } (.invokestatic index) mk argsL.toArray X₁ hg hsize hdg hW (X₁.named hnamed) (hpre vm₁ X₁.warmed) with ⟨v, B, X', hpost, hsteps⟩ | ⟨q, B, X', hpost, hsteps⟩
  · exact Or.inl ⟨v, vm₁, B, X₁.warmed, X', hpost, fun target h => hstep₁ _ fun acts => by rw [doInvoke_state]; exact hsteps.trans h⟩
  · exact Or.inr ⟨q, vm₁, B, X₁.warmed, X', hpost, hstep₁ _ fun acts => by rw [doInvoke_state]; exact hsteps⟩
end Calls
theorem vx_cls {s : State} {T : State} {vm₁ : Vm} {E : String} {k : ClassId} (hW : s.WarmedH vm₁) (h : (T.setVm vm₁).vm.findClass E = some k) : s.vm.findClass E = some k := by
  have h1 : vm₁.findClass E = some k := h
  rw [hW.alike.findClass] at h1
  exact h1
/-- the method's frame g, with q thrown over it -/
def vx_W (p : Program) (l : Launch) (e : Env) (R : Room) (s : State) (m : MethodId) (args : Array Value) (below : List Frame) (meth : Method) (c : Code) (H : Heap) (locs : List Loc) (cells slots : Nat) (Q : State → Prop) (g : JFrame) (q : Addr) : Prop :=
  ∀ T : State, T.heap = H → Stand p l e R s m args below meth c T locs cells slots → ∃ t, Steps p.tables e below ((T.setTop g).pushFrame (.throwing q)) t ∧ Q t
def vx_Run (p : Program) (l : Launch) (e : Env) (R : Room) (s : State) (m : MethodId) (args : Array Value) (below : List Frame) (meth : Method) (c : Code) (H : Heap) (locs : List Loc) (cells slots mc ms : Nat) (g : JFrame) (rest : List Value) (Qa : State → Outcome → State → Prop) (XC : String → State → State → Prop) (free : Addr → Prop) : Prop :=
  ∀ T : State, T.heap = H → Stand p l e R s m args below meth c T locs cells slots →
    (∃ (v : Option Value) (st₀ t T' : State) (L : List Loc), st₀.heap = H ∧ Stand p l e R s m args below meth c T' (locs ++ L) (cells + mc) (slots + ms) ∧ (∀ q ∈ L, free q.base) ∧ T'.heap = t.heap ∧ T'.vm = t.vm ∧ Qa st₀ (.returned v) t ∧
      Goes p e below T g T' { g with pc := g.pc + 3, stack := v.toList ++ rest }) ∨
    (∃ (q : Addr) (st₀ t T' : State) (L : List Loc) (E : String) (ce : Cell), st₀.heap = H ∧ Stand p l e R s m args below meth c T' (locs ++ L) (cells + mc) (slots + ms) ∧ (∀ z ∈ L, free z.base) ∧ T'.heap = t.heap ∧ T'.vm = t.vm ∧ XC E st₀ t ∧ t.heap[q]? = some ce ∧ ce.vm = .none ∧ s.vm.findClass E = some ce.cls ∧
      Steps p.tables e below (T.setTop g) ((T'.setTop { g with stack := rest }).pushFrame (.throwing q)))
def vx_X {S : Type} (px : S → Prop) (B : String → S → State → Prop) (A : Nat → Prop) : String → State → State → Prop := fun E st t => ∃ u : S, px u ∧ B E u t ∧ va_F A st t
section Runs
variable {p : Program} {l : Launch} {e : Env} {R : Room} {s : State} {m : MethodId} {args : Array Value} {below : List Frame} {meth : Method} {c : Code} {H : Heap} {locs : List Loc} {cells slots : Nat}
variable {y : MethodName} {bytes cc : ByteArray} {maxL nL mc ms n index : Nat} {ret : Option FieldType} {ws : List Cond} {rm : Room} {Pc : Array Value → State → Prop} {Qc : Array Value → State → Outcome → State → Prop} {XC : String → State → State → Prop} {free : Addr → Prop} {Ts : List Cond} {own C : String} {b : Addr} {As rest : List Value} {g : JFrame}
theorem vx_callBack (cb : CallB R s args own index y bytes maxL ret ws rm mc ms n) (hM : vx_Met l y ws rm Pc Qc XC mc ms free) (hbl : FrameBlind Pc) : vx_Back l R p e below s args y 3 8 (PreOf R mc ms Pc) (PostOf Qc mc ms free) (vx_Post XC mc ms free) := by
  obtain ⟨hrc, hrs, hfr, hlo, hws, hcw, -, hini, -⟩ := cb
  exact vx_back (bytes := bytes) (maxL := maxL) (ret := ret) hM hbl hrc hrs hfr hlo hws hcw (fun a' U hW => word_at hW (Or.inl (by first | rfl | simp [Cond.onTables, Cond.keeps, Cond.steady])) hini)
theorem vx_runV (S : CallFix p m c cc nL s args Ts own) (hM : vx_Met l y ws rm Pc Qc XC mc ms free) (cw : CallW R s args own C index y bytes maxL ret ws rm mc ms n) (hp : PreV s H C b Pc As)
    (hg : g.method = m) (hn : As.length = n) (hsize : g.locals.size = nL) (hstack : g.stack = As.reverse ++ .ref b :: rest) (hW : 2 * g.monitorRoom + (rest.map fun v => v.category).sum ≤ 8) (hdg : decode cc g.pc = .ok (.invokevirtual index, 3)) (hf : cells + mc ≤ R.cells ∧ slots + ms ≤ R.slots) :
    vx_Run p l e R s m args below meth c H locs cells slots mc ms g rest (Qc (Value.ref b :: As).toArray) XC free := by
  have hK : vx_Back l R p e below s args y 3 8 (PreOf R mc ms Pc) (PostOf Qc mc ms free) (vx_Post XC mc ms free) := vx_callBack cw.1 hM hp.1
  obtain ⟨⟨-, -, -, -, -, -, hcode, -, hy, hlen, hl⟩, hin, hse⟩ := cw
  obtain ⟨hx, hb, hml, ho, -⟩ := S
  obtain ⟨-, ⟨cellB, hcB, hoB, hclB⟩, hPc⟩ := hp
  intro T hT X
  rcases vx_callV X hx (C := C) (bytes := bytes) (maxL := maxL) (ret := ret) ho hl hin hse hcode hy hK (by rw [hT]; exact hcB) hoB hclB hg (hsize.trans hml.symm) (argsL := As) (rest := rest) (fun sig h => hn.trans (hlen sig h)) hstack hW (by rw [hb]; exact hdg)
    (fun vm₁ hW₁ => ⟨hf.1, hf.2, hPc (T.setVm vm₁) hT hW₁⟩) with ⟨v, vm₁, ⟨U', l2, c2, s2⟩, hW₁, X', ⟨g', mk, t, L, e1, e2, hq, h1, hL, h2, h3⟩, st⟩ | ⟨q, vm₁, ⟨U', l2, c2, s2⟩, hW₁, X', ⟨g', mk, t, L, E, ce, e1, e2, hq, hce, hcv, hcl, h1, hL, h2, h3⟩, st⟩
  · dsimp only [Pt.U, Pt.locs, Pt.cells, Pt.slots] at X' e1 e2 h1 h2 h3 st
    subst h1; subst h2; subst h3
    exact Or.inl ⟨v, (T.setVm vm₁).calling g' mk (Value.ref b :: As).toArray, t, U', L, hT, X', hL, e1, e2, hq, st⟩
  · dsimp only [Pt.U, Pt.locs, Pt.cells, Pt.slots] at X' e1 e2 h1 h2 h3 st hcl
    subst h1; subst h2; subst h3
    exact Or.inr ⟨q, (T.setVm vm₁).calling g' mk (Value.ref b :: As).toArray, t, U', L, E, ce, hT, X', hL, e1, e2, hq, hce, hcv, vx_cls hW₁ hcl, st⟩
theorem vx_runS (S : CallFix p m c cc nL s args Ts own) (hM : vx_Met l y ws rm Pc Qc XC mc ms free) (cw : CallB R s args own index y bytes maxL ret ws rm mc ms n ∧ (Cond.static y).before args s = true) (hp : PreS s H Pc As)
    (hg : g.method = m) (hn : As.length = n) (hsize : g.locals.size = nL) (hstack : g.stack = As.reverse ++ rest) (hW : 2 * g.monitorRoom + (rest.map fun v => v.category).sum ≤ 8) (hdg : decode cc g.pc = .ok (.invokestatic index, 3)) (hf : cells + mc ≤ R.cells ∧ slots + ms ≤ R.slots) :
    vx_Run p l e R s m args below meth c H locs cells slots mc ms g rest (Qc As.toArray) XC free := by
  have hK : vx_Back l R p e below s args y 3 8 (PreOf R mc ms Pc) (PostOf Qc mc ms free) (vx_Post XC mc ms free) := vx_callBack cw.1 hM hp.1
  obtain ⟨⟨-, -, -, -, -, -, hcode, hini, hy, hlen, hl⟩, hstt⟩ := cw
  obtain ⟨hx, hb, hml, ho, -⟩ := S
  intro T hT X
  rcases vx_callS X hx (bytes := bytes) (maxL := maxL) (ret := ret) ho hl hstt hini hcode hy hK hg (hsize.trans hml.symm) (argsL := As) (rest := rest) (fun sig h => hn.trans (hlen sig h)) hstack hW (by rw [hb]; exact hdg)
    (fun vm₁ hW₁ => ⟨hf.1, hf.2, hp.2 (T.setVm vm₁) hT hW₁⟩) with ⟨v, vm₁, ⟨U', l2, c2, s2⟩, hW₁, X', ⟨g', mk, t, L, e1, e2, hq, h1, hL, h2, h3⟩, st⟩ | ⟨q, vm₁, ⟨U', l2, c2, s2⟩, hW₁, X', ⟨g', mk, t, L, E, ce, e1, e2, hq, hce, hcv, hcl, h1, hL, h2, h3⟩, st⟩
  · dsimp only [Pt.U, Pt.locs, Pt.cells, Pt.slots] at X' e1 e2 h1 h2 h3 st
    subst h1; subst h2; subst h3
    exact Or.inl ⟨v, (T.setVm vm₁).calling g' mk As.toArray, t, U', L, hT, X', hL, e1, e2, hq, st⟩
  · dsimp only [Pt.U, Pt.locs, Pt.cells, Pt.slots] at X' e1 e2 h1 h2 h3 st hcl
    subst h1; subst h2; subst h3
    exact Or.inr ⟨q, (T.setVm vm₁).calling g' mk As.toArray, t, U', L, E, ce, hT, X', hL, e1, e2, hq, hce, hcv, vx_cls hW₁ hcl, st⟩
end Runs
section Rows
variable {p : Program} {l : Launch} {e : Env} {R : Room} {s : State} {m : MethodId} {args : Array Value} {below : List Frame} {meth : Method} {c : Code} {H : Heap} {locs : List Loc} {cells slots : Nat} {Q : State → Prop}
variable {mc ms : Nat} {free : Addr → Prop} {A0 A1 : Nat → Prop} {H0 : Heap} {a : Array Value} {pc : Nat} {ls : Array Slot} {st0 rest : List Value}
theorem vx_keep {st₀ t T' : State} {L : List Loc} (h0 : st₀.heap = H) (e1 : T'.heap = t.heap) (hS : va_S A0 H0 H locs) (hA : ∀ q, q < H.size → A1 q → A0 q) (hf : ∀ q, free q → A0 q) (hL : ∀ q ∈ L, free q.base) (hF : va_F A1 st₀ t) :
    H.size ≤ T'.heap.size ∧ (∀ q : Nat, q < H.size → ¬ A1 q → T'.heap[q]? = H[q]?) ∧ va_S A0 H0 T'.heap (locs ++ L) := by
  obtain ⟨hz, hk⟩ := hF
  rw [h0] at hz hk
  exact ⟨by rw [e1]; exact hz, fun q h1 h2 => by rw [e1]; exact hk q h1 h2,
    ⟨Nat.le_trans hS.1 (by rw [e1]; exact hz), fun q h1 h2 => by rw [e1, hk q (Nat.lt_of_lt_of_le h1 hS.1) (fun z => h2 (hA q (Nat.lt_of_lt_of_le h1 hS.1) z))]; exact hS.2.1 q h1 h2, fun q hq => by
      rcases List.mem_append.mp hq with h | h
      · exact hS.2.2 q h
      · exact hf _ (hL q h)⟩⟩
theorem vx_calli {S SX : Type} {post : Int32 → S → Prop} {px : SX → Prop} {B : S → State → Prop} {BX : String → SX → State → Prop} {AX : Nat → Prop} (hr : vx_Run p l e R s m args below meth c H locs cells slots mc ms (F0 m pc ls st0) rest (va_Qi post B A1 a) (vx_X px BX AX) free) (hS : va_S A0 H0 H locs) (hA : ∀ q, q < H.size → A1 q → A0 q) (hf : ∀ q, free q → A0 q) (hAX : ∀ q, q < H.size → AX q → A0 q)
    (kx : ∀ (E : String) (ce : Cell) (q9 : Addr) (u : SX) (t : State) (H1 : Heap) (locs1 : List Loc), t.heap = H1 → s.vm.Alike t.vm → px u → BX E u t → H.size ≤ H1.size → (∀ q : Nat, q < H.size → ¬ AX q → H1[q]? = H[q]?) → va_S A0 H0 H1 locs1 → H1[q9]? = some ce → ce.vm = .none → s.vm.findClass E = some ce.cls → vx_W p l e R s m args below meth c H1 locs1 (cells + mc) (slots + ms) Q (F0 m pc ls rest) q9)
    (kk : ∀ (r : Int32) (u : S) (t : State) (H1 : Heap) (locs1 : List Loc), t.heap = H1 → s.vm.Alike t.vm → post r u → B u t → H.size ≤ H1.size → (∀ q : Nat, q < H.size → ¬ A1 q → H1[q]? = H[q]?) → va_S A0 H0 H1 locs1 → W p l e R s m args below meth c H1 locs1 (cells + mc) (slots + ms) Q (F0 m (pc + 3) ls (.int r :: rest))) : W p l e R s m args below meth c H locs cells slots Q (F0 m pc ls st0) := by
  intro T hT X
  rcases hr T hT X with ⟨v, st₀, t, T', L, h0, X', hL, e1, e2, ⟨⟨r, u, hv, hp, hb⟩, hF⟩, st⟩ | ⟨q, st₀, t, T', L, E, ce, h0, X', hL, e1, e2, ⟨u, hp, hb, hF⟩, hce, hcv, hcl, st⟩
  · cases hv
    obtain ⟨k1, k2, k3⟩ := vx_keep h0 e1 hS hA hf hL hF
    obtain ⟨t2, a1, b1⟩ := kk r u t T'.heap (locs ++ L) e1.symm (by rw [← e2]; exact X'.warmed.alike) hp hb k1 k2 k3 T' rfl X'
    exact ⟨t2, st t2 a1, b1⟩
  · obtain ⟨k1, k2, k3⟩ := vx_keep h0 e1 hS hAX hf hL hF
    obtain ⟨t2, a1, b1⟩ := kx E ce q u t T'.heap (locs ++ L) e1.symm (by rw [← e2]; exact X'.warmed.alike) hp hb k1 k2 k3 (by rw [e1]; exact hce) hcv hcl T' rfl X'
    exact ⟨t2, st.trans a1, b1⟩
theorem vx_calll {S SX : Type} {post : Int64 → S → Prop} {px : SX → Prop} {B : S → State → Prop} {BX : String → SX → State → Prop} {AX : Nat → Prop} (hr : vx_Run p l e R s m args below meth c H locs cells slots mc ms (F0 m pc ls st0) rest (va_Ql post B A1 a) (vx_X px BX AX) free) (hS : va_S A0 H0 H locs) (hA : ∀ q, q < H.size → A1 q → A0 q) (hf : ∀ q, free q → A0 q) (hAX : ∀ q, q < H.size → AX q → A0 q)
    (kx : ∀ (E : String) (ce : Cell) (q9 : Addr) (u : SX) (t : State) (H1 : Heap) (locs1 : List Loc), t.heap = H1 → s.vm.Alike t.vm → px u → BX E u t → H.size ≤ H1.size → (∀ q : Nat, q < H.size → ¬ AX q → H1[q]? = H[q]?) → va_S A0 H0 H1 locs1 → H1[q9]? = some ce → ce.vm = .none → s.vm.findClass E = some ce.cls → vx_W p l e R s m args below meth c H1 locs1 (cells + mc) (slots + ms) Q (F0 m pc ls rest) q9)
    (kk : ∀ (r : Int64) (u : S) (t : State) (H1 : Heap) (locs1 : List Loc), t.heap = H1 → s.vm.Alike t.vm → post r u → B u t → H.size ≤ H1.size → (∀ q : Nat, q < H.size → ¬ A1 q → H1[q]? = H[q]?) → va_S A0 H0 H1 locs1 → W p l e R s m args below meth c H1 locs1 (cells + mc) (slots + ms) Q (F0 m (pc + 3) ls (.long r :: rest))) : W p l e R s m args below meth c H locs cells slots Q (F0 m pc ls st0) := by
  intro T hT X
  rcases hr T hT X with ⟨v, st₀, t, T', L, h0, X', hL, e1, e2, ⟨⟨r, u, hv, hp, hb⟩, hF⟩, st⟩ | ⟨q, st₀, t, T', L, E, ce, h0, X', hL, e1, e2, ⟨u, hp, hb, hF⟩, hce, hcv, hcl, st⟩
  · cases hv
    obtain ⟨k1, k2, k3⟩ := vx_keep h0 e1 hS hA hf hL hF
    obtain ⟨t2, a1, b1⟩ := kk r u t T'.heap (locs ++ L) e1.symm (by rw [← e2]; exact X'.warmed.alike) hp hb k1 k2 k3 T' rfl X'
    exact ⟨t2, st t2 a1, b1⟩
  · obtain ⟨k1, k2, k3⟩ := vx_keep h0 e1 hS hAX hf hL hF
    obtain ⟨t2, a1, b1⟩ := kx E ce q u t T'.heap (locs ++ L) e1.symm (by rw [← e2]; exact X'.warmed.alike) hp hb k1 k2 k3 (by rw [e1]; exact hce) hcv hcl T' rfl X'
    exact ⟨t2, st.trans a1, b1⟩
theorem vx_callf {S SX : Type} {post : UInt32 → S → Prop} {px : SX → Prop} {B : S → State → Prop} {BX : String → SX → State → Prop} {AX : Nat → Prop} (hr : vx_Run p l e R s m args below meth c H locs cells slots mc ms (F0 m pc ls st0) rest (va_Qf post B A1 a) (vx_X px BX AX) free) (hS : va_S A0 H0 H locs) (hA : ∀ q, q < H.size → A1 q → A0 q) (hf : ∀ q, free q → A0 q) (hAX : ∀ q, q < H.size → AX q → A0 q)
    (kx : ∀ (E : String) (ce : Cell) (q9 : Addr) (u : SX) (t : State) (H1 : Heap) (locs1 : List Loc), t.heap = H1 → s.vm.Alike t.vm → px u → BX E u t → H.size ≤ H1.size → (∀ q : Nat, q < H.size → ¬ AX q → H1[q]? = H[q]?) → va_S A0 H0 H1 locs1 → H1[q9]? = some ce → ce.vm = .none → s.vm.findClass E = some ce.cls → vx_W p l e R s m args below meth c H1 locs1 (cells + mc) (slots + ms) Q (F0 m pc ls rest) q9)
    (kk : ∀ (r : UInt32) (u : S) (t : State) (H1 : Heap) (locs1 : List Loc), t.heap = H1 → s.vm.Alike t.vm → post r u → B u t → H.size ≤ H1.size → (∀ q : Nat, q < H.size → ¬ A1 q → H1[q]? = H[q]?) → va_S A0 H0 H1 locs1 → W p l e R s m args below meth c H1 locs1 (cells + mc) (slots + ms) Q (F0 m (pc + 3) ls (.float r :: rest))) : W p l e R s m args below meth c H locs cells slots Q (F0 m pc ls st0) := by
  intro T hT X
  rcases hr T hT X with ⟨v, st₀, t, T', L, h0, X', hL, e1, e2, ⟨⟨r, u, hv, hp, hb⟩, hF⟩, st⟩ | ⟨q, st₀, t, T', L, E, ce, h0, X', hL, e1, e2, ⟨u, hp, hb, hF⟩, hce, hcv, hcl, st⟩
  · cases hv
    obtain ⟨k1, k2, k3⟩ := vx_keep h0 e1 hS hA hf hL hF
    obtain ⟨t2, a1, b1⟩ := kk r u t T'.heap (locs ++ L) e1.symm (by rw [← e2]; exact X'.warmed.alike) hp hb k1 k2 k3 T' rfl X'
    exact ⟨t2, st t2 a1, b1⟩
  · obtain ⟨k1, k2, k3⟩ := vx_keep h0 e1 hS hAX hf hL hF
    obtain ⟨t2, a1, b1⟩ := kx E ce q u t T'.heap (locs ++ L) e1.symm (by rw [← e2]; exact X'.warmed.alike) hp hb k1 k2 k3 (by rw [e1]; exact hce) hcv hcl T' rfl X'
    exact ⟨t2, st.trans a1, b1⟩
theorem vx_calld {S SX : Type} {post : UInt64 → S → Prop} {px : SX → Prop} {B : S → State → Prop} {BX : String → SX → State → Prop} {AX : Nat → Prop} (hr : vx_Run p l e R s m args below meth c H locs cells slots mc ms (F0 m pc ls st0) rest (va_Qd post B A1 a) (vx_X px BX AX) free) (hS : va_S A0 H0 H locs) (hA : ∀ q, q < H.size → A1 q → A0 q) (hf : ∀ q, free q → A0 q) (hAX : ∀ q, q < H.size → AX q → A0 q)
    (kx : ∀ (E : String) (ce : Cell) (q9 : Addr) (u : SX) (t : State) (H1 : Heap) (locs1 : List Loc), t.heap = H1 → s.vm.Alike t.vm → px u → BX E u t → H.size ≤ H1.size → (∀ q : Nat, q < H.size → ¬ AX q → H1[q]? = H[q]?) → va_S A0 H0 H1 locs1 → H1[q9]? = some ce → ce.vm = .none → s.vm.findClass E = some ce.cls → vx_W p l e R s m args below meth c H1 locs1 (cells + mc) (slots + ms) Q (F0 m pc ls rest) q9)
    (kk : ∀ (r : UInt64) (u : S) (t : State) (H1 : Heap) (locs1 : List Loc), t.heap = H1 → s.vm.Alike t.vm → post r u → B u t → H.size ≤ H1.size → (∀ q : Nat, q < H.size → ¬ A1 q → H1[q]? = H[q]?) → va_S A0 H0 H1 locs1 → W p l e R s m args below meth c H1 locs1 (cells + mc) (slots + ms) Q (F0 m (pc + 3) ls (.double r :: rest))) : W p l e R s m args below meth c H locs cells slots Q (F0 m pc ls st0) := by
  intro T hT X
  rcases hr T hT X with ⟨v, st₀, t, T', L, h0, X', hL, e1, e2, ⟨⟨r, u, hv, hp, hb⟩, hF⟩, st⟩ | ⟨q, st₀, t, T', L, E, ce, h0, X', hL, e1, e2, ⟨u, hp, hb, hF⟩, hce, hcv, hcl, st⟩
  · cases hv
    obtain ⟨k1, k2, k3⟩ := vx_keep h0 e1 hS hA hf hL hF
    obtain ⟨t2, a1, b1⟩ := kk r u t T'.heap (locs ++ L) e1.symm (by rw [← e2]; exact X'.warmed.alike) hp hb k1 k2 k3 T' rfl X'
    exact ⟨t2, st t2 a1, b1⟩
  · obtain ⟨k1, k2, k3⟩ := vx_keep h0 e1 hS hAX hf hL hF
    obtain ⟨t2, a1, b1⟩ := kx E ce q u t T'.heap (locs ++ L) e1.symm (by rw [← e2]; exact X'.warmed.alike) hp hb k1 k2 k3 (by rw [e1]; exact hce) hcv hcl T' rfl X'
    exact ⟨t2, st.trans a1, b1⟩
theorem vx_callv {S SX : Type} {post : S → Prop} {px : SX → Prop} {B : S → State → Prop} {BX : String → SX → State → Prop} {AX : Nat → Prop} (hr : vx_Run p l e R s m args below meth c H locs cells slots mc ms (F0 m pc ls st0) rest (va_Qv post B A1 a) (vx_X px BX AX) free) (hS : va_S A0 H0 H locs) (hA : ∀ q, q < H.size → A1 q → A0 q) (hf : ∀ q, free q → A0 q) (hAX : ∀ q, q < H.size → AX q → A0 q)
    (kx : ∀ (E : String) (ce : Cell) (q9 : Addr) (u : SX) (t : State) (H1 : Heap) (locs1 : List Loc), t.heap = H1 → s.vm.Alike t.vm → px u → BX E u t → H.size ≤ H1.size → (∀ q : Nat, q < H.size → ¬ AX q → H1[q]? = H[q]?) → va_S A0 H0 H1 locs1 → H1[q9]? = some ce → ce.vm = .none → s.vm.findClass E = some ce.cls → vx_W p l e R s m args below meth c H1 locs1 (cells + mc) (slots + ms) Q (F0 m pc ls rest) q9)
    (kk : ∀ (u : S) (t : State) (H1 : Heap) (locs1 : List Loc), t.heap = H1 → s.vm.Alike t.vm → post u → B u t → H.size ≤ H1.size → (∀ q : Nat, q < H.size → ¬ A1 q → H1[q]? = H[q]?) → va_S A0 H0 H1 locs1 → W p l e R s m args below meth c H1 locs1 (cells + mc) (slots + ms) Q (F0 m (pc + 3) ls (rest))) : W p l e R s m args below meth c H locs cells slots Q (F0 m pc ls st0) := by
  intro T hT X
  rcases hr T hT X with ⟨v, st₀, t, T', L, h0, X', hL, e1, e2, ⟨⟨u, hv, hp, hb⟩, hF⟩, st⟩ | ⟨q, st₀, t, T', L, E, ce, h0, X', hL, e1, e2, ⟨u, hp, hb, hF⟩, hce, hcv, hcl, st⟩
  · cases hv
    obtain ⟨k1, k2, k3⟩ := vx_keep h0 e1 hS hA hf hL hF
    obtain ⟨t2, a1, b1⟩ := kk u t T'.heap (locs ++ L) e1.symm (by rw [← e2]; exact X'.warmed.alike) hp hb k1 k2 k3 T' rfl X'
    exact ⟨t2, st t2 a1, b1⟩
  · obtain ⟨k1, k2, k3⟩ := vx_keep h0 e1 hS hAX hf hL hF
    obtain ⟨t2, a1, b1⟩ := kx E ce q u t T'.heap (locs ++ L) e1.symm (by rw [← e2]; exact X'.warmed.alike) hp hb k1 k2 k3 (by rw [e1]; exact hce) hcv hcl T' rfl X'
    exact ⟨t2, st.trans a1, b1⟩
/-- caught by the row x of this method's table; the rows ahead don't take it -/
theorem vx_catch {own name : String} {E : String} {ce : Cell} {q : Addr} (hown : s.vm.findClass own = some m.cls) (pre : List ExceptionTableEntry) (x : ExceptionTableEntry) (suf : List ExceptionTableEntry) (hsplit : c.exceptionTable.toList = pre ++ x :: suf)
    (hpass : ∀ z ∈ pre, covers z pc = false ∨ (z.catchType ≠ 0 ∧ ∃ nm : String, (Cond.classLink own z.catchType nm).before args s = true ∧ va_Nc E nm s)) (hx : covers x pc = true) (h0 : x.catchType ≠ 0)
    (hlink : (Cond.classLink own x.catchType name).before args s = true) (hcast : (Cond.castable E name).before args s = true) (hcell : H[q]? = some ce) (hv : ce.vm = .none) (hcl : s.vm.findClass E = some ce.cls)
    (kk : W p l e R s m args below meth c H locs cells slots Q (F0 m x.handlerPc ls [.ref q])) : vx_W p l e R s m args below meth c H locs cells slots Q (F0 m pc ls rest) q := by
  intro T hT X
  have hpl : e.platform.magicAccessors = ({} : Platform).magicAccessors := by rw [X.admits.platform]
  obtain ⟨c3, c4, hc3, hc4, hasg⟩ := Cond.castable_spec hcast
  cases Option.some.inj (hc3.symm.trans hcl)
  obtain ⟨c5, hc5, hcl5⟩ := Cond.classLink_spec hown hlink e.platform hpl
  cases Option.some.inj (hc4.symm.trans hc5)
  obtain ⟨vm', X', st⟩ := X.thenCaughtThrough q (g := F0 m pc ls rest) rfl (Steps.refl _) (by rw [hT]; exact hcell) (by rw [hv]; rfl) (by obtain ⟨k9, h9, -⟩ := Vm.findClass_spec hcl; exact ⟨k9, h9⟩) pre x suf hsplit
    (fun z hz => by
      rcases hpass z hz with h | ⟨hz0, nm, hl1, hn1⟩
      · exact Or.inl h
      · obtain ⟨c6, hc6, hcl6⟩ := Cond.classLink_spec hown hl1 e.platform hpl
        obtain ⟨a8, b8, h1, h2, h3⟩ := hn1
        cases Option.some.inj (h1.symm.trans hcl)
        cases Option.some.inj (h2.symm.trans hc6)
        exact Or.inr ⟨hz0, _, hcl6, h3⟩) hx (Or.inr ⟨h0, c4, hcl5, hasg⟩)
  obtain ⟨t, a1, b1⟩ := kk (T.setVm vm') hT X'
  exact ⟨t, st.trans a1, b1⟩
end Rows
section Ends
variable {p : Program} {l : Launch} {e : Env} {R : Room} {s : State} {m : MethodId} {args : Array Value} {below : List Frame} {meth : Method} {c : Code} {H : Heap} {locs : List Loc} {cells slots : Nat} {Q : State → Prop}
variable {mc ms : Nat} {free : Addr → Prop} {A0 A1 : Nat → Prop} {H0 : Heap} {a : Array Value} {ls : Array Slot} {st0 rest : List Value}
variable {Qc : Array Value → State → Outcome → State → Prop} {XC : String → State → State → Prop}
/-- what a body that may throw owes at its end -/
def vx_MQ (below : List Frame) (Qc : Array Value → State → Outcome → State → Prop) (XC : String → State → State → Prop) (a : Array Value) (s : State) (mc ms : Nat) (free : Addr → Prop) : State → Prop := fun t =>
  ∃ o, t.status = .running ∧ Ended t below o ∧ vx_Q Qc XC mc ms free a s o t
theorem vx_ret {g : JFrame} {mc ms : Nat} (k : W p l e R s m args below meth c H locs cells slots (MQ below Qc args s mc ms free) g) : W p l e R s m args below meth c H locs cells slots (vx_MQ below Qc XC args s mc ms free) g := by
  intro T hT X
  obtain ⟨t, a1, o, b1, b2, b3, b4⟩ := k T hT X
  exact ⟨t, a1, o, b1, b2, Or.inl ⟨b3, b4⟩⟩
/-- not caught here: it goes on to the caller -/
theorem vx_widen {g : JFrame} {q : Addr} {k n : Nat} (h1 : cells ≤ k) (h2 : slots ≤ n) (kk : vx_W p l e R s m args below meth c H locs k n Q g q) : vx_W p l e R s m args below meth c H locs cells slots Q g q := fun T hT X => kk T hT (stand_widen X h1 h2)
theorem vx_out {pc : Nat} {E : String} {ce : Cell} {q : Addr} {mc ms : Nat} (hout : ∀ x ∈ c.exceptionTable.toList, covers x pc = false) (hlocks : meth.locks = false) (hcell : H[q]? = some ce) (hv : ce.vm = .none) (hcl : s.vm.findClass E = some ce.cls)
    (hx : ∀ t : State, t.heap = H → s.vm.Alike t.vm → XC E s t) (hf : ∀ z ∈ locs, free z.base) (hc : cells ≤ mc) (hs : slots ≤ ms) :
    vx_W p l e R s m args below meth c H locs cells slots (vx_MQ below Qc XC args s mc ms free) (F0 m pc ls rest) q := by
  intro T hT X
  obtain ⟨st1, hrun, hend, hW, hsm⟩ := X.leaveThrown q (g := F0 m pc ls rest) rfl rfl rfl hout hlocks
  have hcell9 : (T.setFrames (.throwing q :: below)).heap[q]? = some ce := by
    show T.heap[q]? = some ce
    rw [hT]; exact hcell
  exact ⟨_, st1, .threw q, hrun, hend, Or.inr ⟨q, rfl, E, ce, locs, hx _ hT hW.alike, hcell9, hv, hcl, hW, hsm.mono hc hs, hf⟩⟩
theorem vx_frame {U : State} {k n : Nat} (h : s.sameButNew ({ U with vm := s.vm } : State) locs k n) : s.heap.size ≤ U.heap.size ∧ ∀ q : Nat, q < s.heap.size → (∀ z ∈ locs, z.base ≠ q) → U.heap[q]? = s.heap[q]? := by
  obtain ⟨-, h2, -, -, -, h6⟩ := h
  refine ⟨h2, fun q hq hz => ?_⟩
  obtain ⟨c9, e1, e2, e3, e4⟩ := h6 q _ (Array.getElem?_eq_getElem hq)
  have hs : c9.slots = (s.heap[q]).slots := Array.ext_getElem? fun i => e4 i fun hm => hz _ hm rfl
  have h9 : c9 = s.heap[q] := by
    rw [hs] at e2
    exact e2
  have e5 : U.heap[q]? = some c9 := e1
  rw [e5, h9, Array.getElem?_eq_getElem hq]
/-- the words of a throw but the four that speak of the heap -/
def vx_no (w : Cond) : Bool := decide (w ≠ .isRef (.static Bundle.tN "UNASSIGNED_STACK" Bundle.steD)) && decide (w ≠ .isRef (.static Bundle.tN "SUPPRESSED_SENTINEL" Bundle.listD)) && decide (w ≠ .laysStatic Bundle.tN "UNASSIGNED_STACK" Bundle.steD) && decide (w ≠ .laysStatic Bundle.tN "SUPPRESSED_SENTINEL" Bundle.listD)
def vx_at0 (own : String) (ic : Nat) (X : String) (names : List String) : List Cond := (Bundle.ownAtoms0 own ic X names).filter vx_no
def vx_atS (own : String) (ic : Nat) (X : String) (names : List String) : List Cond := (Bundle.ownAtoms own ic X names).filter vx_no
/-- a word that the tables alone decide, or a good one -/
def vx_ot (w : Cond) : Bool := w.onTables || goodWord w
theorem vx_ot_at {args a' : Array Value} {s U : State} {w : Cond} (hW : s.WarmedH U.vm) (hvm : s.vm = U.vm) (hg : vx_ot w = true) (h : w.before args s = true) : w.before a' U = true := by
  simp only [vx_ot, Bool.or_eq_true] at hg
  rcases hg with hg | hg
  · exact va_tabs hg hvm h
  · exact word_at hW (good_of_word hg) h
/-- a list's words: the good ones out of the method's own list, the others by premises of their own -/
theorem vx_hat {args : Array Value} {s : State} {L B : List Cond} (h1 : ∀ w ∈ L.filter goodWord, w.before args s = true) (h2 : ∀ w ∈ L.filter (fun w => !goodWord w), w ∈ B) (h3 : ∀ w ∈ B, w.before args s = true) : ∀ w ∈ L, w.before args s = true := by
  intro w hw
  by_cases g : goodWord w = true
  · exact h1 w (List.mem_filter.mpr ⟨hw, g⟩)
  · refine h3 w (h2 w (List.mem_filter.mpr ⟨hw, ?_⟩))
    show (!goodWord w) = true
    cases hgw : goodWord w
    · rfl
    · exact absurd hgw g
theorem vx_c {args : Array Value} {s : State} {w : Cond} {B : List Cond} (h : w.before args s = true) (t : ∀ w ∈ B, w.before args s = true) : ∀ w' ∈ w :: B, w'.before args s = true := fun w' h' => (List.mem_cons.mp h').elim (fun e => by rw [e]; exact h) (t w')
theorem vx_n {args : Array Value} {s : State} : ∀ w ∈ ([] : List Cond), w.before args s = true := fun _ h => nomatch h
theorem vx_own {args : Array Value} {s : State} {L : List Cond} (h1 : ∀ w ∈ L.filter vx_no, w.before args s = true)
    (hU : (Cond.isRef (.static Bundle.tN "UNASSIGNED_STACK" Bundle.steD)).before args s = true) (hN : (Cond.isRef (.static Bundle.tN "SUPPRESSED_SENTINEL" Bundle.listD)).before args s = true)
    (lU : (Cond.laysStatic Bundle.tN "UNASSIGNED_STACK" Bundle.steD).before args s = true) (lN : (Cond.laysStatic Bundle.tN "SUPPRESSED_SENTINEL" Bundle.listD).before args s = true) : ∀ w ∈ L, w.before args s = true := by
  intro w hw
  by_cases e1 : w = .isRef (.static Bundle.tN "UNASSIGNED_STACK" Bundle.steD)
  · rw [e1]; exact hU
  · by_cases e2 : w = .isRef (.static Bundle.tN "SUPPRESSED_SENTINEL" Bundle.listD)
    · rw [e2]; exact hN
    · by_cases e3 : w = .laysStatic Bundle.tN "UNASSIGNED_STACK" Bundle.steD
      · rw [e3]; exact lU
      · by_cases e4 : w = .laysStatic Bundle.tN "SUPPRESSED_SENTINEL" Bundle.listD
        · rw [e4]; exact lN
        · exact h1 w (List.mem_filter.mpr ⟨hw, by unfold vx_no; rw [decide_eq_true e1, decide_eq_true e2, decide_eq_true e3, decide_eq_true e4]; rfl⟩)
/-- where a static field lies, its class's statics cell in H -/
def vx_L (C n d : String) (A : Nat → Prop) (U : State) (H : Heap) : Prop := ∃ (c : ClassId) (k : Class) (i : Nat) (f : Field) (a : Nat) (cell : Cell), U.vm.findClass C = some c ∧ U.fieldFound? C n d = some (c, k, i, f) ∧ f.isStatic = true ∧ k.statics = some a ∧ H[a]? = some cell ∧ cell.vm.isStatics = true ∧ cell.cls = c ∧ f.slot < cell.slots.size ∧ k.staticTypes[f.slot]? = some f.type ∧ ¬ A a
theorem vx_L.moved {C n d : String} {A : Nat → Prop} {u U : State} {H : Heap} (hvm : u.vm.Alike U.vm) (h : vx_L C n d A u H) : vx_L C n d A U H := by
  obtain ⟨c, k, i, f, a, cell, h1, h2, h3, h4, h5, h6, h7, h8, h9, h10⟩ := h
  obtain ⟨k', hi', he⟩ := State.fieldFound?_setVm hvm h2
  exact ⟨c, k', i, f, a, cell, by rw [hvm.findClass]; exact h1, hi', h3, by rw [he]; exact h4, h5, h6, h7, h8, by rw [he]; exact h9, h10⟩
theorem vx_L.kept {C n d : String} {A : Nat → Prop} {U : State} {H H1 : Heap} (h : vx_L C n d A U H) (hq : ∀ a : Nat, a < H.size → ¬ A a → H1[a]? = H[a]?) : vx_L C n d A U H1 := by
  obtain ⟨c, k, i, f, a, cell, h1, h2, h3, h4, h5, h6, h7, h8, h9, h10⟩ := h
  exact ⟨c, k, i, f, a, cell, h1, h2, h3, h4, by rw [hq a (Array.getElem?_eq_some_iff.mp h5).1 h10]; exact h5, h6, h7, h8, h9, h10⟩
theorem vx_L.narrow {C n d : String} {A B : Nat → Prop} {U : State} {H : Heap} (h : vx_L C n d A U H) (hAB : ∀ q, B q → A q) : vx_L C n d B U H := by
  obtain ⟨c, k, i, f, a, cell, h1, h2, h3, h4, h5, h6, h7, h8, h9, h10⟩ := h
  exact ⟨c, k, i, f, a, cell, h1, h2, h3, h4, h5, h6, h7, h8, h9, fun z => h10 (hAB _ z)⟩
theorem vx_L.word {C n d : String} {A : Nat → Prop} {s : State} {args : Array Value} (h : vx_L C n d A s s.heap) : (Cond.laysStatic C n d).before args s = true := by
  obtain ⟨c, k, i, f, a, cell, h1, h2, h3, h4, h5, h6, h7, h8, h9, -⟩ := h
  show (Cond.laysStatic C n d).holds args s none s [] = true
  exact Cond.laysStatic_of h1 h2 h3 h4 h5 h6 h7 h8 h9
/-- .. and what it holds: null or some reference -/
def vx_Zq (C n d : String) (A : Nat → Prop) (U : State) (H : Heap) : Prop := va_Zq C n d A U H ∧ vx_L C n d A U H
theorem vx_Zq.moved {C n d : String} {A : Nat → Prop} {u U : State} {H : Heap} (hvm : u.vm.Alike U.vm) (h : vx_Zq C n d A u H) : vx_Zq C n d A U H := ⟨va_Zq.moved hvm h.1, vx_L.moved hvm h.2⟩
theorem vx_Zq.kept {C n d : String} {A : Nat → Prop} {U : State} {H H1 : Heap} (h : vx_Zq C n d A U H) (hq : ∀ a : Nat, a < H.size → ¬ A a → H1[a]? = H[a]?) : vx_Zq C n d A U H1 := ⟨va_Zq.kept h.1 hq, vx_L.kept h.2 hq⟩
theorem vx_Zq.narrow {C n d : String} {A B : Nat → Prop} {U : State} {H : Heap} (h : vx_Zq C n d A U H) (hAB : ∀ q, B q → A q) : vx_Zq C n d B U H := ⟨va_Zq.narrow h.1 hAB, vx_L.narrow h.2 hAB⟩
theorem vx_Zqof {args : Array Value} {s : State} {C n d : String} {A : Nat → Prop} (hl : (Cond.laysStatic C n d).before args s = true) (hini : (Cond.initialized C).before args s = true) (h : (Cond.isRef (.static C n d)).before args s = true) (hA : ∀ a : Nat, a < s.heap.size → ¬ A a) : vx_Zq C n d A s s.heap := by
  refine ⟨va_Zqof hl hini h hA, ?_⟩
  obtain ⟨c, k, i, f, a, cell, h1, h2, h3, h4, h5, h6, h7, h8, h9⟩ := Cond.laysStatic_spec hl
  exact ⟨c, k, i, f, a, cell, h1, h2, h3, h4, h5, h6, h7, h8, h9, hA a (Array.getElem?_eq_some_iff.mp h5).1⟩
theorem vx_isRef {C n d : String} {v : Value} {A : Nat → Prop} {s : State} {args : Array Value} (h : va_Z C n d v A s s.heap) (hv : v.isRef = true) : (Cond.isRef (.static C n d)).before args s = true := by
  obtain ⟨cf, kf, fi, f, a, cell, h1, h2, h3, h4, h5, h6, h7, -⟩ := h
  have he : (Term.static C n d).eval args s none [] s = some v := by
    simp [Term.eval, State.fieldNamed?, h1, h2, h4, h5, h6, h7]
  simp only [Cond.before, Cond.holds, Cond.value, he]
  cases v <;> simp_all [Value.isRef]
theorem vx_isRefq {C n d : String} {A : Nat → Prop} {s : State} {args : Array Value} (h : va_Zq C n d A s s.heap) : (Cond.isRef (.static C n d)).before args s = true := by
  rcases h with h | ⟨t, h⟩
  · exact vx_isRef h rfl
  · exact vx_isRef h rfl
/-- the same frame, seen from here: as if the method were called anew in this heap -/
theorem vx_rebase {T : State} (X : Stand p l e R s m args below meth c T locs cells slots) {R' : Room} (hf : R'.frames ≤ R.frames) (hl : R'.locals ≤ R.locals) (hc : cells + R'.cells ≤ R.cells) (hs : slots + R'.slots ≤ R.slots) :
    Stand p l e R' ((T.setVm s.vm).setFrames (.invoking m args :: below)) m args below meth c T [] 0 0 := by
  have htop : (T.setVm s.vm).topJava?.isSome := X.here.top
  have hF : ((T.setVm s.vm).setFrames (.invoking m args :: below)).frames = .invoking m args :: below := State.frames_setFrames _ (State.cur_lt_of_top htop)
  obtain ⟨g₀, hg0⟩ := Option.isSome_iff_exists.mp htop
  obtain ⟨r, hr⟩ := State.topJava?_eq_some.mp hg0
  have hl9 : e.platform.stackLimits (T.setVm s.vm).me = e.platform.stackLimits s.me := X.limits
  have hb9 : (T.setVm s.vm).me.stackBytes = s.me.stackBytes := X.bytes
  refine ⟨X.admits, X.cas, X.clock, hF, ?_, X.hears, X.method, X.code, X.here, X.tail, X.warmed, ?_, ?_, ?_⟩
  · have h := X.room
    have hU : ((T.setVm s.vm).setFrames (.invoking m args :: below)).localsInUse = s.localsInUse := by
      rw [State.localsInUse_invoking hF (meth := meth) (c := c) X.method X.code, State.localsInUse_invoking X.frames X.method X.code]
    simp only [State.hasRoom, Bool.and_eq_true, decide_eq_true_eq] at h ⊢
    obtain ⟨⟨⟨⟨h1, h2, h3, h4, h5, h6⟩, h7⟩, h8⟩, h9⟩ := h
    rw [X.frames, List.length_cons] at h2 h3
    have q1 := X.heapSize
    have q2 := X.used
    simp only [hF, hU, List.length_cons, State.stackLimits_setFrames, State.stackBytes_setFrames, hl9, hb9]
    refine ⟨⟨⟨⟨by omega, by omega, by omega, by omega, by omega, h6⟩, ?_⟩, ?_⟩, X.book⟩
    · show T.heap.size + R'.cells ≤ e.platform.maxCells
      omega
    · show T.slotsUsed + R'.slots ≤ e.platform.maxSlots
      omega
  · rw [State.stackLimits_setFrames]; rfl
  · rw [State.stackBytes_setFrames]; rfl
  · refine ⟨?_, Nat.le_refl _, Nat.le_refl _, ?_, ?_, fun a c9 h9 => ⟨c9, h9, rfl, rfl, fun _ _ => rfl⟩⟩
    · obtain ⟨t, ht, -⟩ := State.frames_cons hr
      show T.setVm s.vm = { ((T.setVm s.vm).setFrames (.invoking m args :: below)).setFrames (T.setVm s.vm).frames with heap := T.heap, slotsUsed := T.slotsUsed }
      rw [State.setFrames_setFrames, State.setFrames_self ht]
      rfl
    · show T.slotsUsed = T.slotsUsed + ((T.heap.toList.drop T.heap.size).map (·.slots.size)).sum
      rw [List.drop_eq_nil_of_le (Nat.le_of_eq Array.length_toList)]
      rfl
    · show ((T.heap.toList.drop T.heap.size).map (·.slots.size)).sum ≤ 0
      rw [List.drop_eq_nil_of_le (Nat.le_of_eq Array.length_toList)]
      exact Nat.le_refl _
/-- 'throw new E()': new; dup; invokespecial; athrow -/
theorem vx_throw0 {cc : ByteArray} {pc : Nat} (hexec : p.tables.exec = Jvm.exec) (hb : c.code = cc) (hl : l.stackTraces = false) {own cls : String} {names : List String} {ik ic mc ms : Nat} {A : Nat → Prop}
    (hown : s.vm.findClass own = some m.cls) (hcls : Bundle.fit cls = true) (hnames : ∀ n ∈ names, Bundle.fit n = true)
    (hk : (Cond.classLink own ik cls).before args s = true) (hini : (Cond.initialized cls).before args s = true) (hat : ∀ w ∈ vx_at0 own ic cls names, w.before args s = true)
    (hgood : ∀ w ∈ Cond.classLink own ik cls :: Cond.initialized cls :: vx_at0 own ic cls names, vx_ot w = true)
    (hU : vx_Zq Bundle.tN "UNASSIGNED_STACK" Bundle.steD A s s.heap) (hN : vx_Zq Bundle.tN "SUPPRESSED_SENTINEL" Bundle.listD A s s.heap) (hS : va_S A s.heap H locs) (hsize : ls.size = c.maxLocals)
    (d0 : decode cc pc = .ok (.new ik, 3)) (d3 : decode cc (pc + 3) = .ok (.dup, 1)) (d4 : decode cc (pc + 4) = .ok (.invokespecial ic, 3)) (d7 : decode cc (pc + 7) = .ok (.athrow, 1))
    (hout : ∀ x ∈ c.exceptionTable.toList, covers x (pc + 7) = false)
    (hRframes : names.length + 3 < R.frames) (hRlocals : (rest.map fun v => v.category).sum + (13 * (names.length + 1) + 42) ≤ R.locals) (hRcells : cells + 1 ≤ R.cells) (hRslots : slots + 6 ≤ R.slots) (hlocks : meth.locks = false)
    (hx : ∀ t : State, s.vm.Alike t.vm → H.size ≤ t.heap.size → (∀ q : Nat, q < H.size → t.heap[q]? = H[q]?) → XC cls s t)
    (hf : ∀ z ∈ locs, free z.base) (hc : cells + 1 ≤ mc) (hs : slots + 6 ≤ ms) :
    W p l e R s m args below meth c H locs cells slots (vx_MQ below Qc XC args s mc ms free) (F0 m pc ls rest) := by
  intro T hT X
  have htr : e.platform.stackTraces = false := (show e.platform.stackTraces = l.stackTraces by rw [X.admits.platform]).trans hl
  have Y := vx_rebase X (R' := { frames := R.frames, locals := R.locals, cells := 1, slots := 6 }) (Nat.le_refl _) (Nat.le_refl _) hRcells hRslots
  obtain ⟨s', hA⟩ : ∃ z, z = (T.setVm s.vm).setFrames (.invoking m args :: below) := ⟨_, rfl⟩
  rw [← hA] at Y
  have hvm : s'.vm = s.vm := by rw [hA]; rfl
  have hhp : s'.heap = H := by rw [hA]; exact hT
  have hW0 : s.WarmedH s'.vm := by rw [hvm]; exact State.WarmedH.refl s
  have hat' : ∀ w ∈ vx_at0 own ic cls names, w.before args s' = true := fun w hw => vx_ot_at hW0 hvm.symm (hgood w (List.mem_cons_of_mem _ (List.mem_cons_of_mem _ hw))) (hat w hw)
  have hk' : (Cond.classLink own ik cls).before args s' = true := vx_ot_at hW0 hvm.symm (hgood _ List.mem_cons_self) hk
  have hini' : (Cond.initialized cls).before args s' = true := vx_ot_at hW0 hvm.symm (hgood _ (List.mem_cons_of_mem _ List.mem_cons_self)) hini
  have hU' : vx_Zq Bundle.tN "UNASSIGNED_STACK" Bundle.steD A s' s'.heap := by rw [hhp]; exact vx_Zq.moved hW0.alike (hU.kept hS.2.1)
  have hN' : vx_Zq Bundle.tN "SUPPRESSED_SENTINEL" Bundle.listD A s' s'.heap := by rw [hhp]; exact vx_Zq.moved hW0.alike (hN.kept hS.2.1)
  have h : ∀ w ∈ Bundle.ownAtoms0 own ic cls names, w.before args s' = true := vx_own hat' (vx_isRefq hU'.1) (vx_isRefq hN'.1) hU'.2.word hN'.2.word
  have hown' : s'.vm.findClass own = some m.cls := by rw [hvm]; exact hown
  have hins : (Cond.instantiable cls 6).before args s' = true := h _ (by simp [Bundle.ownAtoms0])
  obtain ⟨vm₁, cX, kX, hfX, hkX, -, -, X₁, st1⟩ := Y.newCold hexec (own := own) (C := cls) (index := ik) (n := 6) hown' hk' hins hini'
    (g := F0 m pc ls rest) rfl (by rw [hb]; exact d0) (Nat.le_refl _) (Nat.le_refl _)
  generalize hT1 : (T.setVm vm₁).pushCell { cls := cX, slots := kX.instanceTypes.map defaultValue, vm := .none } = T1 at X₁ st1
  have hcat : (Value.ref T.heap.size).category = 1 := rfl
  have hcellA : T1.heap[T.heap.size]? = some (freshCell cX kX) := by rw [← hT1]; exact State.heap_pushCell_size _ _
  have d3' : decode c.code (pc + 3) = .ok (.dup, 1) := by rw [hb]; exact d3
  obtain ⟨U, hsteps, hrun, hend, hW, hsame, ce, hce, hO⟩ := X₁.ctorThrow0 hexec htr (own := own) (cls := cls) (names := names) (ic := ic) hown' hcls hnames h (fun x hx => nomatch hx) hfX hkX hcellA (by rw [hhp, hT]; exact Nat.le_refl _)
    (g := { method := m, pc := pc + 4, locals := ls, stack := .ref T.heap.size :: .ref T.heap.size :: rest, locked := none }) rfl hsize rfl rfl (rest := rest) rfl
    (by rw [hb]; exact d4) (by rw [hb]; exact d7) hout hRframes (by simp only [List.map_cons, List.sum_cons, hcat]; omega) hlocks
  obtain ⟨f1, f2⟩ := vx_frame hsame
  rw [hhp] at f1 f2
  have hWs : s.WarmedH U.vm := State.WarmedH.trans hW0 hW
  have hcl : s.vm.findClass cls = some ce.cls := by
    have h9 := hO.cls
    rw [hvm] at h9
    exact h9
  have hall : s.sameButNew ({ U with vm := s.vm } : State) locs mc ms := by
    subst hA
    obtain ⟨e1, e2⟩ := hsame
    rw [State.setFrames_setFrames] at e1
    have h2 : (T.setVm s.vm).sameButNew ({ U with vm := s.vm } : State) [] (0 + 1) (0 + 6) := ⟨e1, e2⟩
    have h3 := X.same.trans h2
    rw [List.append_nil] at h3
    exact h3.mono hc hs
  refine ⟨U, ?_, .threw T.heap.size, hrun, hend, Or.inr ⟨T.heap.size, rfl, cls, ce, locs, hx U hWs.alike f1 (fun q hq => f2 q hq (fun z hz => nomatch hz)), hce, hO.vm, hcl, hWs, hall, hf⟩⟩
  refine st1 _ ?_
  show Steps p.tables e below (T1.setTop { method := m, pc := pc + 3, locals := ls, stack := .ref T.heap.size :: rest, locked := none }) _
  jvm_step X₁.here [X₁.here.top, hexec, d3', Value.category]
  exact hsteps
/-- 'throw new E("text")': new; dup; ldc; invokespecial; athrow -/
theorem vx_throwS {cc : ByteArray} {pc : Nat} (hexec : p.tables.exec = Jvm.exec) (hb : c.code = cc) (hl : l.stackTraces = false) {own cls text : String} {names : List String} {ik is ic mc ms sa : Nat} {A : Nat → Prop}
    (hown : s.vm.findClass own = some m.cls) (hcls : Bundle.fit cls = true) (hnames : ∀ n ∈ names, Bundle.fit n = true)
    (hk : (Cond.classLink own ik cls).before args s = true) (hini : (Cond.initialized cls).before args s = true) (hstr : vk_R own is text sa s) (hat : ∀ w ∈ vx_atS own ic cls names, w.before args s = true)
    (hgood : ∀ w ∈ Cond.classLink own ik cls :: Cond.initialized cls :: vx_atS own ic cls names, vx_ot w = true)
    (hU : vx_Zq Bundle.tN "UNASSIGNED_STACK" Bundle.steD A s s.heap) (hN : vx_Zq Bundle.tN "SUPPRESSED_SENTINEL" Bundle.listD A s s.heap) (hS : va_S A s.heap H locs) (hsize : ls.size = c.maxLocals)
    (d0 : decode cc pc = .ok (.new ik, 3)) (d3 : decode cc (pc + 3) = .ok (.dup, 1)) (d4 : decode cc (pc + 4) = .ok (.ldc is, 2)) (d6 : decode cc (pc + 6) = .ok (.invokespecial ic, 3)) (d9 : decode cc (pc + 9) = .ok (.athrow, 1))
    (hout : ∀ x ∈ c.exceptionTable.toList, covers x (pc + 9) = false)
    (hRframes : names.length + 3 < R.frames) (hRlocals : (rest.map fun v => v.category).sum + (13 * (names.length + 1) + 43) ≤ R.locals) (hRcells : cells + 1 ≤ R.cells) (hRslots : slots + 6 ≤ R.slots) (hlocks : meth.locks = false)
    (hx : ∀ t : State, s.vm.Alike t.vm → H.size ≤ t.heap.size → (∀ q : Nat, q < H.size → t.heap[q]? = H[q]?) → XC cls s t)
    (hf : ∀ z ∈ locs, free z.base) (hc : cells + 1 ≤ mc) (hs : slots + 6 ≤ ms) :
    W p l e R s m args below meth c H locs cells slots (vx_MQ below Qc XC args s mc ms free) (F0 m pc ls rest) := by
  intro T hT X
  have htr : e.platform.stackTraces = false := (show e.platform.stackTraces = l.stackTraces by rw [X.admits.platform]).trans hl
  have Y := vx_rebase X (R' := { frames := R.frames, locals := R.locals, cells := 1, slots := 6 }) (Nat.le_refl _) (Nat.le_refl _) hRcells hRslots
  obtain ⟨s', hA⟩ : ∃ z, z = (T.setVm s.vm).setFrames (.invoking m args :: below) := ⟨_, rfl⟩
  rw [← hA] at Y
  have hvm : s'.vm = s.vm := by rw [hA]; rfl
  have hhp : s'.heap = H := by rw [hA]; exact hT
  have hW0 : s.WarmedH s'.vm := by rw [hvm]; exact State.WarmedH.refl s
  have hat' : ∀ w ∈ vx_atS own ic cls names, w.before args s' = true := fun w hw => vx_ot_at hW0 hvm.symm (hgood w (List.mem_cons_of_mem _ (List.mem_cons_of_mem _ hw))) (hat w hw)
  have hk' : (Cond.classLink own ik cls).before args s' = true := vx_ot_at hW0 hvm.symm (hgood _ List.mem_cons_self) hk
  have hini' : (Cond.initialized cls).before args s' = true := vx_ot_at hW0 hvm.symm (hgood _ (List.mem_cons_of_mem _ List.mem_cons_self)) hini
  have hU' : vx_Zq Bundle.tN "UNASSIGNED_STACK" Bundle.steD A s' s'.heap := by rw [hhp]; exact vx_Zq.moved hW0.alike (hU.kept hS.2.1)
  have hN' : vx_Zq Bundle.tN "SUPPRESSED_SENTINEL" Bundle.listD A s' s'.heap := by rw [hhp]; exact vx_Zq.moved hW0.alike (hN.kept hS.2.1)
  have h : ∀ w ∈ Bundle.ownAtoms own ic cls names, w.before args s' = true := vx_own hat' (vx_isRefq hU'.1) (vx_isRefq hN'.1) hU'.2.word hN'.2.word
  have hown' : s'.vm.findClass own = some m.cls := by rw [hvm]; exact hown
  have hins : (Cond.instantiable cls 6).before args s' = true := h _ (by simp [Bundle.ownAtoms])
  obtain ⟨vm₁, cX, kX, hfX, hkX, -, -, X₁, st1⟩ := Y.newCold hexec (own := own) (C := cls) (index := ik) (n := 6) hown' hk' hins hini'
    (g := F0 m pc ls rest) rfl (by rw [hb]; exact d0) (Nat.le_refl _) (Nat.le_refl _)
  generalize hT1 : (T.setVm vm₁).pushCell { cls := cX, slots := kX.instanceTypes.map defaultValue, vm := .none } = T1 at X₁ st1
  have hcat : (Value.ref T.heap.size).category = 1 := rfl
  have hcellA : T1.heap[T.heap.size]? = some (freshCell cX kX) := by rw [← hT1]; exact State.heap_pushCell_size _ _
  have d3' : decode c.code (pc + 3) = .ok (.dup, 1) := by rw [hb]; exact d3
  have d4' : decode c.code (pc + 4) = .ok (.ldc is, 2) := by rw [hb]; exact d4
  have hstr' : vk_R own is text sa s' := vk_R.warm hW0 hstr
  obtain ⟨U, hsteps, hrun, hend, hW, hsame, ce, hce, hO⟩ := X₁.ctorThrowS hexec htr (own := own) (cls := cls) (names := names) (ic := ic) hown' hcls hnames h (fun x hx => nomatch hx) hfX hkX hcellA (by rw [hhp, hT]; exact Nat.le_refl _) (msg := .ref sa) rfl
    (g := { method := m, pc := pc + 6, locals := ls, stack := .ref sa :: .ref T.heap.size :: .ref T.heap.size :: rest, locked := none }) rfl hsize rfl rfl (rest := rest) rfl
    (by rw [hb]; exact d6) (by rw [hb]; exact d9) hout hRframes (by simp only [List.map_cons, List.sum_cons, hcat]; omega) hlocks
  obtain ⟨f1, f2⟩ := vx_frame hsame
  rw [hhp] at f1 f2
  have hWs : s.WarmedH U.vm := State.WarmedH.trans hW0 hW
  have hcl : s.vm.findClass cls = some ce.cls := by
    have h9 := hO.cls
    rw [hvm] at h9
    exact h9
  have hall : s.sameButNew ({ U with vm := s.vm } : State) locs mc ms := by
    subst hA
    obtain ⟨e1, e2⟩ := hsame
    rw [State.setFrames_setFrames] at e1
    have h2 : (T.setVm s.vm).sameButNew ({ U with vm := s.vm } : State) [] (0 + 1) (0 + 6) := ⟨e1, e2⟩
    have h3 := X.same.trans h2
    rw [List.append_nil] at h3
    exact h3.mono hc hs
  refine ⟨U, ?_, .threw T.heap.size, hrun, hend, Or.inr ⟨T.heap.size, rfl, cls, ce, locs, hx U hWs.alike f1 (fun q hq => f2 q hq (fun z hz => nomatch hz)), hce, hO.vm, hcl, hWs, hall, hf⟩⟩
  refine st1 _ ?_
  show Steps p.tables e below (T1.setTop { method := m, pc := pc + 3, locals := ls, stack := .ref T.heap.size :: rest, locked := none }) _
  jvm_step X₁.here [X₁.here.top, hexec, d3', Value.category]
  exact X₁.ldcString hexec (own := own) (text := text) (index := is) (a := sa) hown' hstr'.1 hstr'.2
    (g := { method := m, pc := pc + 4, locals := ls, stack := .ref T.heap.size :: .ref T.heap.size :: rest, locked := none }) rfl d4' _ hsteps
/-- 'throw new E("text")', the text by a wide index -/
theorem vx_throwSW {cc : ByteArray} {pc : Nat} (hexec : p.tables.exec = Jvm.exec) (hb : c.code = cc) (hl : l.stackTraces = false) {own cls text : String} {names : List String} {ik is ic mc ms sa : Nat} {A : Nat → Prop}
    (hown : s.vm.findClass own = some m.cls) (hcls : Bundle.fit cls = true) (hnames : ∀ n ∈ names, Bundle.fit n = true)
    (hk : (Cond.classLink own ik cls).before args s = true) (hini : (Cond.initialized cls).before args s = true) (hstr : vk_R own is text sa s) (hat : ∀ w ∈ vx_atS own ic cls names, w.before args s = true)
    (hgood : ∀ w ∈ Cond.classLink own ik cls :: Cond.initialized cls :: vx_atS own ic cls names, vx_ot w = true)
    (hU : vx_Zq Bundle.tN "UNASSIGNED_STACK" Bundle.steD A s s.heap) (hN : vx_Zq Bundle.tN "SUPPRESSED_SENTINEL" Bundle.listD A s s.heap) (hS : va_S A s.heap H locs) (hsize : ls.size = c.maxLocals)
    (d0 : decode cc pc = .ok (.new ik, 3)) (d3 : decode cc (pc + 3) = .ok (.dup, 1)) (d4 : decode cc (pc + 4) = .ok (.ldc_w is, 3)) (d7 : decode cc (pc + 7) = .ok (.invokespecial ic, 3)) (d10 : decode cc (pc + 10) = .ok (.athrow, 1))
    (hout : ∀ x ∈ c.exceptionTable.toList, covers x (pc + 10) = false)
    (hRframes : names.length + 3 < R.frames) (hRlocals : (rest.map fun v => v.category).sum + (13 * (names.length + 1) + 43) ≤ R.locals) (hRcells : cells + 1 ≤ R.cells) (hRslots : slots + 6 ≤ R.slots) (hlocks : meth.locks = false)
    (hx : ∀ t : State, s.vm.Alike t.vm → H.size ≤ t.heap.size → (∀ q : Nat, q < H.size → t.heap[q]? = H[q]?) → XC cls s t)
    (hf : ∀ z ∈ locs, free z.base) (hc : cells + 1 ≤ mc) (hs : slots + 6 ≤ ms) :
    W p l e R s m args below meth c H locs cells slots (vx_MQ below Qc XC args s mc ms free) (F0 m pc ls rest) := by
  intro T hT X
  have htr : e.platform.stackTraces = false := (show e.platform.stackTraces = l.stackTraces by rw [X.admits.platform]).trans hl
  have Y := vx_rebase X (R' := { frames := R.frames, locals := R.locals, cells := 1, slots := 6 }) (Nat.le_refl _) (Nat.le_refl _) hRcells hRslots
  obtain ⟨s', hA⟩ : ∃ z, z = (T.setVm s.vm).setFrames (.invoking m args :: below) := ⟨_, rfl⟩
  rw [← hA] at Y
  have hvm : s'.vm = s.vm := by rw [hA]; rfl
  have hhp : s'.heap = H := by rw [hA]; exact hT
  have hW0 : s.WarmedH s'.vm := by rw [hvm]; exact State.WarmedH.refl s
  have hat' : ∀ w ∈ vx_atS own ic cls names, w.before args s' = true := fun w hw => vx_ot_at hW0 hvm.symm (hgood w (List.mem_cons_of_mem _ (List.mem_cons_of_mem _ hw))) (hat w hw)
  have hk' : (Cond.classLink own ik cls).before args s' = true := vx_ot_at hW0 hvm.symm (hgood _ List.mem_cons_self) hk
  have hini' : (Cond.initialized cls).before args s' = true := vx_ot_at hW0 hvm.symm (hgood _ (List.mem_cons_of_mem _ List.mem_cons_self)) hini
  have hU' : vx_Zq Bundle.tN "UNASSIGNED_STACK" Bundle.steD A s' s'.heap := by rw [hhp]; exact vx_Zq.moved hW0.alike (hU.kept hS.2.1)
  have hN' : vx_Zq Bundle.tN "SUPPRESSED_SENTINEL" Bundle.listD A s' s'.heap := by rw [hhp]; exact vx_Zq.moved hW0.alike (hN.kept hS.2.1)
  have h : ∀ w ∈ Bundle.ownAtoms own ic cls names, w.before args s' = true := vx_own hat' (vx_isRefq hU'.1) (vx_isRefq hN'.1) hU'.2.word hN'.2.word
  have hown' : s'.vm.findClass own = some m.cls := by rw [hvm]; exact hown
  have hins : (Cond.instantiable cls 6).before args s' = true := h _ (by simp [Bundle.ownAtoms])
  obtain ⟨vm₁, cX, kX, hfX, hkX, -, -, X₁, st1⟩ := Y.newCold hexec (own := own) (C := cls) (index := ik) (n := 6) hown' hk' hins hini'
    (g := F0 m pc ls rest) rfl (by rw [hb]; exact d0) (Nat.le_refl _) (Nat.le_refl _)
  generalize hT1 : (T.setVm vm₁).pushCell { cls := cX, slots := kX.instanceTypes.map defaultValue, vm := .none } = T1 at X₁ st1
  have hcat : (Value.ref T.heap.size).category = 1 := rfl
  have hcellA : T1.heap[T.heap.size]? = some (freshCell cX kX) := by rw [← hT1]; exact State.heap_pushCell_size _ _
  have d3' : decode c.code (pc + 3) = .ok (.dup, 1) := by rw [hb]; exact d3
  have d4' : decode c.code (pc + 4) = .ok (.ldc_w is, 3) := by rw [hb]; exact d4
  have hstr' : vk_R own is text sa s' := vk_R.warm hW0 hstr
  obtain ⟨U, hsteps, hrun, hend, hW, hsame, ce, hce, hO⟩ := X₁.ctorThrowS hexec htr (own := own) (cls := cls) (names := names) (ic := ic) hown' hcls hnames h (fun x hx => nomatch hx) hfX hkX hcellA (by rw [hhp, hT]; exact Nat.le_refl _) (msg := .ref sa) rfl
    (g := { method := m, pc := pc + 7, locals := ls, stack := .ref sa :: .ref T.heap.size :: .ref T.heap.size :: rest, locked := none }) rfl hsize rfl rfl (rest := rest) rfl
    (by rw [hb]; exact d7) (by rw [hb]; exact d10) hout hRframes (by simp only [List.map_cons, List.sum_cons, hcat]; omega) hlocks
  obtain ⟨f1, f2⟩ := vx_frame hsame
  rw [hhp] at f1 f2
  have hWs : s.WarmedH U.vm := State.WarmedH.trans hW0 hW
  have hcl : s.vm.findClass cls = some ce.cls := by
    have h9 := hO.cls
    rw [hvm] at h9
    exact h9
  have hall : s.sameButNew ({ U with vm := s.vm } : State) locs mc ms := by
    subst hA
    obtain ⟨e1, e2⟩ := hsame
    rw [State.setFrames_setFrames] at e1
    have h2 : (T.setVm s.vm).sameButNew ({ U with vm := s.vm } : State) [] (0 + 1) (0 + 6) := ⟨e1, e2⟩
    have h3 := X.same.trans h2
    rw [List.append_nil] at h3
    exact h3.mono hc hs
  refine ⟨U, ?_, .threw T.heap.size, hrun, hend, Or.inr ⟨T.heap.size, rfl, cls, ce, locs, hx U hWs.alike f1 (fun q hq => f2 q hq (fun z hz => nomatch hz)), hce, hO.vm, hcl, hWs, hall, hf⟩⟩
  refine st1 _ ?_
  show Steps p.tables e below (T1.setTop { method := m, pc := pc + 3, locals := ls, stack := .ref T.heap.size :: rest, locked := none }) _
  jvm_step X₁.here [X₁.here.top, hexec, d3', Value.category]
  exact X₁.ldcStringW hexec (own := own) (text := text) (index := is) (a := sa) hown' hstr'.1 hstr'.2
    (g := { method := m, pc := pc + 4, locals := ls, stack := .ref T.heap.size :: .ref T.heap.size :: rest, locked := none }) rfl d4' _ hsteps
end Ends
section Bodies
variable {l : Launch}
theorem vx_ofW {y : MethodName} {ws ws' : List Cond} {rm : Room} {Pc : Array Value → State → Prop} {Qc : Array Value → State → Outcome → State → Prop} {XC : String → State → State → Prop} {mc ms : Nat} {free : Addr → Prop} {cc : ByteArray} {maxL : Nat} {ret : Option FieldType}
    (hy : plainName y.cls = true) (hw : ws = Cond.code y cc maxL ret :: ws')
    (body : ∀ p e s m args below meth c s₁, BodyLoose p l y (headSpec ws rm) cc maxL ret e s m args below meth c s₁ → c.maxLocals = maxL → (∀ x ∈ c.exceptionTable.toList, False) → Pc args s →
      W p l e (headSpec ws rm).room s m args below meth c s.heap [] 0 0 (vx_MQ below Qc XC args s mc ms free) (entryFrame m args maxL)) : vx_Met l y ws rm Pc Qc XC mc ms free := by
  refine MetFree.of_bodyS (code := cc) (maxLocals := maxL) (ret := ret) hy ?_ ?_
  · intro args s m h hn
    obtain ⟨meth, c, h1, h2, h3, h4, h5, h6, -, -⟩ := Cond.code_spec hn (atoms_spec (ws := ws) h _ (by rw [hw]; exact List.mem_cons_self))
    exact ⟨meth, c, h1, h2, h3, h4, h5, h6⟩
  · intro p e s m args below meth c s₁ B hml hP _
    have hh0 : s₁.heap = s.heap := by rw [B.state]; rfl
    have ht : ∀ x ∈ c.exceptionTable.toList, False := by
      obtain ⟨meth9, c9, h1, h2, -, -, -, -, h7, -⟩ := Cond.code_spec B.named (atoms_spec (ws := ws) B.pre _ (by rw [hw]; exact List.mem_cons_self))
      cases Option.some.inj (h1.symm.trans B.method)
      cases Option.some.inj (h2.symm.trans (Stand.of_body B).code)
      intro x hx
      rw [Array.isEmpty_iff.mp h7] at hx
      cases hx
    obtain ⟨t, a1, o, b1, b2, b3⟩ := body p e s m args below meth c s₁ B hml ht hP s₁ hh0 (Stand.of_body B)
    exact ⟨t, o, a1, b1, b2, b3⟩
/-- the table of a body with handlers -/
theorem vx_table {p : Program} {x y : MethodName} {S : Spec} {cc bytes : ByteArray} {maxL maxL' : Nat} {ret ret' : Option FieldType} {e : Env} {s s₁ : State} {m : MethodId} {args : Array Value} {below : List Frame} {meth : Method} {c : Code} {hh : List (Nat × Nat × Nat × Nat)}
    (B : BodyLoose p l y S cc maxL ret e s m args below meth c s₁) (h : (Cond.codeWith y bytes maxL' ret' hh).before args s = true) : c.exceptionTable.toList = tableOf hh := by
  obtain ⟨m9, meth9, c9, hn9, h1, h2, -, -, h6, -⟩ := Cond.codeWith_spec h
  cases Option.some.inj (hn9.symm.trans B.named)
  cases Option.some.inj (h1.symm.trans B.method)
  cases Option.some.inj (h2.symm.trans (Stand.of_body B).code)
  rw [← h6, table_eq]
end Bodies
end VXA
/-! ===== END ===== -/
/-! ===== BEGIN a static call of a method with an exception table ===== -/
section VXS
variable {p : Program} {l : Launch} {e : Env} {R : Room} {s : State} {m : MethodId} {args : Array Value} {below : List Frame} {meth : Method} {c : Code} {T : State} {H : Heap} {locs : List Loc} {cells slots : Nat}
abbrev vx_CSW (R : Room) (s : State) (args : Array Value) (own : String) (index : Nat) (y : MethodName) (bytes : ByteArray) (maxL : Nat) (ret : Option FieldType) (hh : List (Nat × Nat × Nat × Nat)) (ws : List Cond) (rm : Room) (mc ms n : Nat) : Prop :=
  (rm.cells = mc ∧ rm.slots = ms ∧ rm.frames + 1 ≤ R.frames ∧ 8 + (maxL + 11) + rm.locals ≤ R.locals ∧ (∀ w ∈ ws, ∀ (a' : Array Value) (U : State), s.WarmedH U.vm → w.before a' U = true) ∧ Cond.codeWith y bytes maxL ret hh ∈ ws) ∧
  (Cond.codeWith y bytes maxL ret hh).before args s = true ∧ (Cond.initialized y.cls).before args s = true ∧ (y.cls ≠ "java/lang/invoke/MethodHandle" ∧ y.cls ≠ "java/lang/invoke/VarHandle") ∧
  (∀ sig, parseMethodDescriptor y.desc = some sig → n = sig.parameters.length) ∧ (Cond.methodLink own index y).before args s = true ∧ (Cond.static y).before args s = true
theorem vx_cwSW {own : String} {index maxL mc ms : Nat} {y : MethodName} {bytes : ByteArray} {ret : Option FieldType} {hh : List (Nat × Nat × Nat × Nat)} {Ts ws ws' : List Cond} {rm : Room} (n : Nat) (ht : ∀ w ∈ Ts, w.before args s = true) (hT : GoodIn Ts (va_wsS own index y ws)) (hw : ws = Cond.codeWith y bytes maxL ret hh :: ws') (hrc : rm.cells = mc) (hrs : rm.slots = ms)
    (hd : y.cls ≠ "java/lang/invoke/MethodHandle" ∧ y.cls ≠ "java/lang/invoke/VarHandle" ∧ (parseMethodDescriptor y.desc).map (fun d => d.parameters.length) = some n) (hR : rm.frames + 1 ≤ R.frames ∧ 8 + (maxL + 11) + rm.locals ≤ R.locals) :
    vx_CSW R s args own index y bytes maxL ret hh ws rm mc ms n := by
  have ok : ∀ w ∈ va_wsS own index y ws, w.before args s = true := fun w h => ht w (hT w h).1
  have hG : GoodIn Ts ws := fun w h => hT w (by unfold va_wsS; exact List.mem_append_right _ h)
  have hc : Cond.codeWith y bytes maxL ret hh ∈ ws := by rw [hw]; exact List.mem_cons_self
  refine ⟨⟨hrc, hrs, hR.1, hR.2, pay_in ht hG, hc⟩, ht _ (hG _ hc).1, ok _ (by simp [va_wsS]), ⟨hd.1, hd.2.1⟩, fun sig h => ?_, ok _ (by simp [va_wsS]), ok _ (by simp [va_wsS])⟩
  have h2 := hd.2.2
  rw [h] at h2
  exact (Option.some.inj h2).symm
theorem vx_callSW (X : Stand p l e R s m args below meth c T locs cells slots) (hexec : p.tables.exec = Jvm.exec) {own : String} {index : Nat} {y : MethodName} {bytes : ByteArray} {maxL : Nat} {ret : Option FieldType} {hh : List (Nat × Nat × Nat × Nat)}
    (hown : s.vm.findClass own = some m.cls) (hlink : (Cond.methodLink own index y).before args s = true) (hstat : (Cond.static y).before args s = true) (hinit : (Cond.initialized y.cls).before args s = true)
    (hcode : (Cond.codeWith y bytes maxL ret hh).before args s = true) (hy : y.cls ≠ "java/lang/invoke/MethodHandle" ∧ y.cls ≠ "java/lang/invoke/VarHandle")
    {W9 : Nat} {Pre : Pt → Array Value → Prop} {Post : Pt → Array Value → Option Value → Pt → Prop} (hK : Back l R p e below s args y 3 W9 Pre Post)
    {g : JFrame} (hg : g.method = m) (hsize : g.locals.size = c.maxLocals) {argsL rest : List Value} (hlen : ∀ sig, parseMethodDescriptor y.desc = some sig → argsL.length = sig.parameters.length)
    (hstack : g.stack = argsL.reverse ++ rest) (hW : 2 * g.monitorRoom + (rest.map fun v => v.category).sum ≤ W9) (hdg : decode c.code g.pc = .ok (.invokestatic index, 3))
    (hpre : ∀ vm₁, s.WarmedH vm₁ → Pre ⟨T.setVm vm₁, locs, cells, slots⟩ argsL.toArray) :
    ∃ (v : Option Value) (vm₁ : Vm) (B : Pt), s.WarmedH vm₁ ∧ Stand p l e R s m args below meth c B.U B.locs B.cells B.slots ∧ Post ⟨T.setVm vm₁, locs, cells, slots⟩ argsL.toArray v B ∧
      ∀ target, Steps p.tables e below (B.U.setTop { g with pc := g.pc + 3, stack := v.toList ++ rest }) target → Steps p.tables e below (T.setTop g) target := by
  obtain ⟨mk, methM, cM, hnamed, hmethM, -, -, -, -, -, -, hsigM⟩ := Cond.codeWith_spec hcode
  have hstatic : methM.isStatic = true := Cond.static_spec hnamed hmethM hstat
  obtain ⟨kP, hkP, -⟩ := className_of_methodNamed hnamed
  have hinitP : kP.init = .initialized := Cond.initialized_spec (findClass_of_methodNamed hnamed) hkP hinit
  obtain ⟨vm₁, X₁, hstep₁⟩ := X.invokestatic hexec hown hlink hnamed hmethM hstatic hkP hinitP hy (g := g) hg (argsL := argsL) (rest := rest) (hlen _ hsigM) hstack hdg
  obtain ⟨v, B, X', hpost, hsteps⟩ := hK m meth c ⟨T.setVm vm₁, locs, cells, slots⟩ { g with stack := rest } (.invokestatic index) mk argsL.toArray X₁ hg hsize hdg hW (X₁.named hnamed) (hpre vm₁ X₁.warmed)
  exact ⟨v, vm₁, B, X₁.warmed, X', hpost, fun target h => hstep₁ _ fun acts => by rw [doInvoke_state]; exact hsteps.trans h⟩
theorem vx_runSW {y : MethodName} {bytes cc : ByteArray} {maxL nL mc ms n index : Nat} {ret : Option FieldType} {hh : List (Nat × Nat × Nat × Nat)} {ws : List Cond} {rm : Room} {Pc : Array Value → State → Prop} {Qc : Array Value → State → Outcome → State → Prop} {free : Addr → Prop} {Ts : List Cond} {own : String} {As rest : List Value} {g : JFrame}
    (S : CallFix p m c cc nL s args Ts own) (hM : Met l y ws rm Pc Qc mc ms free) (cw : vx_CSW R s args own index y bytes maxL ret hh ws rm mc ms n) (hp : PreS s H Pc As)
    (hg : g.method = m) (hn : As.length = n) (hsize : g.locals.size = nL) (hstack : g.stack = As.reverse ++ rest) (hW : 2 * g.monitorRoom + (rest.map fun v => v.category).sum ≤ 8) (hdg : decode cc g.pc = .ok (.invokestatic index, 3)) (hf : cells + mc ≤ R.cells ∧ slots + ms ≤ R.slots) :
    va_Run p l e R s m args below meth c H locs cells slots mc ms g rest (Qc As.toArray) (free) := by
  obtain ⟨⟨hrc, hrs, hfr, hlo, hws, hcw⟩, hcode, hini, hy, hlen, hl, hstt⟩ := cw
  have hK : Back l R p e below s args y 3 8 (PreOf R mc ms Pc) (PostOf Qc mc ms free) := va_backW (hh := hh) (bytes := bytes) (maxL := maxL) (ret := ret) hM hp.1 hrc hrs hfr hlo hws hcw (fun a' U hW => word_at hW (Or.inl (by first | rfl | simp [Cond.onTables, Cond.keeps, Cond.steady])) hini)
  obtain ⟨hx, hb, hml, ho, -⟩ := S
  intro T hT X
  obtain ⟨v, vm₁, ⟨U', l2, c2, s2⟩, hW₁, X', ⟨g', mk, t, L, e1, e2, hq, h1, hL, h2, h3⟩, st⟩ := vx_callSW X hx (hh := hh) (bytes := bytes) (maxL := maxL) (ret := ret) ho hl hstt hini hcode hy hK hg (hsize.trans hml.symm) (argsL := As) (rest := rest) (fun sig h => hn.trans (hlen sig h)) hstack hW (by rw [hb]; exact hdg)
    (fun vm₁ hW₁ => ⟨hf.1, hf.2, hp.2 (T.setVm vm₁) hT hW₁⟩)
  dsimp only [Pt.U, Pt.locs, Pt.cells, Pt.slots] at X' e1 e2 h1 h2 h3 st
  subst h1; subst h2; subst h3
  exact ⟨v, (T.setVm vm₁).calling g' mk As.toArray, t, U', L, hT, X', hL, e1, e2, hq, st⟩
/-- not caught here, past rows that name other classes: it goes on to the caller -/
theorem vx_outP {p : Program} {l : Launch} {e : Env} {R : Room} {s : State} {m : MethodId} {args : Array Value} {below : List Frame} {meth : Method} {c : Code} {H : Heap} {locs : List Loc} {cells slots : Nat} {free : Addr → Prop} {ls : Array Slot} {rest : List Value} {Qc : Array Value → State → Outcome → State → Prop} {XC : String → State → State → Prop}
    {pc : Nat} {own E : String} {ce : Cell} {q : Addr} {mc ms : Nat} (hown : s.vm.findClass own = some m.cls) (hlocks : meth.locks = false)
    (hpass : ∀ z ∈ c.exceptionTable.toList, covers z pc = false ∨ (z.catchType ≠ 0 ∧ ∃ nm : String, (Cond.classLink own z.catchType nm).before args s = true ∧ va_Nc E nm s)) (hcell : H[q]? = some ce) (hv : ce.vm = .none) (hcl : s.vm.findClass E = some ce.cls)
    (hx : ∀ t : State, t.heap = H → s.vm.Alike t.vm → XC E s t) (hf : ∀ z ∈ locs, free z.base) (hc : cells ≤ mc) (hs : slots ≤ ms) :
    vx_W p l e R s m args below meth c H locs cells slots (vx_MQ below Qc XC args s mc ms free) (F0 m pc ls rest) q := by
  intro T hT X
  have hpl : e.platform.magicAccessors = ({} : Platform).magicAccessors := by rw [X.admits.platform]
  obtain ⟨vm', hW', X', st⟩ := X.outThrough hlocks q (g := F0 m pc ls rest) rfl rfl rfl (cell := ce) (by rw [hT]; exact hcell) (by rw [hv]; rfl)
    (by obtain ⟨k9, h9, -⟩ := Vm.findClass_spec hcl; exact ⟨k9, h9⟩) (fun z hz => by
      rcases hpass z hz with h | ⟨hz0, nm, hl1, hn1⟩
      · exact Or.inl h
      · obtain ⟨c6, hc6, hcl6⟩ := Cond.classLink_spec hown hl1 e.platform hpl
        obtain ⟨a8, b8, h1, h2, h3⟩ := hn1
        cases Option.some.inj (h1.symm.trans hcl)
        cases Option.some.inj (h2.symm.trans hc6)
        exact Or.inr ⟨hz0, _, hcl6, h3⟩)
  obtain ⟨g₀, hfr⟩ := X'.frames_eq
  have hcell9 : ((T.setVm vm').setFrames (.throwing q :: below)).heap[q]? = some ce := by
    show T.heap[q]? = some ce
    rw [hT]; exact hcell
  have hend : Ended ((T.setVm vm').setFrames (.throwing q :: below)) below (.threw q) := State.frames_setFrames _ (State.cur_lt_of_frames hfr)
  refine ⟨(T.setVm vm').setFrames (.throwing q :: below), ?_, .threw q, X'.here.running, hend, Or.inr ⟨q, rfl, E, ce, locs, hx _ hT (X'.ends _).1.alike, hcell9, hv, hcl, (X'.ends _).1, (X'.ends _).2.mono hc hs, hf⟩⟩
  rw [X.pushThrowing_eq]
  exact st
/-- a thing of a world lies in the heap -/
theorem vx_lt {D : va_G} {cl : List vw_C} {ws : va_W} {H1 : Heap} (h : va_P D cl ws H1) {k : Nat} {q : Nat × va_E} (hk : ws[k]? = some q) : q.1 < H1.size := (h k q hk).lt
end VXS
/-! ===== END ===== -/
/-! ===== BEGIN methods with a table of their own: called by a name, returning or throwing ===== -/
section VXH
/-! vx_backW, vx_callVX, vx_callSX, vx_callVW, vx_runVW, vx_runVX, vx_runSX, vx_ofWH follow the same proofs as their sisters above (Free/Laws.lean, Shelf42/LK1.lean); vx_outP calls Shelf42/NT130.lean (outThrough). -/
section
variable {l : Launch} {R : Room} {p : Program} {e : Env} {below : List Frame} {s : State} {sargs : Array Value} {y : MethodName} {len W9 : Nat}
theorem vx_backW {ws : List Cond} {rm : Room} {Pc : Array Value → State → Prop} {Qc : Array Value → State → Outcome → State → Prop} {XC : String → State → State → Prop} {mc ms : Nat} {free : Addr → Prop} {bytes : ByteArray} {maxL : Nat} {ret : Option FieldType} {hh : List (Nat × Nat × Nat × Nat)}
    (hM : vx_Met l y ws rm Pc Qc XC mc ms free) (hblind : FrameBlind Pc) (hrc : rm.cells = mc) (hrs : rm.slots = ms)
    (hframes : rm.frames + 1 ≤ R.frames) (hlocals : W9 + (maxL + 11) + rm.locals ≤ R.locals)
    (hws : ∀ w ∈ ws, ∀ a' U, s.WarmedH U.vm → w.before a' U = true) (hcode : Cond.codeWith y bytes maxL ret hh ∈ ws) (hinit : ∀ a' U, s.WarmedH U.vm → (Cond.initialized y.cls).before a' U = true) :
    vx_Back l R p e below s sargs y len W9 (PreOf R mc ms Pc) (PostOf Qc mc ms free) (vx_Post XC mc ms free) := by
  intro m meth c A g ig mk a X hg hsize hdg hW hn hp
  have h1 : (headSpec ws rm).pre.before a A.U = true := atoms_intro fun w hw => hws w hw _ _ X.warmed
  have h2 : (Cond.codeWith y bytes maxL ret hh).before a A.U = true := hws _ hcode _ _ X.warmed
  have h3 : (Cond.initialized y.cls).before a A.U = true := hinit _ _ X.warmed
  have h4 : A.cells + (headSpec ws rm).room.cells ≤ R.cells := by rw [show (headSpec ws rm).room.cells = mc from hrc]; exact hp.1
  have h5 : A.slots + (headSpec ws rm).room.slots ≤ R.slots := by rw [show (headSpec ws rm).room.slots = ms from hrs]; exact hp.2.1
  have hPc : Pc a (A.U.calling g mk a) := hblind _ _ _ _ hp.2.2
  obtain ⟨U, Ls, c0, s0⟩ := A
  dsimp only [Pt.U, Pt.locs, Pt.cells, Pt.slots] at h1 h2 h3 h4 h5 X hn hPc ⊢
  obtain ⟨m9, methY, cY, hn9, hmY, hcY, -, hlY, -⟩ := Cond.codeWith_spec h2
  cases Option.some.inj (hn9.symm.trans hn)
  obtain ⟨kY, hkY, -⟩ := className_of_methodNamed hn
  have hinitY : kY.init = .initialized := Cond.initialized_spec (findClass_of_methodNamed hn) hkY h3
  have h : At U g.method c below := by rw [hg]; exact X.here
  have hlocals9 : W9 + (maxL + 11) + (headSpec ws rm).room.locals ≤ R.locals := hlocals
  have happ : (headSpec ws rm).appliesLoose y e.platform (U.calling g mk a) = true :=
    Spec.appliesLoose_calling (g := g) h hdg hn hkY hinitY
      (X.room_calling (g := g) (R' := (headSpec ws rm).room) hsize hmY hcY hframes (by rw [hlY]; omega) h4 h5) h1
  obtain ⟨mid, hmid⟩ := h.above
  have hfr : (U.setTop g).frames = (.java g :: mid) ++ below := by rw [State.frames_setTop' g h.top, hmid]; rfl
  obtain ⟨o, s₂, hsteps, -, hend, hq⟩ := Steps.callFree hM p X.admits X.cas X.clock (acts := []) hfr happ hPc trivial
  have hq' : vx_Q Qc XC mc ms free a (U.calling g mk a) o s₂ := hq
  rw [State.frames_setTop' g h.top] at hend
  obtain ⟨g₀, hg0⟩ := Option.isSome_iff_exists.mp h.top
  obtain ⟨r, hr⟩ := State.topJava?_eq_some.mp hg0
  have hr' : (({ U with heap := s₂.heap, slotsUsed := s₂.slotsUsed } : State).setVm s₂.vm).frames = .java g₀ :: r := hr
  rcases hq' with ⟨hqc, L, hfe, hL⟩ | ⟨q, rfl, E, ce, L, hx, hce, hcv, hcl, hW₂, hsm, hL⟩
  · obtain ⟨⟨v, rfl⟩, hW₂, e2, q2, q3, q4, q5, q6⟩ := id hfe
    have e3 : s₂ = ({ (U.calling g mk a).setFrames s₂.frames with heap := s₂.heap, slotsUsed := s₂.slotsUsed } : State).setVm s₂.vm := by
      have : s₂ = ({ s₂ with vm := (U.calling g mk a).vm } : State).setVm s₂.vm := rfl
      rw [e2] at this
      exact this
    obtain ⟨c₂, i₂, len₂, hc₂, hd₂, hf₂⟩ := hend
    have hW' : U.WarmedH s₂.vm := hW₂
    have hcc : c₂ = c := by
      have h1 : s₂.code? g.method = U.code? g.method := by
        rw [State.code?_eq, State.code?_eq, hW'.alike.method?]
      exact Option.some.inj (hc₂.symm.trans (h1.trans h.code))
    subst hcc
    have hlen : len₂ = len := by rw [hdg] at hd₂; cases hd₂; rfl
    subst hlen
    have hs₂ : s₂ = (({ U with heap := s₂.heap, slotsUsed := s₂.slotsUsed } : State).setVm s₂.vm).setTop { g with pc := g.pc + len₂, stack := v.toList ++ g.stack } := by
      refine e3.trans ?_
      rw [hf₂, State.calling_eq h.top, State.setFrames_setFrames, State.setTop_of_frames _ hr', hr]
      rfl
    have hsame : U.sameButNew ({ U with heap := s₂.heap, slotsUsed := s₂.slotsUsed } : State) L mc ms := by
      refine ⟨?_, q2, q3, q4, q5, q6⟩
      obtain ⟨t, ht, -⟩ := State.frames_cons hr
      show ({ U with heap := s₂.heap, slotsUsed := s₂.slotsUsed } : State) = { U.setFrames U.frames with heap := s₂.heap, slotsUsed := s₂.slotsUsed }
      rw [State.setFrames_self ht]
    subst hg
    refine Or.inl ⟨v, ⟨(({ U with heap := s₂.heap, slotsUsed := s₂.slotsUsed } : State).setVm s₂.vm), Ls ++ L, c0 + mc, s0 + ms⟩,
      ⟨X.admits, X.cas, X.clock, X.frames, X.room, X.hears, X.method, X.code, (X.here.setHeapUsed s₂.heap s₂.slotsUsed).setVm hW'.alike, X.tail, State.WarmedH.trans X.warmed hW', X.limits, X.bytes, X.same.trans (hsame.setVm s.vm)⟩,
      ⟨g, mk, s₂, L, rfl, rfl, hqc, rfl, hL, rfl, rfl⟩, ?_⟩
    show Steps p.tables e below _ ((({ U with heap := s₂.heap, slotsUsed := s₂.slotsUsed } : State).setVm s₂.vm).setTop { g with pc := g.pc + len₂, stack := v.toList ++ g.stack })
    rw [← hs₂]
    exact hsteps
  · obtain ⟨e2, q2, q3, q4, q5, q6⟩ := id hsm
    have e3 : s₂ = ({ (U.calling g mk a).setFrames s₂.frames with heap := s₂.heap, slotsUsed := s₂.slotsUsed } : State).setVm s₂.vm := by
      have : s₂ = ({ s₂ with vm := (U.calling g mk a).vm } : State).setVm s₂.vm := rfl
      rw [e2] at this
      exact this
    have hf₂ : s₂.frames = .throwing q :: .java g :: U.frames.tail := hend
    have hW' : U.WarmedH s₂.vm := hW₂
    have hs₂ : s₂ = ((({ U with heap := s₂.heap, slotsUsed := s₂.slotsUsed } : State).setVm s₂.vm).setTop g).pushFrame (.throwing q) := by
      refine e3.trans ?_
      rw [hf₂, State.calling_eq h.top, State.setFrames_setFrames, State.pushFrame, State.frames_setTop _ hr', State.setTop_of_frames _ hr', State.setFrames_setFrames, hr]
      rfl
    have hsame : U.sameButNew ({ U with heap := s₂.heap, slotsUsed := s₂.slotsUsed } : State) L mc ms := by
      refine ⟨?_, q2, q3, q4, q5, q6⟩
      obtain ⟨t, ht, -⟩ := State.frames_cons hr
      show ({ U with heap := s₂.heap, slotsUsed := s₂.slotsUsed } : State) = { U.setFrames U.frames with heap := s₂.heap, slotsUsed := s₂.slotsUsed }
      rw [State.setFrames_self ht]
    subst hg
    refine Or.inr ⟨q, ⟨(({ U with heap := s₂.heap, slotsUsed := s₂.slotsUsed } : State).setVm s₂.vm), Ls ++ L, c0 + mc, s0 + ms⟩,
      ⟨X.admits, X.cas, X.clock, X.frames, X.room, X.hears, X.method, X.code, (X.here.setHeapUsed s₂.heap s₂.slotsUsed).setVm hW'.alike, X.tail, State.WarmedH.trans X.warmed hW', X.limits, X.bytes, X.same.trans (hsame.setVm s.vm)⟩,
      ⟨g, mk, s₂, L, E, ce, rfl, rfl, hx, hce, hcv, hcl, rfl, hL, rfl, rfl⟩, ?_⟩
    show Steps p.tables e below _ (((({ U with heap := s₂.heap, slotsUsed := s₂.slotsUsed } : State).setVm s₂.vm).setTop g).pushFrame (.throwing q))
    rw [← hs₂]
    exact hsteps
end
variable {p : Program} {l : Launch} {e : Env} {R : Room} {s : State} {m : MethodId} {args : Array Value} {below : List Frame} {meth : Method} {c : Code} {T : State} {H : Heap} {locs : List Loc} {cells slots : Nat}
theorem vx_callVX (X : Stand p l e R s m args below meth c T locs cells slots) (hexec : p.tables.exec = Jvm.exec) {own C : String} {index : Nat} {y : MethodName} {bytes : ByteArray} {maxL : Nat} {ret : Option FieldType} {hh : List (Nat × Nat × Nat × Nat)}
    (hown : s.vm.findClass own = some m.cls) (hlink : (Cond.methodLink own index y).before args s = true) (hinst : (Cond.instanceMethod y).before args s = true) (hsel : (Cond.selects C y y).before args s = true)
    (hcode : (Cond.codeWith y bytes maxL ret hh).before args s = true) (hy : y.cls ≠ "java/lang/invoke/MethodHandle" ∧ y.cls ≠ "java/lang/invoke/VarHandle")
    {W9 : Nat} {Pre : Pt → Array Value → Prop} {Post : Pt → Array Value → Option Value → Pt → Prop} {PostX : Pt → Array Value → Addr → Pt → Prop} (hK : vx_Back l R p e below s args y 3 W9 Pre Post PostX)
    {b : Addr} {cellB : Cell} (hcell : T.heap[b]? = some cellB) (hobj : cellB.vm.isStatics = false) (hcls : s.vm.findClass C = some cellB.cls)
    {g : JFrame} (hg : g.method = m) (hsize : g.locals.size = c.maxLocals) {argsL rest : List Value} (hlen : ∀ sig, parseMethodDescriptor y.desc = some sig → argsL.length = sig.parameters.length)
    (hstack : g.stack = argsL.reverse ++ .ref b :: rest) (hW : 2 * g.monitorRoom + (rest.map fun v => v.category).sum ≤ W9) (hdg : decode c.code g.pc = .ok (.invokevirtual index, 3))
    (hpre : ∀ vm₁, s.WarmedH vm₁ → Pre ⟨T.setVm vm₁, locs, cells, slots⟩ (Value.ref b :: argsL).toArray) :
    (∃ (v : Option Value) (vm₁ : Vm) (B : Pt), s.WarmedH vm₁ ∧ Stand p l e R s m args below meth c B.U B.locs B.cells B.slots ∧ Post ⟨T.setVm vm₁, locs, cells, slots⟩ (Value.ref b :: argsL).toArray v B ∧
      ∀ target, Steps p.tables e below (B.U.setTop { g with pc := g.pc + 3, stack := v.toList ++ rest }) target → Steps p.tables e below (T.setTop g) target) ∨
    (∃ (q : Addr) (vm₁ : Vm) (B : Pt), s.WarmedH vm₁ ∧ Stand p l e R s m args below meth c B.U B.locs B.cells B.slots ∧ PostX ⟨T.setVm vm₁, locs, cells, slots⟩ (Value.ref b :: argsL).toArray q B ∧
      Steps p.tables e below (T.setTop g) ((B.U.setTop { g with stack := rest }).pushFrame (.throwing q))) := by
  obtain ⟨mk, methM, hnamed, hmethM, hstM, habM⟩ := Cond.instanceMethod_spec hinst
  obtain ⟨m8, methM', cM, hn8, hmethM', -, -, -, -, -, -, hsigM⟩ := Cond.codeWith_spec hcode
  cases Option.some.inj (hn8.symm.trans hnamed)
  cases hmethM.symm.trans hmethM'
  obtain ⟨c2, r2, m2, q1, q2, q3, q4, kP, hkP, hkPi⟩ := Cond.selects_spec hsel
  cases hcls.symm.trans q1
  cases (State.methodFound?_of_named hnamed hy).symm.trans q2
  cases hnamed.symm.trans q3
  have hselP : selectMethod e.platform s.vm cellB.cls mk = .method mk := by rw [Launch.admits_selectMethod X.admits]; exact q4
  obtain ⟨vm₁, X₁, hstep₁⟩ := X.invokevirtual hexec hown hlink hnamed hmethM hstM hkP hkPi hy (a := b) (cell := cellB) hcell
    (fun z h => by rw [h] at hobj; cases hobj) hselP hmethM habM hkP hkPi (g := g) hg (argsL := argsL) (rest := rest) (hlen _ hsigM) hstack hdg
  rcases hK m meth c ⟨T.setVm vm₁, locs, cells, slots⟩ { g with stack := rest } (.invokevirtual index) mk (Value.ref b :: argsL).toArray X₁ hg hsize hdg hW (X₁.named hnamed) (hpre vm₁ X₁.warmed) with ⟨v, B, X', hpost, hsteps⟩ | ⟨q, B, X', hpost, hsteps⟩
  · exact Or.inl ⟨v, vm₁, B, X₁.warmed, X', hpost, fun target h => hstep₁ _ fun acts => by rw [doInvoke_state]; exact hsteps.trans h⟩
  · exact Or.inr ⟨q, vm₁, B, X₁.warmed, X', hpost, hstep₁ _ fun acts => by rw [doInvoke_state]; exact hsteps⟩
theorem vx_callSX (X : Stand p l e R s m args below meth c T locs cells slots) (hexec : p.tables.exec = Jvm.exec) {own : String} {index : Nat} {y : MethodName} {bytes : ByteArray} {maxL : Nat} {ret : Option FieldType} {hh : List (Nat × Nat × Nat × Nat)}
    (hown : s.vm.findClass own = some m.cls) (hlink : (Cond.methodLink own index y).before args s = true) (hstat : (Cond.static y).before args s = true) (hinit : (Cond.initialized y.cls).before args s = true)
    (hcode : (Cond.codeWith y bytes maxL ret hh).before args s = true) (hy : y.cls ≠ "java/lang/invoke/MethodHandle" ∧ y.cls ≠ "java/lang/invoke/VarHandle")
    {W9 : Nat} {Pre : Pt → Array Value → Prop} {Post : Pt → Array Value → Option Value → Pt → Prop} {PostX : Pt → Array Value → Addr → Pt → Prop} (hK : vx_Back l R p e below s args y 3 W9 Pre Post PostX)
    {g : JFrame} (hg : g.method = m) (hsize : g.locals.size = c.maxLocals) {argsL rest : List Value} (hlen : ∀ sig, parseMethodDescriptor y.desc = some sig → argsL.length = sig.parameters.length)
    (hstack : g.stack = argsL.reverse ++ rest) (hW : 2 * g.monitorRoom + (rest.map fun v => v.category).sum ≤ W9) (hdg : decode c.code g.pc = .ok (.invokestatic index, 3))
    (hpre : ∀ vm₁, s.WarmedH vm₁ → Pre ⟨T.setVm vm₁, locs, cells, slots⟩ argsL.toArray) :
    (∃ (v : Option Value) (vm₁ : Vm) (B : Pt), s.WarmedH vm₁ ∧ Stand p l e R s m args below meth c B.U B.locs B.cells B.slots ∧ Post ⟨T.setVm vm₁, locs, cells, slots⟩ argsL.toArray v B ∧
      ∀ target, Steps p.tables e below (B.U.setTop { g with pc := g.pc + 3, stack := v.toList ++ rest }) target → Steps p.tables e below (T.setTop g) target) ∨
    (∃ (q : Addr) (vm₁ : Vm) (B : Pt), s.WarmedH vm₁ ∧ Stand p l e R s m args below meth c B.U B.locs B.cells B.slots ∧ PostX ⟨T.setVm vm₁, locs, cells, slots⟩ argsL.toArray q B ∧
      Steps p.tables e below (T.setTop g) ((B.U.setTop { g with stack := rest }).pushFrame (.throwing q))) := by
  obtain ⟨mk, methM, cM, hnamed, hmethM, -, -, -, -, -, -, hsigM⟩ := Cond.codeWith_spec hcode
  have hstatic : methM.isStatic = true := Cond.static_spec hnamed hmethM hstat
  obtain ⟨kP, hkP, -⟩ := className_of_methodNamed hnamed
  have hinitP : kP.init = .initialized := Cond.initialized_spec (findClass_of_methodNamed hnamed) hkP hinit
  obtain ⟨vm₁, X₁, hstep₁⟩ := X.invokestatic hexec hown hlink hnamed hmethM hstatic hkP hinitP hy (g := g) hg (argsL := argsL) (rest := rest) (hlen _ hsigM) hstack hdg
  rcases hK m meth c ⟨T.setVm vm₁, locs, cells, slots⟩ { g with stack := rest } (.invokestatic index) mk argsL.toArray X₁ hg hsize hdg hW (X₁.named hnamed) (hpre vm₁ X₁.warmed) with ⟨v, B, X', hpost, hsteps⟩ | ⟨q, B, X', hpost, hsteps⟩
  · exact Or.inl ⟨v, vm₁, B, X₁.warmed, X', hpost, fun target h => hstep₁ _ fun acts => by rw [doInvoke_state]; exact hsteps.trans h⟩
  · exact Or.inr ⟨q, vm₁, B, X₁.warmed, X', hpost, hstep₁ _ fun acts => by rw [doInvoke_state]; exact hsteps⟩
theorem vx_callVW (X : Stand p l e R s m args below meth c T locs cells slots) (hexec : p.tables.exec = Jvm.exec) {own C : String} {index : Nat} {y : MethodName} {bytes : ByteArray} {maxL : Nat} {ret : Option FieldType} {hh : List (Nat × Nat × Nat × Nat)}
    (hown : s.vm.findClass own = some m.cls) (hlink : (Cond.methodLink own index y).before args s = true) (hinst : (Cond.instanceMethod y).before args s = true) (hsel : (Cond.selects C y y).before args s = true)
    (hcode : (Cond.codeWith y bytes maxL ret hh).before args s = true) (hy : y.cls ≠ "java/lang/invoke/MethodHandle" ∧ y.cls ≠ "java/lang/invoke/VarHandle")
    {W9 : Nat} {Pre : Pt → Array Value → Prop} {Post : Pt → Array Value → Option Value → Pt → Prop} (hK : Back l R p e below s args y 3 W9 Pre Post)
    {b : Addr} {cellB : Cell} (hcell : T.heap[b]? = some cellB) (hobj : cellB.vm.isStatics = false) (hcls : s.vm.findClass C = some cellB.cls)
    {g : JFrame} (hg : g.method = m) (hsize : g.locals.size = c.maxLocals) {argsL rest : List Value} (hlen : ∀ sig, parseMethodDescriptor y.desc = some sig → argsL.length = sig.parameters.length)
    (hstack : g.stack = argsL.reverse ++ .ref b :: rest) (hW : 2 * g.monitorRoom + (rest.map fun v => v.category).sum ≤ W9) (hdg : decode c.code g.pc = .ok (.invokevirtual index, 3))
    (hpre : ∀ vm₁, s.WarmedH vm₁ → Pre ⟨T.setVm vm₁, locs, cells, slots⟩ (Value.ref b :: argsL).toArray) :
    ∃ (v : Option Value) (vm₁ : Vm) (B : Pt), s.WarmedH vm₁ ∧ Stand p l e R s m args below meth c B.U B.locs B.cells B.slots ∧ Post ⟨T.setVm vm₁, locs, cells, slots⟩ (Value.ref b :: argsL).toArray v B ∧
      ∀ target, Steps p.tables e below (B.U.setTop { g with pc := g.pc + 3, stack := v.toList ++ rest }) target → Steps p.tables e below (T.setTop g) target := by
  obtain ⟨mk, methM, hnamed, hmethM, hstM, habM⟩ := Cond.instanceMethod_spec hinst
  obtain ⟨m8, methM', cM, hn8, hmethM', -, -, -, -, -, -, hsigM⟩ := Cond.codeWith_spec hcode
  cases Option.some.inj (hn8.symm.trans hnamed)
  cases hmethM.symm.trans hmethM'
  obtain ⟨c2, r2, m2, q1, q2, q3, q4, kP, hkP, hkPi⟩ := Cond.selects_spec hsel
  cases hcls.symm.trans q1
  cases (State.methodFound?_of_named hnamed hy).symm.trans q2
  cases hnamed.symm.trans q3
  have hselP : selectMethod e.platform s.vm cellB.cls mk = .method mk := by rw [Launch.admits_selectMethod X.admits]; exact q4
  obtain ⟨vm₁, X₁, hstep₁⟩ := X.invokevirtual hexec hown hlink hnamed hmethM hstM hkP hkPi hy (a := b) (cell := cellB) hcell
    (fun z h => by rw [h] at hobj; cases hobj) hselP hmethM habM hkP hkPi (g := g) hg (argsL := argsL) (rest := rest) (hlen _ hsigM) hstack hdg
  obtain ⟨v, B, X', hpost, hsteps⟩ := hK m meth c ⟨T.setVm vm₁, locs, cells, slots⟩ { g with stack := rest } (.invokevirtual index) mk (Value.ref b :: argsL).toArray X₁ hg hsize hdg hW (X₁.named hnamed) (hpre vm₁ X₁.warmed)
  exact ⟨v, vm₁, B, X₁.warmed, X', hpost, fun target h => hstep₁ _ fun acts => by rw [doInvoke_state]; exact hsteps.trans h⟩
abbrev vx_CVW (R : Room) (s : State) (args : Array Value) (own C : String) (index : Nat) (y : MethodName) (bytes : ByteArray) (maxL : Nat) (ret : Option FieldType) (hh : List (Nat × Nat × Nat × Nat)) (ws : List Cond) (rm : Room) (mc ms n : Nat) : Prop :=
  (rm.cells = mc ∧ rm.slots = ms ∧ rm.frames + 1 ≤ R.frames ∧ 8 + (maxL + 11) + rm.locals ≤ R.locals ∧ (∀ w ∈ ws, ∀ (a' : Array Value) (U : State), s.WarmedH U.vm → w.before a' U = true) ∧ Cond.codeWith y bytes maxL ret hh ∈ ws) ∧
  (Cond.codeWith y bytes maxL ret hh).before args s = true ∧ (Cond.initialized y.cls).before args s = true ∧ (y.cls ≠ "java/lang/invoke/MethodHandle" ∧ y.cls ≠ "java/lang/invoke/VarHandle") ∧
  (∀ sig, parseMethodDescriptor y.desc = some sig → n = sig.parameters.length) ∧ (Cond.methodLink own index y).before args s = true ∧ (Cond.instanceMethod y).before args s = true ∧ (Cond.selects C y y).before args s = true
theorem vx_cwVW {own C : String} {index maxL mc ms : Nat} {y : MethodName} {bytes : ByteArray} {ret : Option FieldType} {hh : List (Nat × Nat × Nat × Nat)} {Ts ws ws' : List Cond} {rm : Room} (n : Nat) (ht : ∀ w ∈ Ts, w.before args s = true) (hT : GoodIn Ts (wsV own index C y ws)) (hw : ws = Cond.codeWith y bytes maxL ret hh :: ws') (hrc : rm.cells = mc) (hrs : rm.slots = ms)
    (hd : y.cls = C ∧ y.cls ≠ "java/lang/invoke/MethodHandle" ∧ y.cls ≠ "java/lang/invoke/VarHandle" ∧ (parseMethodDescriptor y.desc).map (fun d => d.parameters.length) = some n) (hR : rm.frames + 1 ≤ R.frames ∧ 8 + (maxL + 11) + rm.locals ≤ R.locals) :
    vx_CVW R s args own C index y bytes maxL ret hh ws rm mc ms n := by
  obtain ⟨hC, hd⟩ := hd
  subst hC
  have ok : ∀ w ∈ wsV own index y.cls y ws, w.before args s = true := fun w h => ht w (hT w h).1
  have hG : GoodIn Ts ws := fun w h => hT w (by unfold wsV; exact List.mem_append_right _ h)
  have hc : Cond.codeWith y bytes maxL ret hh ∈ ws := by rw [hw]; exact List.mem_cons_self
  refine ⟨⟨hrc, hrs, hR.1, hR.2, pay_in ht hG, hc⟩, ht _ (hG _ hc).1, ok _ (by simp [wsV]), ⟨hd.1, hd.2.1⟩, fun sig h => ?_, ok _ (by simp [wsV]), ok _ (by simp [wsV]), ok _ (by simp [wsV])⟩
  have h2 := hd.2.2
  rw [h] at h2
  exact (Option.some.inj h2).symm
theorem vx_runVW {y : MethodName} {bytes cc : ByteArray} {maxL nL mc ms n index : Nat} {ret : Option FieldType} {hh : List (Nat × Nat × Nat × Nat)} {ws : List Cond} {rm : Room} {Pc : Array Value → State → Prop} {Qc : Array Value → State → Outcome → State → Prop} {free : Addr → Prop} {Ts : List Cond} {own C : String} {b : Addr} {As rest : List Value} {g : JFrame}
    (S : CallFix p m c cc nL s args Ts own) (hM : Met l y ws rm Pc Qc mc ms free) (cw : vx_CVW R s args own C index y bytes maxL ret hh ws rm mc ms n) (hp : PreV s H C b Pc As)
    (hg : g.method = m) (hn : As.length = n) (hsize : g.locals.size = nL) (hstack : g.stack = As.reverse ++ .ref b :: rest) (hW : 2 * g.monitorRoom + (rest.map fun v => v.category).sum ≤ 8) (hdg : decode cc g.pc = .ok (.invokevirtual index, 3)) (hf : cells + mc ≤ R.cells ∧ slots + ms ≤ R.slots) :
    va_Run p l e R s m args below meth c H locs cells slots mc ms g rest (Qc (Value.ref b :: As).toArray) free := by
  obtain ⟨⟨hrc, hrs, hfr, hlo, hws, hcw⟩, hcode, hini, hy, hlen, hl, hin, hse⟩ := cw
  have hK : Back l R p e below s args y 3 8 (PreOf R mc ms Pc) (PostOf Qc mc ms free) := va_backW (hh := hh) (bytes := bytes) (maxL := maxL) (ret := ret) hM hp.1 hrc hrs hfr hlo hws hcw (fun a' U hW => word_at hW (Or.inl (by first | rfl | simp [Cond.onTables, Cond.keeps, Cond.steady])) hini)
  obtain ⟨hx, hb, hml, ho, -⟩ := S
  obtain ⟨-, ⟨cellB, hcB, hoB, hclB⟩, hPc⟩ := hp
  intro T hT X
  obtain ⟨v, vm₁, ⟨U', l2, c2, s2⟩, hW₁, X', ⟨g', mk, t, L, e1, e2, hq, h1, hL, h2, h3⟩, st⟩ := vx_callVW X hx (C := C) (hh := hh) (bytes := bytes) (maxL := maxL) (ret := ret) ho hl hin hse hcode hy hK (by rw [hT]; exact hcB) hoB hclB hg (hsize.trans hml.symm) (argsL := As) (rest := rest) (fun sig h => hn.trans (hlen sig h)) hstack hW (by rw [hb]; exact hdg)
    (fun vm₁ hW₁ => ⟨hf.1, hf.2, hPc (T.setVm vm₁) hT hW₁⟩)
  dsimp only [Pt.U, Pt.locs, Pt.cells, Pt.slots] at X' e1 e2 h1 h2 h3 st
  subst h1; subst h2; subst h3
  exact ⟨v, (T.setVm vm₁).calling g' mk (Value.ref b :: As).toArray, t, U', L, hT, X', hL, e1, e2, hq, st⟩
section
variable {y : MethodName} {bytes cc : ByteArray} {maxL nL mc ms n index : Nat} {ret : Option FieldType} {ws : List Cond} {rm : Room} {Pc : Array Value → State → Prop} {Qc : Array Value → State → Outcome → State → Prop} {XC : String → State → State → Prop} {free : Addr → Prop} {Ts : List Cond} {own C : String} {b : Addr} {As rest : List Value} {g : JFrame}
theorem vx_runVX {hh : List (Nat × Nat × Nat × Nat)} (S : CallFix p m c cc nL s args Ts own) (hM : vx_Met l y ws rm Pc Qc XC mc ms free) (cw : vx_CVW R s args own C index y bytes maxL ret hh ws rm mc ms n) (hp : PreV s H C b Pc As)
    (hg : g.method = m) (hn : As.length = n) (hsize : g.locals.size = nL) (hstack : g.stack = As.reverse ++ .ref b :: rest) (hW : 2 * g.monitorRoom + (rest.map fun v => v.category).sum ≤ 8) (hdg : decode cc g.pc = .ok (.invokevirtual index, 3)) (hf : cells + mc ≤ R.cells ∧ slots + ms ≤ R.slots) :
    vx_Run p l e R s m args below meth c H locs cells slots mc ms g rest (Qc (Value.ref b :: As).toArray) XC free := by
  obtain ⟨⟨hrc, hrs, hfr, hlo, hws, hcw⟩, hcode, hini, hy, hlen, hl, hin, hse⟩ := cw
  have hK : vx_Back l R p e below s args y 3 8 (PreOf R mc ms Pc) (PostOf Qc mc ms free) (vx_Post XC mc ms free) := vx_backW (hh := hh) (bytes := bytes) (maxL := maxL) (ret := ret) hM hp.1 hrc hrs hfr hlo hws hcw (fun a' U hW => word_at hW (Or.inl (by first | rfl | simp [Cond.onTables, Cond.keeps, Cond.steady])) hini)
  obtain ⟨hx, hb, hml, ho, -⟩ := S
  obtain ⟨-, ⟨cellB, hcB, hoB, hclB⟩, hPc⟩ := hp
  intro T hT X
  rcases vx_callVX X hx (C := C) (hh := hh) (bytes := bytes) (maxL := maxL) (ret := ret) ho hl hin hse hcode hy hK (by rw [hT]; exact hcB) hoB hclB hg (hsize.trans hml.symm) (argsL := As) (rest := rest) (fun sig h => hn.trans (hlen sig h)) hstack hW (by rw [hb]; exact hdg)
    (fun vm₁ hW₁ => ⟨hf.1, hf.2, hPc (T.setVm vm₁) hT hW₁⟩) with ⟨v, vm₁, ⟨U', l2, c2, s2⟩, hW₁, X', ⟨g', mk, t, L, e1, e2, hq, h1, hL, h2, h3⟩, st⟩ | ⟨q, vm₁, ⟨U', l2, c2, s2⟩, hW₁, X', ⟨g', mk, t, L, E, ce, e1, e2, hq, hce, hcv, hcl, h1, hL, h2, h3⟩, st⟩
  · dsimp only [Pt.U, Pt.locs, Pt.cells, Pt.slots] at X' e1 e2 h1 h2 h3 st
    subst h1; subst h2; subst h3
    exact Or.inl ⟨v, (T.setVm vm₁).calling g' mk (Value.ref b :: As).toArray, t, U', L, hT, X', hL, e1, e2, hq, st⟩
  · dsimp only [Pt.U, Pt.locs, Pt.cells, Pt.slots] at X' e1 e2 h1 h2 h3 st hcl
    subst h1; subst h2; subst h3
    exact Or.inr ⟨q, (T.setVm vm₁).calling g' mk (Value.ref b :: As).toArray, t, U', L, E, ce, hT, X', hL, e1, e2, hq, hce, hcv, vx_cls hW₁ hcl, st⟩
theorem vx_runSX {hh : List (Nat × Nat × Nat × Nat)} (S : CallFix p m c cc nL s args Ts own) (hM : vx_Met l y ws rm Pc Qc XC mc ms free) (cw : vx_CSW R s args own index y bytes maxL ret hh ws rm mc ms n) (hp : PreS s H Pc As)
    (hg : g.method = m) (hn : As.length = n) (hsize : g.locals.size = nL) (hstack : g.stack = As.reverse ++ rest) (hW : 2 * g.monitorRoom + (rest.map fun v => v.category).sum ≤ 8) (hdg : decode cc g.pc = .ok (.invokestatic index, 3)) (hf : cells + mc ≤ R.cells ∧ slots + ms ≤ R.slots) :
    vx_Run p l e R s m args below meth c H locs cells slots mc ms g rest (Qc As.toArray) XC free := by
  obtain ⟨⟨hrc, hrs, hfr, hlo, hws, hcw⟩, hcode, hini, hy, hlen, hl, hstt⟩ := cw
  have hK : vx_Back l R p e below s args y 3 8 (PreOf R mc ms Pc) (PostOf Qc mc ms free) (vx_Post XC mc ms free) := vx_backW (hh := hh) (bytes := bytes) (maxL := maxL) (ret := ret) hM hp.1 hrc hrs hfr hlo hws hcw (fun a' U hW => word_at hW (Or.inl (by first | rfl | simp [Cond.onTables, Cond.keeps, Cond.steady])) hini)
  obtain ⟨hx, hb, hml, ho, -⟩ := S
  intro T hT X
  rcases vx_callSX X hx (hh := hh) (bytes := bytes) (maxL := maxL) (ret := ret) ho hl hstt hini hcode hy hK hg (hsize.trans hml.symm) (argsL := As) (rest := rest) (fun sig h => hn.trans (hlen sig h)) hstack hW (by rw [hb]; exact hdg)
    (fun vm₁ hW₁ => ⟨hf.1, hf.2, hp.2 (T.setVm vm₁) hT hW₁⟩) with ⟨v, vm₁, ⟨U', l2, c2, s2⟩, hW₁, X', ⟨g', mk, t, L, e1, e2, hq, h1, hL, h2, h3⟩, st⟩ | ⟨q, vm₁, ⟨U', l2, c2, s2⟩, hW₁, X', ⟨g', mk, t, L, E, ce, e1, e2, hq, hce, hcv, hcl, h1, hL, h2, h3⟩, st⟩
  · dsimp only [Pt.U, Pt.locs, Pt.cells, Pt.slots] at X' e1 e2 h1 h2 h3 st
    subst h1; subst h2; subst h3
    exact Or.inl ⟨v, (T.setVm vm₁).calling g' mk As.toArray, t, U', L, hT, X', hL, e1, e2, hq, st⟩
  · dsimp only [Pt.U, Pt.locs, Pt.cells, Pt.slots] at X' e1 e2 h1 h2 h3 st hcl
    subst h1; subst h2; subst h3
    exact Or.inr ⟨q, (T.setVm vm₁).calling g' mk As.toArray, t, U', L, E, ce, hT, X', hL, e1, e2, hq, hce, hcv, vx_cls hW₁ hcl, st⟩
end
end VXH
theorem vx_ofWH {l : Launch} {y : MethodName} {ws ws' : List Cond} {rm : Room} {Pc : Array Value → State → Prop} {Qc : Array Value → State → Outcome → State → Prop} {XC : String → State → State → Prop} {mc ms : Nat} {free : Addr → Prop} {cc : ByteArray} {maxL : Nat} {ret : Option FieldType} {hh : List (Nat × Nat × Nat × Nat)}
    (hy : plainName y.cls = true) (hw : ws = Cond.codeWith y cc maxL ret hh :: ws')
    (body : ∀ p e s m args below meth c s₁, BodyLoose p l y (headSpec ws rm) cc maxL ret e s m args below meth c s₁ → c.maxLocals = maxL → Pc args s →
      W p l e (headSpec ws rm).room s m args below meth c s.heap [] 0 0 (vx_MQ below Qc XC args s mc ms free) (entryFrame m args maxL)) : vx_Met l y ws rm Pc Qc XC mc ms free := by
  refine MetFree.of_bodyS (code := cc) (maxLocals := maxL) (ret := ret) hy ?_ ?_
  · intro args s m h hn
    obtain ⟨m9, meth, c, hn9, h1, h2, h3, h4, -, h5, h6, -⟩ := Cond.codeWith_spec (atoms_spec (ws := ws) h _ (by rw [hw]; exact List.mem_cons_self))
    cases hn.symm.trans hn9
    exact ⟨meth, c, h1, h2, h3, h4, h5, h6⟩
  · intro p e s m args below meth c s₁ B hml hP _
    have hh0 : s₁.heap = s.heap := by rw [B.state]; rfl
    obtain ⟨t, a1, o, b1, b2, b3⟩ := body p e s m args below meth c s₁ B hml hP s₁ hh0 (Stand.of_body B)
    exact ⟨t, o, a1, b1, b2, b3⟩
/-! ===== END ===== -/

/-! ===== BEGIN a constructor that throws (launches without stack traces) ===== -/
section VXIA
variable {p : Program} {l : Launch} {e : Env} {R : Room} {s : State} {m : MethodId} {args : Array Value} {below : List Frame} {meth : Method} {c : Code} {T : State} {locs : List Loc} {cells slots : Nat}
theorem vx_callI (X : Stand p l e R s m args below meth c T locs cells slots) (hexec : p.tables.exec = Jvm.exec) {own : String} {index : Nat} {y : MethodName} {bytes : ByteArray} {maxL : Nat}
    (hown : s.vm.findClass own = some m.cls) (hy1 : y.name = "<init>") (hlink : (Cond.methodLink own index y).before args s = true) (hinst : (Cond.instanceMethod y).before args s = true)
    (hcode : (Cond.code y bytes maxL none).before args s = true) (hy : y.cls ≠ "java/lang/invoke/MethodHandle" ∧ y.cls ≠ "java/lang/invoke/VarHandle")
    {W9 : Nat} {Pre : Pt → Array Value → Prop} {Post : Pt → Array Value → Option Value → Pt → Prop} {PostX : Pt → Array Value → Addr → Pt → Prop} (hK : vx_Back l R p e below s args y 3 W9 Pre Post PostX)
    {g : JFrame} (hg : g.method = m) (hsize : g.locals.size = c.maxLocals) {a : Addr} {argsL rest : List Value} (hlen : ∀ sig, parseMethodDescriptor y.desc = some sig → argsL.length = sig.parameters.length)
    (hstack : g.stack = argsL.reverse ++ .ref a :: rest) (hW : 2 * g.monitorRoom + (rest.map fun v => v.category).sum ≤ W9) (hdg : decode c.code g.pc = .ok (.invokespecial index, 3))
    (hpre : ∀ vm₁, s.WarmedH vm₁ → Pre ⟨T.setVm vm₁, locs, cells, slots⟩ (Value.ref a :: argsL).toArray) :
    (∃ (v : Option Value) (vm₁ : Vm) (B : Pt), s.WarmedH vm₁ ∧ Stand p l e R s m args below meth c B.U B.locs B.cells B.slots ∧ Post ⟨T.setVm vm₁, locs, cells, slots⟩ (Value.ref a :: argsL).toArray v B ∧
      ∀ target, Steps p.tables e below (B.U.setTop { g with pc := g.pc + 3, stack := v.toList ++ rest }) target → Steps p.tables e below (T.setTop g) target) ∨
    (∃ (q : Addr) (vm₁ : Vm) (B : Pt), s.WarmedH vm₁ ∧ Stand p l e R s m args below meth c B.U B.locs B.cells B.slots ∧ PostX ⟨T.setVm vm₁, locs, cells, slots⟩ (Value.ref a :: argsL).toArray q B ∧
      Steps p.tables e below (T.setTop g) ((B.U.setTop { g with stack := rest }).pushFrame (.throwing q))) := by
  subst hg
  have hpl : e.platform.magicAccessors = ({} : Platform).magicAccessors := by rw [X.admits.platform]
  obtain ⟨mk, methM, cM, kP, vm₁, hnamed, hmethM, hcodeM, -, hlocalsM, -, hkP, -, hW₁, hstep₁⟩ := Steps.initColdArgs (e := e) X.here hexec X.warmed hpl hown hy1 hy hlink hinst hcode (f := g) rfl hlen hstack hdg
  have X₁ := X.noted hW₁
  rcases hK g.method meth c ⟨T.setVm vm₁, locs, cells, slots⟩ { g with stack := rest } (.invokespecial index) mk (Value.ref a :: argsL).toArray X₁ rfl hsize hdg hW (X₁.named hnamed) (hpre vm₁ X₁.warmed) with ⟨v, B, X', hpost, hsteps⟩ | ⟨q, B, X', hpost, hsteps⟩
  · exact Or.inl ⟨v, vm₁, B, X₁.warmed, X', hpost, fun target h => hstep₁ _ fun acts => by rw [doInvoke_state]; exact hsteps.trans h⟩
  · exact Or.inr ⟨q, vm₁, B, X₁.warmed, X', hpost, hstep₁ _ fun acts => by rw [doInvoke_state]; exact hsteps⟩
end VXIA
section VXIB
variable {p : Program} {l : Launch} {e : Env} {R : Room} {s : State} {m : MethodId} {args : Array Value} {below : List Frame} {meth : Method} {c : Code} {H : Heap} {locs : List Loc} {cells slots : Nat}
variable {y : MethodName} {bytes cc : ByteArray} {maxL nL mc ms n index : Nat} {ret : Option FieldType} {ws : List Cond} {rm : Room} {Pc : Array Value → State → Prop} {Qc : Array Value → State → Outcome → State → Prop} {XC : String → State → State → Prop} {free : Addr → Prop} {Ts : List Cond} {own C : String} {b : Addr} {As rest : List Value} {g : JFrame}
theorem vx_runI (S : CallFix p m c cc nL s args Ts own) (hM : vx_Met l y ws rm Pc Qc XC mc ms free) (cw : CallB R s args own index y bytes maxL none ws rm mc ms n ∧ y.name = "<init>" ∧ (Cond.instanceMethod y).before args s = true) (hp : PreS s H Pc (.ref b :: As))
    (hg : g.method = m) (hn : As.length = n) (hsize : g.locals.size = nL) (hstack : g.stack = As.reverse ++ .ref b :: rest) (hW : 2 * g.monitorRoom + (rest.map fun v => v.category).sum ≤ 8) (hdg : decode cc g.pc = .ok (.invokespecial index, 3)) (hf : cells + mc ≤ R.cells ∧ slots + ms ≤ R.slots) :
    vx_Run p l e R s m args below meth c H locs cells slots mc ms g rest (Qc (Value.ref b :: As).toArray) XC free := by
  have hK : vx_Back l R p e below s args y 3 8 (PreOf R mc ms Pc) (PostOf Qc mc ms free) (vx_Post XC mc ms free) := vx_callBack cw.1 hM hp.1
  obtain ⟨⟨-, -, -, -, -, -, hcode, -, hy, hlen, hl⟩, hy1, hin⟩ := cw
  obtain ⟨hx, hb, hml, ho, -⟩ := S
  have hPc := hp.2
  intro T hT X
  rcases vx_callI X hx (bytes := bytes) (maxL := maxL) ho hy1 hl hin hcode hy hK hg (hsize.trans hml.symm) (a := b) (argsL := As) (rest := rest) (fun sig h => hn.trans (hlen sig h)) hstack hW (by rw [hb]; exact hdg)
    (fun vm₁ hW₁ => ⟨hf.1, hf.2, hPc (T.setVm vm₁) hT hW₁⟩) with ⟨v, vm₁, ⟨U', l2, c2, s2⟩, hW₁, X', ⟨g', mk, t, L, e1, e2, hq, h1, hL, h2, h3⟩, st⟩ | ⟨q, vm₁, ⟨U', l2, c2, s2⟩, hW₁, X', ⟨g', mk, t, L, E, ce, e1, e2, hq, hce, hcv, hcl, h1, hL, h2, h3⟩, st⟩
  · dsimp only [Pt.U, Pt.locs, Pt.cells, Pt.slots] at X' e1 e2 h1 h2 h3 st
    subst h1; subst h2; subst h3
    exact Or.inl ⟨v, (T.setVm vm₁).calling g' mk (Value.ref b :: As).toArray, t, U', L, hT, X', hL, e1, e2, hq, st⟩
  · dsimp only [Pt.U, Pt.locs, Pt.cells, Pt.slots] at X' e1 e2 h1 h2 h3 st hcl
    subst h1; subst h2; subst h3
    exact Or.inr ⟨q, (T.setVm vm₁).calling g' mk (Value.ref b :: As).toArray, t, U', L, E, ce, hT, X', hL, e1, e2, hq, hce, hcv, vx_cls hW₁ hcl, st⟩
end VXIB
/-! ===== END ===== -/
/-! ===== BEGIN a private constructor of a nest mate that throws ===== -/
section VXIC
variable {p : Program} {l : Launch} {e : Env} {R : Room} {s : State} {m : MethodId} {args : Array Value} {below : List Frame} {meth : Method} {c : Code} {T : State} {locs : List Loc} {cells slots : Nat}
theorem vx_callIN (X : Stand p l e R s m args below meth c T locs cells slots) (hexec : p.tables.exec = Jvm.exec) {own : String} {index : Nat} {host : String} {y : MethodName} {bytes : ByteArray} {maxL : Nat}
    (hown : s.vm.findClass own = some m.cls) (hy1 : y.name = "<init>") (hlink : (Cond.methodLinkNest own index y host).before args s = true) (hinst : (Cond.instanceMethod y).before args s = true)
    (hcode : (Cond.code y bytes maxL none).before args s = true) (hy : y.cls ≠ "java/lang/invoke/MethodHandle" ∧ y.cls ≠ "java/lang/invoke/VarHandle")
    {W9 : Nat} {Pre : Pt → Array Value → Prop} {Post : Pt → Array Value → Option Value → Pt → Prop} {PostX : Pt → Array Value → Addr → Pt → Prop} (hK : vx_Back l R p e below s args y 3 W9 Pre Post PostX)
    {g : JFrame} (hg : g.method = m) (hsize : g.locals.size = c.maxLocals) {a : Addr} {argsL rest : List Value} (hlen : ∀ sig, parseMethodDescriptor y.desc = some sig → argsL.length = sig.parameters.length)
    (hstack : g.stack = argsL.reverse ++ .ref a :: rest) (hW : 2 * g.monitorRoom + (rest.map fun v => v.category).sum ≤ W9) (hdg : decode c.code g.pc = .ok (.invokespecial index, 3))
    (hpre : ∀ vm₁, s.WarmedH vm₁ → Pre ⟨T.setVm vm₁, locs, cells, slots⟩ (Value.ref a :: argsL).toArray) :
    (∃ (v : Option Value) (vm₁ : Vm) (B : Pt), s.WarmedH vm₁ ∧ Stand p l e R s m args below meth c B.U B.locs B.cells B.slots ∧ Post ⟨T.setVm vm₁, locs, cells, slots⟩ (Value.ref a :: argsL).toArray v B ∧
      ∀ target, Steps p.tables e below (B.U.setTop { g with pc := g.pc + 3, stack := v.toList ++ rest }) target → Steps p.tables e below (T.setTop g) target) ∨
    (∃ (q : Addr) (vm₁ : Vm) (B : Pt), s.WarmedH vm₁ ∧ Stand p l e R s m args below meth c B.U B.locs B.cells B.slots ∧ PostX ⟨T.setVm vm₁, locs, cells, slots⟩ (Value.ref a :: argsL).toArray q B ∧
      Steps p.tables e below (T.setTop g) ((B.U.setTop { g with stack := rest }).pushFrame (.throwing q))) := by
  subst hg
  have hpl : e.platform.magicAccessors = ({} : Platform).magicAccessors := by rw [X.admits.platform]
  obtain ⟨mk, methM, cM, kP, vm₁, hnamed, hmethM, hcodeM, -, hlocalsM, -, hkP, -, hW₁, hstep₁⟩ := Steps.initColdArgsNest (e := e) X.here hexec X.warmed hpl hown hy1 hy hlink hinst hcode (f := g) rfl hlen hstack hdg
  have X₁ := X.noted hW₁
  rcases hK g.method meth c ⟨T.setVm vm₁, locs, cells, slots⟩ { g with stack := rest } (.invokespecial index) mk (Value.ref a :: argsL).toArray X₁ rfl hsize hdg hW (X₁.named hnamed) (hpre vm₁ X₁.warmed) with ⟨v, B, X', hpost, hsteps⟩ | ⟨q, B, X', hpost, hsteps⟩
  · exact Or.inl ⟨v, vm₁, B, X₁.warmed, X', hpost, fun target h => hstep₁ _ fun acts => by rw [doInvoke_state]; exact hsteps.trans h⟩
  · exact Or.inr ⟨q, vm₁, B, X₁.warmed, X', hpost, hstep₁ _ fun acts => by rw [doInvoke_state]; exact hsteps⟩
end VXIC
section VXID
variable {p : Program} {l : Launch} {e : Env} {R : Room} {s : State} {m : MethodId} {args : Array Value} {below : List Frame} {meth : Method} {c : Code} {H : Heap} {locs : List Loc} {cells slots : Nat}
theorem vx_runIN {y : MethodName} {bytes cc : ByteArray} {maxL nL mc ms n index : Nat} {ws : List Cond} {rm : Room} {Pc : Array Value → State → Prop} {Qc : Array Value → State → Outcome → State → Prop} {XC : String → State → State → Prop} {free : Addr → Prop} {Ts : List Cond} {own host : String} {b : Addr} {As rest : List Value} {g : JFrame}
    (S : CallFix p m c cc nL s args Ts own) (hM : vx_Met l y ws rm Pc Qc XC mc ms free) (cw : va_CN R s args own index y host bytes maxL none ws rm mc ms n ∧ y.name = "<init>" ∧ (Cond.instanceMethod y).before args s = true) (hp : PreS s H Pc (.ref b :: As))
    (hg : g.method = m) (hn : As.length = n) (hsize : g.locals.size = nL) (hstack : g.stack = As.reverse ++ .ref b :: rest) (hW : 2 * g.monitorRoom + (rest.map fun v => v.category).sum ≤ 8) (hdg : decode cc g.pc = .ok (.invokespecial index, 3)) (hf : cells + mc ≤ R.cells ∧ slots + ms ≤ R.slots) :
    vx_Run p l e R s m args below meth c H locs cells slots mc ms g rest (Qc (Value.ref b :: As).toArray) XC free := by
  obtain ⟨⟨⟨hrc, hrs, hfr, hlo, hws, hcw⟩, hcode, hini, hy, hlen, hl⟩, hx1, hx2⟩ := cw
  have hK : vx_Back l R p e below s args y 3 8 (PreOf R mc ms Pc) (PostOf Qc mc ms free) (vx_Post XC mc ms free) := vx_back (bytes := bytes) (maxL := maxL) (ret := none) hM hp.1 hrc hrs hfr hlo hws hcw (fun a' U hW => word_at hW (Or.inl (by first | rfl | simp [Cond.onTables, Cond.keeps, Cond.steady])) hini)
  obtain ⟨hx, hb, hml, ho, -⟩ := S
  have hPc := hp.2
  intro T hT X
  rcases vx_callIN X hx (bytes := bytes) (maxL := maxL) ho hx1 hl hx2 hcode hy hK hg (hsize.trans hml.symm) (a := b) (argsL := As) (rest := rest) (fun sig h => hn.trans (hlen sig h)) hstack hW (by rw [hb]; exact hdg)
    (fun vm₁ hW₁ => ⟨hf.1, hf.2, hPc (T.setVm vm₁) hT hW₁⟩) with ⟨v, vm₁, ⟨U', l2, c2, s2⟩, hW₁, X', ⟨g', mk, t, L, e1, e2, hq, h1, hL, h2, h3⟩, st⟩ | ⟨q, vm₁, ⟨U', l2, c2, s2⟩, hW₁, X', ⟨g', mk, t, L, E, ce, e1, e2, hq, hce, hcv, hcl, h1, hL, h2, h3⟩, st⟩
  · dsimp only [Pt.U, Pt.locs, Pt.cells, Pt.slots] at X' e1 e2 h1 h2 h3 st
    subst h1; subst h2; subst h3
    exact Or.inl ⟨v, (T.setVm vm₁).calling g' mk (Value.ref b :: As).toArray, t, U', L, hT, X', hL, e1, e2, hq, st⟩
  · dsimp only [Pt.U, Pt.locs, Pt.cells, Pt.slots] at X' e1 e2 h1 h2 h3 st hcl
    subst h1; subst h2; subst h3
    exact Or.inr ⟨q, (T.setVm vm₁).calling g' mk (Value.ref b :: As).toArray, t, U', L, E, ce, hT, X', hL, e1, e2, hq, hce, hcv, vx_cls hW₁ hcl, st⟩
end VXID
/-! ===== END ===== -/
/-! ===== BEGIN a private method of a nest mate that may throw (follows va_callVN, va_callSN, va_runVN, va_runSN) ===== -/
section
variable {p : Program} {l : Launch} {e : Env} {R : Room} {s : State} {m : MethodId} {args : Array Value} {below : List Frame} {meth : Method} {c : Code} {H : Heap} {locs : List Loc} {cells slots : Nat}
variable {T : State}
theorem vx_callVN (X : Stand p l e R s m args below meth c T locs cells slots) (hexec : p.tables.exec = Jvm.exec) {own C : String} {index : Nat} {host : String} {y : MethodName} {bytes : ByteArray} {maxL : Nat} {ret : Option FieldType}
    (hown : s.vm.findClass own = some m.cls) (hlink : (Cond.methodLinkNest own index y host).before args s = true) (hinst : (Cond.instanceMethod y).before args s = true) (hsel : (Cond.selects C y y).before args s = true)
    (hcode : (Cond.code y bytes maxL ret).before args s = true) (hy : y.cls ≠ "java/lang/invoke/MethodHandle" ∧ y.cls ≠ "java/lang/invoke/VarHandle")
    {W : Nat} {Pre : Pt → Array Value → Prop} {Post : Pt → Array Value → Option Value → Pt → Prop} {PostX : Pt → Array Value → Addr → Pt → Prop} (hK : vx_Back l R p e below s args y 3 W Pre Post PostX)
    {b : Addr} {cellB : Cell} (hcell : T.heap[b]? = some cellB) (hobj : cellB.vm.isStatics = false) (hcls : s.vm.findClass C = some cellB.cls)
    {g : JFrame} (hg : g.method = m) (hsize : g.locals.size = c.maxLocals) {argsL rest : List Value} (hlen : ∀ sig, parseMethodDescriptor y.desc = some sig → argsL.length = sig.parameters.length)
    (hstack : g.stack = argsL.reverse ++ .ref b :: rest) (hW : 2 * g.monitorRoom + (rest.map fun v => v.category).sum ≤ W) (hdg : decode c.code g.pc = .ok (.invokevirtual index, 3))
    (hpre : ∀ vm₁, s.WarmedH vm₁ → Pre ⟨T.setVm vm₁, locs, cells, slots⟩ (Value.ref b :: argsL).toArray) :
    (∃ (v : Option Value) (vm₁ : Vm) (B : Pt), s.WarmedH vm₁ ∧ Stand p l e R s m args below meth c B.U B.locs B.cells B.slots ∧ Post ⟨T.setVm vm₁, locs, cells, slots⟩ (Value.ref b :: argsL).toArray v B ∧
      ∀ target, Steps p.tables e below (B.U.setTop { g with pc := g.pc + 3, stack := v.toList ++ rest }) target → Steps p.tables e below (T.setTop g) target) ∨
    (∃ (q : Addr) (vm₁ : Vm) (B : Pt), s.WarmedH vm₁ ∧ Stand p l e R s m args below meth c B.U B.locs B.cells B.slots ∧ PostX ⟨T.setVm vm₁, locs, cells, slots⟩ (Value.ref b :: argsL).toArray q B ∧
      Steps p.tables e below (T.setTop g) ((B.U.setTop { g with stack := rest }).pushFrame (.throwing q))) := by
  obtain ⟨mk, methM, hnamed, hmethM, hstM, habM⟩ := Cond.instanceMethod_spec hinst
  obtain ⟨methM', cM, hmethM', -, -, -, -, -, -, hsigM⟩ := Cond.code_spec hnamed hcode
  cases hmethM.symm.trans hmethM'
  obtain ⟨c2, r2, m2, q1, q2, q3, q4, kP, hkP, hkPi⟩ := Cond.selects_spec hsel
  cases hcls.symm.trans q1
  cases (State.methodFound?_of_named hnamed hy).symm.trans q2
  cases hnamed.symm.trans q3
  have hselP : selectMethod e.platform s.vm cellB.cls mk = .method mk := by rw [Launch.admits_selectMethod X.admits]; exact q4
  obtain ⟨vm₁, X₁, hstep₁⟩ := X.invokevirtualNest hexec hown hlink hnamed hmethM hstM hkP hkPi hy (a := b) (cell := cellB) hcell
    (fun z h => by rw [h] at hobj; cases hobj) hselP hmethM habM hkP hkPi (g := g) hg (argsL := argsL) (rest := rest) (hlen _ hsigM) hstack hdg
  rcases hK m meth c ⟨T.setVm vm₁, locs, cells, slots⟩ { g with stack := rest } (.invokevirtual index) mk (Value.ref b :: argsL).toArray X₁ hg hsize hdg hW (X₁.named hnamed) (hpre vm₁ X₁.warmed) with ⟨v, B, X', hpost, hsteps⟩ | ⟨q, B, X', hpost, hsteps⟩
  · exact Or.inl ⟨v, vm₁, B, X₁.warmed, X', hpost, fun target h => hstep₁ _ fun acts => by rw [doInvoke_state]; exact hsteps.trans h⟩
  · exact Or.inr ⟨q, vm₁, B, X₁.warmed, X', hpost, hstep₁ _ fun acts => by rw [doInvoke_state]; exact hsteps⟩
theorem vx_callSN (X : Stand p l e R s m args below meth c T locs cells slots) (hexec : p.tables.exec = Jvm.exec) {own : String} {index : Nat} {host : String} {y : MethodName} {bytes : ByteArray} {maxL : Nat} {ret : Option FieldType}
    (hown : s.vm.findClass own = some m.cls) (hlink : (Cond.methodLinkNest own index y host).before args s = true) (hstat : (Cond.static y).before args s = true) (hinit : (Cond.initialized y.cls).before args s = true)
    (hcode : (Cond.code y bytes maxL ret).before args s = true) (hy : y.cls ≠ "java/lang/invoke/MethodHandle" ∧ y.cls ≠ "java/lang/invoke/VarHandle")
    {W : Nat} {Pre : Pt → Array Value → Prop} {Post : Pt → Array Value → Option Value → Pt → Prop} {PostX : Pt → Array Value → Addr → Pt → Prop} (hK : vx_Back l R p e below s args y 3 W Pre Post PostX)
    {g : JFrame} (hg : g.method = m) (hsize : g.locals.size = c.maxLocals) {argsL rest : List Value} (hlen : ∀ sig, parseMethodDescriptor y.desc = some sig → argsL.length = sig.parameters.length)
    (hstack : g.stack = argsL.reverse ++ rest) (hW : 2 * g.monitorRoom + (rest.map fun v => v.category).sum ≤ W) (hdg : decode c.code g.pc = .ok (.invokestatic index, 3))
    (hpre : ∀ vm₁, s.WarmedH vm₁ → Pre ⟨T.setVm vm₁, locs, cells, slots⟩ argsL.toArray) :
    (∃ (v : Option Value) (vm₁ : Vm) (B : Pt), s.WarmedH vm₁ ∧ Stand p l e R s m args below meth c B.U B.locs B.cells B.slots ∧ Post ⟨T.setVm vm₁, locs, cells, slots⟩ argsL.toArray v B ∧
      ∀ target, Steps p.tables e below (B.U.setTop { g with pc := g.pc + 3, stack := v.toList ++ rest }) target → Steps p.tables e below (T.setTop g) target) ∨
    (∃ (q : Addr) (vm₁ : Vm) (B : Pt), s.WarmedH vm₁ ∧ Stand p l e R s m args below meth c B.U B.locs B.cells B.slots ∧ PostX ⟨T.setVm vm₁, locs, cells, slots⟩ argsL.toArray q B ∧
      Steps p.tables e below (T.setTop g) ((B.U.setTop { g with stack := rest }).pushFrame (.throwing q))) := by
  obtain ⟨mk, hnamed⟩ := Cond.code_named hcode
  obtain ⟨methM, cM, hmethM, -, -, -, -, -, -, hsigM⟩ := Cond.code_spec hnamed hcode
  have hstatic : methM.isStatic = true := Cond.static_spec hnamed hmethM hstat
  obtain ⟨kP, hkP, -⟩ := className_of_methodNamed hnamed
  have hinitP : kP.init = .initialized := Cond.initialized_spec (findClass_of_methodNamed hnamed) hkP hinit
  obtain ⟨vm₁, X₁, hstep₁⟩ := X.invokestaticNest hexec hown hlink hnamed hmethM hstatic hkP hinitP hy (g := g) hg (argsL := argsL) (rest := rest) (hlen _ hsigM) hstack hdg
  rcases hK m meth c ⟨T.setVm vm₁, locs, cells, slots⟩ { g with stack := rest } (.invokestatic index) mk argsL.toArray X₁ hg hsize hdg hW (X₁.named hnamed) (hpre vm₁ X₁.warmed) with ⟨v, B, X', hpost, hsteps⟩ | ⟨q, B, X', hpost, hsteps⟩
  · exact Or.inl ⟨v, vm₁, B, X₁.warmed, X', hpost, fun target h => hstep₁ _ fun acts => by rw [doInvoke_state]; exact hsteps.trans h⟩
  · exact Or.inr ⟨q, vm₁, B, X₁.warmed, X', hpost, hstep₁ _ fun acts => by rw [doInvoke_state]; exact hsteps⟩
theorem vx_runVN {y : MethodName} {bytes cc : ByteArray} {maxL nL mc ms n index : Nat} {ret : Option FieldType} {ws : List Cond} {rm : Room} {Pc : Array Value → State → Prop} {Qc : Array Value → State → Outcome → State → Prop} {XC : String → State → State → Prop} {free : Addr → Prop} {Ts : List Cond} {own C host : String} {b : Addr} {As rest : List Value} {g : JFrame}
    (S : CallFix p m c cc nL s args Ts own) (hM : vx_Met l y ws rm Pc Qc XC mc ms free) (cw : va_CN R s args own index y host bytes maxL ret ws rm mc ms n ∧ (Cond.instanceMethod y).before args s = true ∧ (Cond.selects C y y).before args s = true) (hp : PreV s H C b Pc As)
    (hg : g.method = m) (hn : As.length = n) (hsize : g.locals.size = nL) (hstack : g.stack = As.reverse ++ .ref b :: rest) (hW : 2 * g.monitorRoom + (rest.map fun v => v.category).sum ≤ 8) (hdg : decode cc g.pc = .ok (.invokevirtual index, 3)) (hf : cells + mc ≤ R.cells ∧ slots + ms ≤ R.slots) :
    vx_Run p l e R s m args below meth c H locs cells slots mc ms g rest (Qc (Value.ref b :: As).toArray) XC free := by
  obtain ⟨⟨⟨hrc, hrs, hfr, hlo, hws, hcw⟩, hcode, hini, hy, hlen, hl⟩, hx1, hx2⟩ := cw
  have hK : vx_Back l R p e below s args y 3 8 (PreOf R mc ms Pc) (PostOf Qc mc ms free) (vx_Post XC mc ms free) := vx_back (bytes := bytes) (maxL := maxL) (ret := ret) hM hp.1 hrc hrs hfr hlo hws hcw (fun a' U hW => word_at hW (Or.inl (by first | rfl | simp [Cond.onTables, Cond.keeps, Cond.steady])) hini)
  obtain ⟨hx, hb, hml, ho, -⟩ := S
  obtain ⟨-, ⟨cellB, hcB, hoB, hclB⟩, hPc⟩ := hp
  intro T hT X
  rcases vx_callVN X hx (C := C) (bytes := bytes) (maxL := maxL) (ret := ret) ho hl hx1 hx2 hcode hy hK (by rw [hT]; exact hcB) hoB hclB hg (hsize.trans hml.symm) (argsL := As) (rest := rest) (fun sig h => hn.trans (hlen sig h)) hstack hW (by rw [hb]; exact hdg)
    (fun vm₁ hW₁ => ⟨hf.1, hf.2, hPc (T.setVm vm₁) hT hW₁⟩) with ⟨v, vm₁, ⟨U', l2, c2, s2⟩, hW₁, X', ⟨g', mk, t, L, e1, e2, hq, h1, hL, h2, h3⟩, st⟩ | ⟨q, vm₁, ⟨U', l2, c2, s2⟩, hW₁, X', ⟨g', mk, t, L, E, ce, e1, e2, hq, hce, hcv, hcl, h1, hL, h2, h3⟩, st⟩
  · dsimp only [Pt.U, Pt.locs, Pt.cells, Pt.slots] at X' e1 e2 h1 h2 h3 st
    subst h1; subst h2; subst h3
    exact Or.inl ⟨v, (T.setVm vm₁).calling g' mk (Value.ref b :: As).toArray, t, U', L, hT, X', hL, e1, e2, hq, st⟩
  · dsimp only [Pt.U, Pt.locs, Pt.cells, Pt.slots] at X' e1 e2 h1 h2 h3 st hcl
    subst h1; subst h2; subst h3
    exact Or.inr ⟨q, (T.setVm vm₁).calling g' mk (Value.ref b :: As).toArray, t, U', L, E, ce, hT, X', hL, e1, e2, hq, hce, hcv, vx_cls hW₁ hcl, st⟩
theorem vx_runSN {y : MethodName} {bytes cc : ByteArray} {maxL nL mc ms n index : Nat} {ret : Option FieldType} {ws : List Cond} {rm : Room} {Pc : Array Value → State → Prop} {Qc : Array Value → State → Outcome → State → Prop} {XC : String → State → State → Prop} {free : Addr → Prop} {Ts : List Cond} {own host : String} {As rest : List Value} {g : JFrame}
    (S : CallFix p m c cc nL s args Ts own) (hM : vx_Met l y ws rm Pc Qc XC mc ms free) (cw : va_CN R s args own index y host bytes maxL ret ws rm mc ms n ∧ (Cond.static y).before args s = true ∧ True) (hp : PreS s H Pc As)
    (hg : g.method = m) (hn : As.length = n) (hsize : g.locals.size = nL) (hstack : g.stack = As.reverse ++ rest) (hW : 2 * g.monitorRoom + (rest.map fun v => v.category).sum ≤ 8) (hdg : decode cc g.pc = .ok (.invokestatic index, 3)) (hf : cells + mc ≤ R.cells ∧ slots + ms ≤ R.slots) :
    vx_Run p l e R s m args below meth c H locs cells slots mc ms g rest (Qc As.toArray) XC free := by
  obtain ⟨⟨⟨hrc, hrs, hfr, hlo, hws, hcw⟩, hcode, hini, hy, hlen, hl⟩, hx1, hx2⟩ := cw
  have hK : vx_Back l R p e below s args y 3 8 (PreOf R mc ms Pc) (PostOf Qc mc ms free) (vx_Post XC mc ms free) := vx_back (bytes := bytes) (maxL := maxL) (ret := ret) hM hp.1 hrc hrs hfr hlo hws hcw (fun a' U hW => word_at hW (Or.inl (by first | rfl | simp [Cond.onTables, Cond.keeps, Cond.steady])) hini)
  obtain ⟨hx, hb, hml, ho, -⟩ := S
  have hPc := hp.2
  intro T hT X
  rcases vx_callSN X hx (bytes := bytes) (maxL := maxL) (ret := ret) ho hl hx1 hini hcode hy hK hg (hsize.trans hml.symm) (argsL := As) (rest := rest) (fun sig h => hn.trans (hlen sig h)) hstack hW (by rw [hb]; exact hdg)
    (fun vm₁ hW₁ => ⟨hf.1, hf.2, hPc (T.setVm vm₁) hT hW₁⟩) with ⟨v, vm₁, ⟨U', l2, c2, s2⟩, hW₁, X', ⟨g', mk, t, L, e1, e2, hq, h1, hL, h2, h3⟩, st⟩ | ⟨q, vm₁, ⟨U', l2, c2, s2⟩, hW₁, X', ⟨g', mk, t, L, E, ce, e1, e2, hq, hce, hcv, hcl, h1, hL, h2, h3⟩, st⟩
  · dsimp only [Pt.U, Pt.locs, Pt.cells, Pt.slots] at X' e1 e2 h1 h2 h3 st
    subst h1; subst h2; subst h3
    exact Or.inl ⟨v, (T.setVm vm₁).calling g' mk As.toArray, t, U', L, hT, X', hL, e1, e2, hq, st⟩
  · dsimp only [Pt.U, Pt.locs, Pt.cells, Pt.slots] at X' e1 e2 h1 h2 h3 st hcl
    subst h1; subst h2; subst h3
    exact Or.inr ⟨q, (T.setVm vm₁).calling g' mk As.toArray, t, U', L, E, ce, hT, X', hL, e1, e2, hq, hce, hcv, vx_cls hW₁ hcl, st⟩
end
/-! ===== END ===== -/
end
section
def RX0 : String := "SsaRepair$Flow"
def TX0 : u_T := fun k => match k with
  | 0 => ("SsaRepair$Flow", "graph", "LSsaRepair$Graph;", true)
  | 1 => ("SsaRepair$Flow", "reachable", "I", false)
  | 2 => ("SsaRepair$Flow", "successors", "[I", true)
  | 3 => ("SsaRepair$Flow", "sourcesOfEdges", "[I", true)
  | 4 => ("SsaRepair$Flow", "dominated", "[I", true)
  | 5 => ("SsaRepair$Flow", "parents", "[I", true)
  | 6 => ("SsaRepair$Flow", "frontiers", "[I", true)
  | 7 => ("SsaRepair$Flow", "defining", "[I", true)
  | 8 => ("SsaRepair$Flow", "lastDefinitions", "[I", true)
  | 9 => ("SsaRepair$Flow", "live", "[I", true)
  | 10 => ("SsaRepair$Flow", "minimal", "[I", true)
  | 11 => ("SsaRepair$Flow", "pruned", "[I", true)
  | _ => ("SsaRepair$Flow", "needed", "[I", true)
def tyX0 : Nat → FieldType := fun k => match k with
  | 0 => .object "SsaRepair$Graph"
  | 1 => .int
  | 2 => .array .int
  | 3 => .array .int
  | 4 => .array .int
  | 5 => .array .int
  | 6 => .array .int
  | 7 => .array .int
  | 8 => .array .int
  | 9 => .array .int
  | 10 => .array .int
  | 11 => .array .int
  | _ => .array .int
abbrev wsX00 : List Cond := u_ws RX0 TX0 13
theorem nmX0 : ∀ a, a < 13 → ∀ b, b < 13 → a ≠ b → (TX0 a).2.1 ≠ (TX0 b).2.1 := by decide +kernel
theorem tyX0_ok : ∀ k, k < 13 → parseFieldDescriptor (TX0 k).2.2.1 = some (tyX0 k) := by decide +kernel
abbrev cX0_init : ByteArray := prog_2_method_1_code
def yX0_init : MethodName := ⟨RX0, "<init>", "()V"⟩
abbrev cX0_analyse : ByteArray := prog_2_method_2_code
def yX0_analyse : MethodName := ⟨RX0, "analyse", "()V"⟩
abbrev cX0_findReachable : ByteArray := prog_2_method_3_code
def yX0_findReachable : MethodName := ⟨RX0, "findReachable", "()V"⟩
abbrev cX0_reachedWithout : ByteArray := prog_2_method_4_code
def yX0_reachedWithout : MethodName := ⟨RX0, "reachedWithout", "(I)I"⟩
abbrev cX0_findSourcesOfEdges : ByteArray := prog_2_method_5_code
def yX0_findSourcesOfEdges : MethodName := ⟨RX0, "findSourcesOfEdges", "(I)I"⟩
abbrev cX0_findDominators : ByteArray := prog_2_method_6_code
def yX0_findDominators : MethodName := ⟨RX0, "findDominators", "()V"⟩
abbrev cX0_findParent : ByteArray := prog_2_method_7_code
def yX0_findParent : MethodName := ⟨RX0, "findParent", "(I)I"⟩
abbrev cX0_findFrontier : ByteArray := prog_2_method_8_code
def yX0_findFrontier : MethodName := ⟨RX0, "findFrontier", "(I)I"⟩
abbrev cX0_findDefining : ByteArray := prog_2_method_9_code
def yX0_findDefining : MethodName := ⟨RX0, "findDefining", "(I)I"⟩
abbrev cX0_findLive : ByteArray := prog_2_method_10_code
def yX0_findLive : MethodName := ⟨RX0, "findLive", "(I)I"⟩
abbrev cX0_isLiveGiven : ByteArray := prog_2_method_11_code
def yX0_isLiveGiven : MethodName := ⟨RX0, "isLiveGiven", "(III)Z"⟩
abbrev cX0_findMinimal : ByteArray := prog_2_method_12_code
def yX0_findMinimal : MethodName := ⟨RX0, "findMinimal", "(I)I"⟩
abbrev cX0_lastDefinition : ByteArray := prog_2_method_13_code
def yX0_lastDefinition : MethodName := ⟨RX0, "lastDefinition", "(II)I"⟩
abbrev cX0_countMerges : ByteArray := prog_2_method_14_code
def yX0_countMerges : MethodName := ⟨RX0, "countMerges", "()I"⟩
abbrev cX0_sourceAtBeginning : ByteArray := prog_2_method_15_code
def yX0_sourceAtBeginning : MethodName := ⟨RX0, "sourceAtBeginning", "(II)I"⟩
abbrev cX0_sourceAtEnd : ByteArray := prog_2_method_16_code
def yX0_sourceAtEnd : MethodName := ⟨RX0, "sourceAtEnd", "(II)I"⟩
abbrev cX0_sourceAtUse : ByteArray := prog_2_method_17_code
def yX0_sourceAtUse : MethodName := ⟨RX0, "sourceAtUse", "(II)I"⟩
abbrev cX0_countOperands : ByteArray := prog_2_method_18_code
def yX0_countOperands : MethodName := ⟨RX0, "countOperands", "(II)I"⟩
abbrev cX0_isNewOperand : ByteArray := prog_2_method_19_code
def yX0_isNewOperand : MethodName := ⟨RX0, "isNewOperand", "(III)Z"⟩
abbrev cX0_countUses : ByteArray := prog_2_method_20_code
def yX0_countUses : MethodName := ⟨RX0, "countUses", "(II)I"⟩
abbrev cX0_countUsesIn : ByteArray := prog_2_method_21_code
def yX0_countUsesIn : MethodName := ⟨RX0, "countUsesIn", "(III)I"⟩
abbrev cX0_countUnneeded : ByteArray := prog_2_method_22_code
def yX0_countUnneeded : MethodName := ⟨RX0, "countUnneeded", "()I"⟩
abbrev cX0_noteUses : ByteArray := prog_2_method_23_code
def yX0_noteUses : MethodName := ⟨RX0, "noteUses", "(I)V"⟩
abbrev cX0_noteOperands : ByteArray := prog_2_method_24_code
def yX0_noteOperands : MethodName := ⟨RX0, "noteOperands", "(I)V"⟩
abbrev cX0_noteNeeded : ByteArray := prog_2_method_25_code
def yX0_noteNeeded : MethodName := ⟨RX0, "noteNeeded", "(I)V"⟩
abbrev cX0_countUnneededIn : ByteArray := prog_2_method_26_code
def yX0_countUnneededIn : MethodName := ⟨RX0, "countUnneededIn", "(I)I"⟩
abbrev cX0_openBefore : ByteArray := prog_2_method_27_code
def yX0_openBefore : MethodName := ⟨RX0, "openBefore", "(II)I"⟩
abbrev cX0_reachingBlocks : ByteArray := prog_2_method_28_code
def yX0_reachingBlocks : MethodName := ⟨RX0, "reachingBlocks", "(II)I"⟩
abbrev cX0_sourcesOfEdgesTo : ByteArray := prog_2_method_29_code
def yX0_sourcesOfEdgesTo : MethodName := ⟨RX0, "sourcesOfEdgesTo", "(I)I"⟩
def RX1 : String := "SsaRepair$Graph"
def TX1 : u_T := fun k => match k with
  | 0 => ("SsaRepair$Graph", "blocks", "I", false)
  | 1 => ("SsaRepair$Graph", "actionCounts", "[I", true)
  | 2 => ("SsaRepair$Graph", "edgeCounts", "[I", true)
  | 3 => ("SsaRepair$Graph", "actions", "[I", true)
  | _ => ("SsaRepair$Graph", "targets", "[I", true)
def tyX1 : Nat → FieldType := fun k => match k with
  | 0 => .int
  | 1 => .array .int
  | 2 => .array .int
  | 3 => .array .int
  | _ => .array .int
abbrev wsX10 : List Cond := u_ws RX1 TX1 5
theorem nmX1 : ∀ a, a < 5 → ∀ b, b < 5 → a ≠ b → (TX1 a).2.1 ≠ (TX1 b).2.1 := by decide +kernel
theorem tyX1_ok : ∀ k, k < 5 → parseFieldDescriptor (TX1 k).2.2.1 = some (tyX1 k) := by decide +kernel
abbrev cX1_init : ByteArray := prog_3_method_1_code
def yX1_init : MethodName := ⟨RX1, "<init>", "()V"⟩
abbrev cX1_makeEmpty : ByteArray := prog_3_method_2_code
def yX1_makeEmpty : MethodName := ⟨RX1, "makeEmpty", "(I)V"⟩
abbrev cX1_become : ByteArray := prog_3_method_3_code
def yX1_become : MethodName := ⟨RX1, "become", "(LSsaRepair$Graph;)V"⟩
abbrev cX1_hasBlock : ByteArray := prog_3_method_4_code
def yX1_hasBlock : MethodName := ⟨RX1, "hasBlock", "(I)Z"⟩
abbrev cX1_hasAction : ByteArray := prog_3_method_5_code
def yX1_hasAction : MethodName := ⟨RX1, "hasAction", "(II)Z"⟩
abbrev cX1_hasEdge : ByteArray := prog_3_method_6_code
def yX1_hasEdge : MethodName := ⟨RX1, "hasEdge", "(II)Z"⟩
abbrev cX1_actionAt : ByteArray := prog_3_method_7_code
def yX1_actionAt : MethodName := ⟨RX1, "actionAt", "(II)I"⟩
abbrev cX1_targetAt : ByteArray := prog_3_method_8_code
def yX1_targetAt : MethodName := ⟨RX1, "targetAt", "(II)I"⟩
abbrev cX1_edgeBetween : ByteArray := prog_3_method_9_code
def yX1_edgeBetween : MethodName := ⟨RX1, "edgeBetween", "(II)I"⟩
abbrev cX1_targetSet : ByteArray := prog_3_method_10_code
def yX1_targetSet : MethodName := ⟨RX1, "targetSet", "(I)I"⟩
abbrev cX1_emptyBlock : ByteArray := prog_3_method_11_code
def yX1_emptyBlock : MethodName := ⟨RX1, "emptyBlock", "(I)V"⟩
abbrev cX1_putAction : ByteArray := prog_3_method_12_code
def yX1_putAction : MethodName := ⟨RX1, "putAction", "(II)V"⟩
abbrev cX1_putEdge : ByteArray := prog_3_method_13_code
def yX1_putEdge : MethodName := ⟨RX1, "putEdge", "(II)V"⟩
abbrev cX1_redirect : ByteArray := prog_3_method_14_code
def yX1_redirect : MethodName := ⟨RX1, "redirect", "(III)V"⟩
abbrev cX1_dropAction : ByteArray := prog_3_method_15_code
def yX1_dropAction : MethodName := ⟨RX1, "dropAction", "(II)V"⟩
abbrev cX1_dropEdge : ByteArray := prog_3_method_16_code
def yX1_dropEdge : MethodName := ⟨RX1, "dropEdge", "(II)V"⟩
abbrev cX1_replaceBlock : ByteArray := prog_3_method_17_code
def yX1_replaceBlock : MethodName := ⟨RX1, "replaceBlock", "(LSsaRepair$Line;)V"⟩
abbrev cX1_addCopy : ByteArray := prog_3_method_18_code
def yX1_addCopy : MethodName := ⟨RX1, "addCopy", "(II)I"⟩
abbrev cX1_definitionBefore : ByteArray := prog_3_method_19_code
def yX1_definitionBefore : MethodName := ⟨RX1, "definitionBefore", "(III)I"⟩
abbrev cX1_usesFirst : ByteArray := prog_3_method_20_code
def yX1_usesFirst : MethodName := ⟨RX1, "usesFirst", "(II)Z"⟩
def RX2 : String := "SsaRepair$History"
def TX2 : u_T := fun k => match k with
  | 0 => ("SsaRepair$History", "graphs", "[LSsaRepair$Graph;", true)
  | 1 => ("SsaRepair$History", "latest", "I", false)
  | _ => ("SsaRepair$History", "count", "I", false)
def tyX2 : Nat → FieldType := fun k => match k with
  | 0 => .array (.object "SsaRepair$Graph")
  | 1 => .int
  | _ => .int
abbrev wsX20 : List Cond := u_ws RX2 TX2 3
theorem nmX2 : ∀ a, a < 3 → ∀ b, b < 3 → a ≠ b → (TX2 a).2.1 ≠ (TX2 b).2.1 := by decide +kernel
theorem tyX2_ok : ∀ k, k < 3 → parseFieldDescriptor (TX2 k).2.2.1 = some (tyX2 k) := by decide +kernel
abbrev cX2_init : ByteArray := prog_4_method_1_code
def yX2_init : MethodName := ⟨RX2, "<init>", "()V"⟩
abbrev cX2_remember : ByteArray := prog_4_method_2_code
def yX2_remember : MethodName := ⟨RX2, "remember", "(LSsaRepair$Graph;)V"⟩
abbrev cX2_copyLatest : ByteArray := prog_4_method_3_code
def yX2_copyLatest : MethodName := ⟨RX2, "copyLatest", "(LSsaRepair$Graph;)V"⟩
abbrev cX2_takeBack : ByteArray := prog_4_method_4_code
def yX2_takeBack : MethodName := ⟨RX2, "takeBack", "(LSsaRepair$Graph;)V"⟩
abbrev cX2_forgetAll : ByteArray := prog_4_method_5_code
def yX2_forgetAll : MethodName := ⟨RX2, "forgetAll", "()V"⟩
def RX3 : String := "SsaRepair$Line"
def TX3 : u_T := fun k => match k with
  | 0 => ("SsaRepair$Line", "characters", "[C", true)
  | 1 => ("SsaRepair$Line", "length", "I", false)
  | 2 => ("SsaRepair$Line", "block", "I", false)
  | 3 => ("SsaRepair$Line", "actions", "[I", true)
  | 4 => ("SsaRepair$Line", "actionCount", "I", false)
  | 5 => ("SsaRepair$Line", "targets", "[I", true)
  | _ => ("SsaRepair$Line", "targetCount", "I", false)
def tyX3 : Nat → FieldType := fun k => match k with
  | 0 => .array .char
  | 1 => .int
  | 2 => .int
  | 3 => .array .int
  | 4 => .int
  | 5 => .array .int
  | _ => .int
abbrev wsX30 : List Cond := u_ws RX3 TX3 7
theorem nmX3 : ∀ a, a < 7 → ∀ b, b < 7 → a ≠ b → (TX3 a).2.1 ≠ (TX3 b).2.1 := by decide +kernel
theorem tyX3_ok : ∀ k, k < 7 → parseFieldDescriptor (TX3 k).2.2.1 = some (tyX3 k) := by decide +kernel
abbrev cX3_init : ByteArray := prog_5_method_1_code
def yX3_init : MethodName := ⟨RX3, "<init>", "()V"⟩
abbrev cX3_put : ByteArray := prog_5_method_2_code
def yX3_put : MethodName := ⟨RX3, "put", "(C)V"⟩
abbrev cX3_read : ByteArray := prog_5_method_3_code
def yX3_read : MethodName := ⟨RX3, "read", "(I)I"⟩
abbrev cX3_readActions : ByteArray := prog_5_method_4_code
def yX3_readActions : MethodName := ⟨RX3, "readActions", "()V"⟩
abbrev cX3_readTargets : ByteArray := prog_5_method_5_code
def yX3_readTargets : MethodName := ⟨RX3, "readTargets", "(II)V"⟩
abbrev cX3_isTarget : ByteArray := prog_5_method_6_code
def yX3_isTarget : MethodName := ⟨RX3, "isTarget", "(I)Z"⟩
abbrev cX3_isActionLetter : ByteArray := prog_5_method_7_code
def yX3_isActionLetter : MethodName := ⟨RX3, "isActionLetter", "(C)Z"⟩
abbrev cX3_letterAt : ByteArray := prog_5_method_8_code
def yX3_letterAt : MethodName := ⟨RX3, "letterAt", "(I)C"⟩
def RX4 : String := "SsaRepair$Walk"
def TX4 : u_T := fun k => match k with
  | 0 => ("SsaRepair$Walk", "blocks", "[I", true)
  | 1 => ("SsaRepair$Walk", "choices", "I", false)
  | 2 => ("SsaRepair$Walk", "counts", "[J", true)
  | _ => ("SsaRepair$Walk", "longer", "[J", true)
def tyX4 : Nat → FieldType := fun k => match k with
  | 0 => .array .int
  | 1 => .int
  | 2 => .array .long
  | _ => .array .long
abbrev wsX40 : List Cond := u_ws RX4 TX4 4
theorem nmX4 : ∀ a, a < 4 → ∀ b, b < 4 → a ≠ b → (TX4 a).2.1 ≠ (TX4 b).2.1 := by decide +kernel
theorem tyX4_ok : ∀ k, k < 4 → parseFieldDescriptor (TX4 k).2.2.1 = some (tyX4 k) := by decide +kernel
abbrev cX4_init : ByteArray := prog_6_method_1_code
def yX4_init : MethodName := ⟨RX4, "<init>", "()V"⟩
abbrev cX4_end : ByteArray := prog_6_method_2_code
def yX4_end : MethodName := ⟨RX4, "end", "()I"⟩
abbrev cX4_goTo : ByteArray := prog_6_method_3_code
def yX4_goTo : MethodName := ⟨RX4, "goTo", "(I)V"⟩
abbrev cX4_countWalks : ByteArray := prog_6_method_4_code
def yX4_countWalks : MethodName := ⟨RX4, "countWalks", "(LSsaRepair$Graph;I)V"⟩
abbrev cX4_lengthen : ByteArray := prog_6_method_5_code
def yX4_lengthen : MethodName := ⟨RX4, "lengthen", "(LSsaRepair$Graph;)V"⟩
def RX5 : String := "SsaRepair"
def TX5 : u_T := fun k => match k with
  | 0 => ("SsaRepair", "flow", "LSsaRepair$Flow;", true)
  | 1 => ("SsaRepair", "graph", "LSsaRepair$Graph;", true)
  | 2 => ("SsaRepair", "previousFlow", "LSsaRepair$Flow;", true)
  | 3 => ("SsaRepair", "previous", "LSsaRepair$Graph;", true)
  | 4 => ("SsaRepair", "saved", "LSsaRepair$Graph;", true)
  | 5 => ("SsaRepair", "isSaved", "Z", false)
  | 6 => ("SsaRepair", "history", "LSsaRepair$History;", true)
  | 7 => ("SsaRepair", "line", "LSsaRepair$Line;", true)
  | 8 => ("SsaRepair", "keptError", "I", false)
  | _ => ("SsaRepair", "path", "LSsaRepair$Walk;", true)
def tyX5 : Nat → FieldType := fun k => match k with
  | 0 => .object "SsaRepair$Flow"
  | 1 => .object "SsaRepair$Graph"
  | 2 => .object "SsaRepair$Flow"
  | 3 => .object "SsaRepair$Graph"
  | 4 => .object "SsaRepair$Graph"
  | 5 => .boolean
  | 6 => .object "SsaRepair$History"
  | 7 => .object "SsaRepair$Line"
  | 8 => .int
  | _ => .object "SsaRepair$Walk"
abbrev wsX50 : List Cond := u_ws RX5 TX5 10
theorem nmX5 : ∀ a, a < 10 → ∀ b, b < 10 → a ≠ b → (TX5 a).2.1 ≠ (TX5 b).2.1 := by decide +kernel
theorem tyX5_ok : ∀ k, k < 10 → parseFieldDescriptor (TX5 k).2.2.1 = some (tyX5 k) := by decide +kernel
abbrev cX5_init : ByteArray := prog_1_method_1_code
def yX5_init : MethodName := ⟨RX5, "<init>", "()V"⟩
abbrev cX5_reset : ByteArray := prog_1_method_2_code
def yX5_reset : MethodName := ⟨RX5, "reset", "(I)I"⟩
abbrev cX5_blockCount : ByteArray := prog_1_method_3_code
def yX5_blockCount : MethodName := ⟨RX5, "blockCount", "()I"⟩
abbrev cX5_append : ByteArray := prog_1_method_4_code
def yX5_append : MethodName := ⟨RX5, "append", "(C)I"⟩
abbrev cX5_define : ByteArray := prog_1_method_5_code
def yX5_define : MethodName := ⟨RX5, "define", "()I"⟩
abbrev cX5_errorPosition : ByteArray := prog_1_method_6_code
def yX5_errorPosition : MethodName := ⟨RX5, "errorPosition", "()I"⟩
abbrev cX5_removeAction : ByteArray := prog_1_method_7_code
def yX5_removeAction : MethodName := ⟨RX5, "removeAction", "(II)I"⟩
abbrev cX5_addEdge : ByteArray := prog_1_method_8_code
def yX5_addEdge : MethodName := ⟨RX5, "addEdge", "(II)I"⟩
abbrev cX5_removeEdge : ByteArray := prog_1_method_9_code
def yX5_removeEdge : MethodName := ⟨RX5, "removeEdge", "(II)I"⟩
abbrev cX5_thread : ByteArray := prog_1_method_10_code
def yX5_thread : MethodName := ⟨RX5, "thread", "(III)I"⟩
abbrev cX5_actionCount : ByteArray := prog_1_method_11_code
def yX5_actionCount : MethodName := ⟨RX5, "actionCount", "(I)I"⟩
abbrev cX5_action : ByteArray := prog_1_method_12_code
def yX5_action : MethodName := ⟨RX5, "action", "(II)I"⟩
abbrev cX5_edgeCount : ByteArray := prog_1_method_13_code
def yX5_edgeCount : MethodName := ⟨RX5, "edgeCount", "(I)I"⟩
abbrev cX5_target : ByteArray := prog_1_method_14_code
def yX5_target : MethodName := ⟨RX5, "target", "(II)I"⟩
abbrev cX5_isReachable : ByteArray := prog_1_method_15_code
def yX5_isReachable : MethodName := ⟨RX5, "isReachable", "(I)Z"⟩
abbrev cX5_predecessors : ByteArray := prog_1_method_16_code
def yX5_predecessors : MethodName := ⟨RX5, "predecessors", "(I)I"⟩
abbrev cX5_dominates : ByteArray := prog_1_method_17_code
def yX5_dominates : MethodName := ⟨RX5, "dominates", "(II)Z"⟩
abbrev cX5_parent : ByteArray := prog_1_method_18_code
def yX5_parent : MethodName := ⟨RX5, "parent", "(I)I"⟩
abbrev cX5_frontier : ByteArray := prog_1_method_19_code
def yX5_frontier : MethodName := ⟨RX5, "frontier", "(I)I"⟩
abbrev cX5_isLive : ByteArray := prog_1_method_20_code
def yX5_isLive : MethodName := ⟨RX5, "isLive", "(II)Z"⟩
abbrev cX5_minimalMerges : ByteArray := prog_1_method_21_code
def yX5_minimalMerges : MethodName := ⟨RX5, "minimalMerges", "(I)I"⟩
abbrev cX5_merges : ByteArray := prog_1_method_22_code
def yX5_merges : MethodName := ⟨RX5, "merges", "(I)I"⟩
abbrev cX5_mergeCount : ByteArray := prog_1_method_23_code
def yX5_mergeCount : MethodName := ⟨RX5, "mergeCount", "()I"⟩
abbrev cX5_source : ByteArray := prog_1_method_24_code
def yX5_source : MethodName := ⟨RX5, "source", "(IIZ)I"⟩
abbrev cX5_sourceOfUse : ByteArray := prog_1_method_25_code
def yX5_sourceOfUse : MethodName := ⟨RX5, "sourceOfUse", "(II)I"⟩
abbrev cX5_operand : ByteArray := prog_1_method_26_code
def yX5_operand : MethodName := ⟨RX5, "operand", "(III)I"⟩
abbrev cX5_differentOperands : ByteArray := prog_1_method_27_code
def yX5_differentOperands : MethodName := ⟨RX5, "differentOperands", "(II)I"⟩
abbrev cX5_usesOf : ByteArray := prog_1_method_28_code
def yX5_usesOf : MethodName := ⟨RX5, "usesOf", "(II)I"⟩
abbrev cX5_unneeded : ByteArray := prog_1_method_29_code
def yX5_unneeded : MethodName := ⟨RX5, "unneeded", "()I"⟩
abbrev cX5_reachingCount : ByteArray := prog_1_method_30_code
def yX5_reachingCount : MethodName := ⟨RX5, "reachingCount", "(II)I"⟩
abbrev cX5_reaching : ByteArray := prog_1_method_31_code
def yX5_reaching : MethodName := ⟨RX5, "reaching", "(III)I"⟩
abbrev cX5_isInitialReaching : ByteArray := prog_1_method_32_code
def yX5_isInitialReaching : MethodName := ⟨RX5, "isInitialReaching", "(II)Z"⟩
abbrev cX5_addedMerges : ByteArray := prog_1_method_33_code
def yX5_addedMerges : MethodName := ⟨RX5, "addedMerges", "()I"⟩
abbrev cX5_removedMerges : ByteArray := prog_1_method_34_code
def yX5_removedMerges : MethodName := ⟨RX5, "removedMerges", "()I"⟩
abbrev cX5_changedUses : ByteArray := prog_1_method_35_code
def yX5_changedUses : MethodName := ⟨RX5, "changedUses", "()I"⟩
abbrev cX5_newlyReachable : ByteArray := prog_1_method_36_code
def yX5_newlyReachable : MethodName := ⟨RX5, "newlyReachable", "()I"⟩
abbrev cX5_undo : ByteArray := prog_1_method_37_code
def yX5_undo : MethodName := ⟨RX5, "undo", "()I"⟩
abbrev cX5_walk : ByteArray := prog_1_method_38_code
def yX5_walk : MethodName := ⟨RX5, "walk", "(I)I"⟩
abbrev cX5_clearWalk : ByteArray := prog_1_method_39_code
def yX5_clearWalk : MethodName := ⟨RX5, "clearWalk", "()I"⟩
abbrev cX5_walkEnd : ByteArray := prog_1_method_40_code
def yX5_walkEnd : MethodName := ⟨RX5, "walkEnd", "()I"⟩
abbrev cX5_lastOnWalk : ByteArray := prog_1_method_41_code
def yX5_lastOnWalk : MethodName := ⟨RX5, "lastOnWalk", "(I)I"⟩
abbrev cX5_mergesOnWalk : ByteArray := prog_1_method_42_code
def yX5_mergesOnWalk : MethodName := ⟨RX5, "mergesOnWalk", "(I)I"⟩
abbrev cX5_walks : ByteArray := prog_1_method_43_code
def yX5_walks : MethodName := ⟨RX5, "walks", "(II)J"⟩
abbrev cX5_mergeDensity : ByteArray := prog_1_method_44_code
def yX5_mergeDensity : MethodName := ⟨RX5, "mergeDensity", "()D"⟩
abbrev cX5_save : ByteArray := prog_1_method_45_code
def yX5_save : MethodName := ⟨RX5, "save", "()I"⟩
abbrev cX5_restore : ByteArray := prog_1_method_46_code
def yX5_restore : MethodName := ⟨RX5, "restore", "()I"⟩
abbrev cX5_followGraph : ByteArray := prog_1_method_47_code
def yX5_followGraph : MethodName := ⟨RX5, "followGraph", "()V"⟩
abbrev cX5_requireBlock : ByteArray := prog_1_method_48_code
def yX5_requireBlock : MethodName := ⟨RX5, "requireBlock", "(I)V"⟩
abbrev cX5_requireAction : ByteArray := prog_1_method_49_code
def yX5_requireAction : MethodName := ⟨RX5, "requireAction", "(II)V"⟩
abbrev cX5_requireVariable : ByteArray := prog_1_method_50_code
def yX5_requireVariable : MethodName := ⟨RX5, "requireVariable", "(I)V"⟩
abbrev cX5_requireReachable : ByteArray := prog_1_method_51_code
def yX5_requireReachable : MethodName := ⟨RX5, "requireReachable", "(I)V"⟩
abbrev cX5_requireMerge : ByteArray := prog_1_method_52_code
def yX5_requireMerge : MethodName := ⟨RX5, "requireMerge", "(II)V"⟩
abbrev cX5_readPrevious : ByteArray := prog_1_method_53_code
def yX5_readPrevious : MethodName := ⟨RX5, "readPrevious", "()Z"⟩
abbrev cX5_changedUsesIn : ByteArray := prog_1_method_54_code
def yX5_changedUsesIn : MethodName := ⟨RX5, "changedUsesIn", "(I)I"⟩
abbrev cX5_mergesMissing : ByteArray := prog_1_method_55_code
def yX5_mergesMissing : MethodName := ⟨RX5, "mergesMissing", "(LSsaRepair$Flow;LSsaRepair$Flow;)I"⟩
abbrev cX5_has : ByteArray := prog_1_method_56_code
def yX5_has : MethodName := ⟨RX5, "has", "(II)Z"⟩
abbrev cX5_memberAt : ByteArray := prog_1_method_57_code
def yX5_memberAt : MethodName := ⟨RX5, "memberAt", "(II)I"⟩
abbrev cX5_isUse : ByteArray := prog_1_method_58_code
def yX5_isUse : MethodName := ⟨RX5, "isUse", "(I)Z"⟩
def RX6 : String := "SsaRepairModel"
def TX6 : u_T := fun k => match k with
  | 0 => ("SsaRepairModel", "thrown", "I", false)
  | 1 => ("SsaRepairModel", "blocks", "I", false)
  | 2 => ("SsaRepairModel", "actionCounts", "[I", true)
  | 3 => ("SsaRepairModel", "edgeCounts", "[I", true)
  | 4 => ("SsaRepairModel", "actions", "[[I", true)
  | 5 => ("SsaRepairModel", "edges", "[[I", true)
  | 6 => ("SsaRepairModel", "history", "[[I", true)
  | 7 => ("SsaRepairModel", "saved", "[I", true)
  | 8 => ("SsaRepairModel", "remembered", "I", false)
  | 9 => ("SsaRepairModel", "isSaved", "Z", false)
  | 10 => ("SsaRepairModel", "input", "[C", true)
  | 11 => ("SsaRepairModel", "length", "I", false)
  | 12 => ("SsaRepairModel", "place", "I", false)
  | 13 => ("SsaRepairModel", "errorAt", "I", false)
  | 14 => ("SsaRepairModel", "isWrong", "Z", false)
  | 15 => ("SsaRepairModel", "lineBlock", "I", false)
  | 16 => ("SsaRepairModel", "lineActions", "I", false)
  | 17 => ("SsaRepairModel", "lineEdges", "I", false)
  | 18 => ("SsaRepairModel", "lineAction", "[I", true)
  | 19 => ("SsaRepairModel", "lineEdge", "[I", true)
  | 20 => ("SsaRepairModel", "reached", "I", false)
  | 21 => ("SsaRepairModel", "before", "[I", true)
  | 22 => ("SsaRepairModel", "dominators", "[I", true)
  | 23 => ("SsaRepairModel", "parents", "[I", true)
  | 24 => ("SsaRepairModel", "frontiers", "[I", true)
  | 25 => ("SsaRepairModel", "live", "[I", true)
  | 26 => ("SsaRepairModel", "minimal", "[I", true)
  | 27 => ("SsaRepairModel", "merged", "[I", true)
  | 28 => ("SsaRepairModel", "begins", "[[I", true)
  | 29 => ("SsaRepairModel", "ends", "[[I", true)
  | 30 => ("SsaRepairModel", "noted", "I", false)
  | 31 => ("SsaRepairModel", "oldReached", "I", false)
  | 32 => ("SsaRepairModel", "oldMerged", "[I", true)
  | 33 => ("SsaRepairModel", "oldUses", "[[I", true)
  | 34 => ("SsaRepairModel", "choices", "I", false)
  | _ => ("SsaRepairModel", "walked", "[I", true)
def tyX6 : Nat → FieldType := fun k => match k with
  | 0 => .int
  | 1 => .int
  | 2 => .array .int
  | 3 => .array .int
  | 4 => .array (.array .int)
  | 5 => .array (.array .int)
  | 6 => .array (.array .int)
  | 7 => .array .int
  | 8 => .int
  | 9 => .boolean
  | 10 => .array .char
  | 11 => .int
  | 12 => .int
  | 13 => .int
  | 14 => .boolean
  | 15 => .int
  | 16 => .int
  | 17 => .int
  | 18 => .array .int
  | 19 => .array .int
  | 20 => .int
  | 21 => .array .int
  | 22 => .array .int
  | 23 => .array .int
  | 24 => .array .int
  | 25 => .array .int
  | 26 => .array .int
  | 27 => .array .int
  | 28 => .array (.array .int)
  | 29 => .array (.array .int)
  | 30 => .int
  | 31 => .int
  | 32 => .array .int
  | 33 => .array (.array .int)
  | 34 => .int
  | _ => .array .int
abbrev wsX60 : List Cond := u_ws RX6 TX6 36
theorem nmX6 : ∀ a, a < 36 → ∀ b, b < 36 → a ≠ b → (TX6 a).2.1 ≠ (TX6 b).2.1 := by decide +kernel
theorem tyX6_ok : ∀ k, k < 36 → parseFieldDescriptor (TX6 k).2.2.1 = some (tyX6 k) := by decide +kernel
abbrev cX6_init : ByteArray := prog_8_method_1_code
def yX6_init : MethodName := ⟨RX6, "<init>", "()V"⟩
abbrev cX6_thrown : ByteArray := prog_8_method_2_code
def yX6_thrown : MethodName := ⟨RX6, "thrown", "()I"⟩
abbrev cX6_isBetween : ByteArray := prog_8_method_3_code
def yX6_isBetween : MethodName := ⟨RX6, "isBetween", "(III)Z"⟩
abbrev cX6_has : ByteArray := prog_8_method_4_code
def yX6_has : MethodName := ⟨RX6, "has", "(II)Z"⟩
abbrev cX6_fails : ByteArray := prog_8_method_5_code
def yX6_fails : MethodName := ⟨RX6, "fails", "(IZ)Z"⟩
abbrev cX6_isBlock : ByteArray := prog_8_method_6_code
def yX6_isBlock : MethodName := ⟨RX6, "isBlock", "(I)Z"⟩
abbrev cX6_isVariable : ByteArray := prog_8_method_7_code
def yX6_isVariable : MethodName := ⟨RX6, "isVariable", "(I)Z"⟩
abbrev cX6_write : ByteArray := prog_8_method_8_code
def yX6_write : MethodName := ⟨RX6, "write", "([I)V"⟩
abbrev cX6_take : ByteArray := prog_8_method_9_code
def yX6_take : MethodName := ⟨RX6, "take", "([I)V"⟩
abbrev cX6_remember : ByteArray := prog_8_method_10_code
def yX6_remember : MethodName := ⟨RX6, "remember", "()V"⟩
abbrev cX6_reset : ByteArray := prog_8_method_11_code
def yX6_reset : MethodName := ⟨RX6, "reset", "(I)I"⟩
abbrev cX6_blockCount : ByteArray := prog_8_method_12_code
def yX6_blockCount : MethodName := ⟨RX6, "blockCount", "()I"⟩
abbrev cX6_append : ByteArray := prog_8_method_13_code
def yX6_append : MethodName := ⟨RX6, "append", "(C)I"⟩
abbrev cX6_sees : ByteArray := prog_8_method_14_code
def yX6_sees : MethodName := ⟨RX6, "sees", "(C)Z"⟩
abbrev cX6_pass : ByteArray := prog_8_method_15_code
def yX6_pass : MethodName := ⟨RX6, "pass", "(CC)I"⟩
abbrev cX6_isNewTarget : ByteArray := prog_8_method_16_code
def yX6_isNewTarget : MethodName := ⟨RX6, "isNewTarget", "(I)Z"⟩
abbrev cX6_readTargets : ByteArray := prog_8_method_17_code
def yX6_readTargets : MethodName := ⟨RX6, "readTargets", "()V"⟩
abbrev cX6_readLine : ByteArray := prog_8_method_18_code
def yX6_readLine : MethodName := ⟨RX6, "readLine", "()V"⟩
abbrev cX6_define : ByteArray := prog_8_method_19_code
def yX6_define : MethodName := ⟨RX6, "define", "()I"⟩
abbrev cX6_errorPosition : ByteArray := prog_8_method_20_code
def yX6_errorPosition : MethodName := ⟨RX6, "errorPosition", "()I"⟩
abbrev cX6_isAction : ByteArray := prog_8_method_21_code
def yX6_isAction : MethodName := ⟨RX6, "isAction", "(II)Z"⟩
abbrev cX6_removeAction : ByteArray := prog_8_method_22_code
def yX6_removeAction : MethodName := ⟨RX6, "removeAction", "(II)I"⟩
abbrev cX6_edgeTo : ByteArray := prog_8_method_23_code
def yX6_edgeTo : MethodName := ⟨RX6, "edgeTo", "(II)I"⟩
abbrev cX6_addEdge : ByteArray := prog_8_method_24_code
def yX6_addEdge : MethodName := ⟨RX6, "addEdge", "(II)I"⟩
abbrev cX6_removeEdge : ByteArray := prog_8_method_25_code
def yX6_removeEdge : MethodName := ⟨RX6, "removeEdge", "(II)I"⟩
abbrev cX6_thread : ByteArray := prog_8_method_26_code
def yX6_thread : MethodName := ⟨RX6, "thread", "(III)I"⟩
abbrev cX6_actionCount : ByteArray := prog_8_method_27_code
def yX6_actionCount : MethodName := ⟨RX6, "actionCount", "(I)I"⟩
abbrev cX6_action : ByteArray := prog_8_method_28_code
def yX6_action : MethodName := ⟨RX6, "action", "(II)I"⟩
abbrev cX6_edgeCount : ByteArray := prog_8_method_29_code
def yX6_edgeCount : MethodName := ⟨RX6, "edgeCount", "(I)I"⟩
abbrev cX6_target : ByteArray := prog_8_method_30_code
def yX6_target : MethodName := ⟨RX6, "target", "(II)I"⟩
abbrev cX6_findReached : ByteArray := prog_8_method_31_code
def yX6_findReached : MethodName := ⟨RX6, "findReached", "()V"⟩
abbrev cX6_findDominators : ByteArray := prog_8_method_32_code
def yX6_findDominators : MethodName := ⟨RX6, "findDominators", "()V"⟩
abbrev cX6_isDominator : ByteArray := prog_8_method_33_code
def yX6_isDominator : MethodName := ⟨RX6, "isDominator", "(II)Z"⟩
abbrev cX6_findParents : ByteArray := prog_8_method_34_code
def yX6_findParents : MethodName := ⟨RX6, "findParents", "()V"⟩
abbrev cX6_lastDefinition : ByteArray := prog_8_method_35_code
def yX6_lastDefinition : MethodName := ⟨RX6, "lastDefinition", "(III)I"⟩
abbrev cX6_isDefined : ByteArray := prog_8_method_36_code
def yX6_isDefined : MethodName := ⟨RX6, "isDefined", "(II)Z"⟩
abbrev cX6_isUsedFirst : ByteArray := prog_8_method_37_code
def yX6_isUsedFirst : MethodName := ⟨RX6, "isUsedFirst", "(II)Z"⟩
abbrev cX6_findLive : ByteArray := prog_8_method_38_code
def yX6_findLive : MethodName := ⟨RX6, "findLive", "(I)V"⟩
abbrev cX6_findMerges : ByteArray := prog_8_method_39_code
def yX6_findMerges : MethodName := ⟨RX6, "findMerges", "(I)V"⟩
abbrev cX6_endSource : ByteArray := prog_8_method_40_code
def yX6_endSource : MethodName := ⟨RX6, "endSource", "(III)I"⟩
abbrev cX6_beginSource : ByteArray := prog_8_method_41_code
def yX6_beginSource : MethodName := ⟨RX6, "beginSource", "(II)I"⟩
abbrev cX6_analyze : ByteArray := prog_8_method_42_code
def yX6_analyze : MethodName := ⟨RX6, "analyze", "()V"⟩
abbrev cX6_isUnreached : ByteArray := prog_8_method_43_code
def yX6_isUnreached : MethodName := ⟨RX6, "isUnreached", "(I)Z"⟩
abbrev cX6_isReachable : ByteArray := prog_8_method_44_code
def yX6_isReachable : MethodName := ⟨RX6, "isReachable", "(I)Z"⟩
abbrev cX6_predecessors : ByteArray := prog_8_method_45_code
def yX6_predecessors : MethodName := ⟨RX6, "predecessors", "(I)I"⟩
abbrev cX6_dominates : ByteArray := prog_8_method_46_code
def yX6_dominates : MethodName := ⟨RX6, "dominates", "(II)Z"⟩
abbrev cX6_parent : ByteArray := prog_8_method_47_code
def yX6_parent : MethodName := ⟨RX6, "parent", "(I)I"⟩
abbrev cX6_frontier : ByteArray := prog_8_method_48_code
def yX6_frontier : MethodName := ⟨RX6, "frontier", "(I)I"⟩
abbrev cX6_failsAt : ByteArray := prog_8_method_49_code
def yX6_failsAt : MethodName := ⟨RX6, "failsAt", "(II)Z"⟩
abbrev cX6_isLive : ByteArray := prog_8_method_50_code
def yX6_isLive : MethodName := ⟨RX6, "isLive", "(II)Z"⟩
abbrev cX6_minimalMerges : ByteArray := prog_8_method_51_code
def yX6_minimalMerges : MethodName := ⟨RX6, "minimalMerges", "(I)I"⟩
abbrev cX6_merges : ByteArray := prog_8_method_52_code
def yX6_merges : MethodName := ⟨RX6, "merges", "(I)I"⟩
abbrev cX6_countBits : ByteArray := prog_8_method_53_code
def yX6_countBits : MethodName := ⟨RX6, "countBits", "(I)I"⟩
abbrev cX6_countMerges : ByteArray := prog_8_method_54_code
def yX6_countMerges : MethodName := ⟨RX6, "countMerges", "()I"⟩
abbrev cX6_mergeCount : ByteArray := prog_8_method_55_code
def yX6_mergeCount : MethodName := ⟨RX6, "mergeCount", "()I"⟩
abbrev cX6_source : ByteArray := prog_8_method_56_code
def yX6_source : MethodName := ⟨RX6, "source", "(IIZ)I"⟩
abbrev cX6_useSource : ByteArray := prog_8_method_57_code
def yX6_useSource : MethodName := ⟨RX6, "useSource", "(II)I"⟩
abbrev cX6_sourceOfUse : ByteArray := prog_8_method_58_code
def yX6_sourceOfUse : MethodName := ⟨RX6, "sourceOfUse", "(II)I"⟩
abbrev cX6_operand : ByteArray := prog_8_method_59_code
def yX6_operand : MethodName := ⟨RX6, "operand", "(III)I"⟩
abbrev cX6_differentOperands : ByteArray := prog_8_method_60_code
def yX6_differentOperands : MethodName := ⟨RX6, "differentOperands", "(II)I"⟩
abbrev cX6_countUses : ByteArray := prog_8_method_61_code
def yX6_countUses : MethodName := ⟨RX6, "countUses", "(II)I"⟩
abbrev cX6_usesOf : ByteArray := prog_8_method_62_code
def yX6_usesOf : MethodName := ⟨RX6, "usesOf", "(II)I"⟩
abbrev cX6_isOperand : ByteArray := prog_8_method_63_code
def yX6_isOperand : MethodName := ⟨RX6, "isOperand", "(II)Z"⟩
abbrev cX6_unneeded : ByteArray := prog_8_method_64_code
def yX6_unneeded : MethodName := ⟨RX6, "unneeded", "()I"⟩
abbrev cX6_arrival : ByteArray := prog_8_method_65_code
def yX6_arrival : MethodName := ⟨RX6, "arrival", "(IIZ)I"⟩
abbrev cX6_countReaching : ByteArray := prog_8_method_66_code
def yX6_countReaching : MethodName := ⟨RX6, "countReaching", "(III)I"⟩
abbrev cX6_reachingCount : ByteArray := prog_8_method_67_code
def yX6_reachingCount : MethodName := ⟨RX6, "reachingCount", "(II)I"⟩
abbrev cX6_reaching : ByteArray := prog_8_method_68_code
def yX6_reaching : MethodName := ⟨RX6, "reaching", "(III)I"⟩
abbrev cX6_isInitialReaching : ByteArray := prog_8_method_69_code
def yX6_isInitialReaching : MethodName := ⟨RX6, "isInitialReaching", "(II)Z"⟩
abbrev cX6_isReportEmpty : ByteArray := prog_8_method_70_code
def yX6_isReportEmpty : MethodName := ⟨RX6, "isReportEmpty", "()Z"⟩
abbrev cX6_addedMerges : ByteArray := prog_8_method_71_code
def yX6_addedMerges : MethodName := ⟨RX6, "addedMerges", "()I"⟩
abbrev cX6_removedMerges : ByteArray := prog_8_method_72_code
def yX6_removedMerges : MethodName := ⟨RX6, "removedMerges", "()I"⟩
abbrev cX6_changedUses : ByteArray := prog_8_method_73_code
def yX6_changedUses : MethodName := ⟨RX6, "changedUses", "()I"⟩
abbrev cX6_newlyReachable : ByteArray := prog_8_method_74_code
def yX6_newlyReachable : MethodName := ⟨RX6, "newlyReachable", "()I"⟩
abbrev cX6_undo : ByteArray := prog_8_method_75_code
def yX6_undo : MethodName := ⟨RX6, "undo", "()I"⟩
abbrev cX6_end : ByteArray := prog_8_method_76_code
def yX6_end : MethodName := ⟨RX6, "end", "()I"⟩
abbrev cX6_walk : ByteArray := prog_8_method_77_code
def yX6_walk : MethodName := ⟨RX6, "walk", "(I)I"⟩
abbrev cX6_clearWalk : ByteArray := prog_8_method_78_code
def yX6_clearWalk : MethodName := ⟨RX6, "clearWalk", "()I"⟩
abbrev cX6_walkEnd : ByteArray := prog_8_method_79_code
def yX6_walkEnd : MethodName := ⟨RX6, "walkEnd", "()I"⟩
abbrev cX6_lastOnWalk : ByteArray := prog_8_method_80_code
def yX6_lastOnWalk : MethodName := ⟨RX6, "lastOnWalk", "(I)I"⟩
abbrev cX6_mergesOnWalk : ByteArray := prog_8_method_81_code
def yX6_mergesOnWalk : MethodName := ⟨RX6, "mergesOnWalk", "(I)I"⟩
abbrev cX6_walks : ByteArray := prog_8_method_82_code
def yX6_walks : MethodName := ⟨RX6, "walks", "(II)J"⟩
abbrev cX6_mergeDensity : ByteArray := prog_8_method_83_code
def yX6_mergeDensity : MethodName := ⟨RX6, "mergeDensity", "()D"⟩
abbrev cX6_save : ByteArray := prog_8_method_84_code
def yX6_save : MethodName := ⟨RX6, "save", "()I"⟩
abbrev cX6_restore : ByteArray := prog_8_method_85_code
def yX6_restore : MethodName := ⟨RX6, "restore", "()I"⟩
def RJx145de : String := "java/io/Serializable"
def TJx145de : u_T := fun k => match k with
  | _ => ("", "", "", false)
def tyJx145de : Nat → FieldType := fun k => match k with
  | _ => .int
theorem nmJx145de : ∀ a, a < 0 → ∀ b, b < 0 → a ≠ b → (TJx145de a).2.1 ≠ (TJx145de b).2.1 := by decide +kernel
theorem tyJx145de_ok : ∀ k, k < 0 → parseFieldDescriptor (TJx145de k).2.2.1 = some (tyJx145de k) := by decide +kernel
def RJ6 : String := "java/lang/Integer"
def TJ6 : u_T := fun k => match k with
  | _ => ("", "", "", false)
def tyJ6 : Nat → FieldType := fun k => match k with
  | _ => .int
abbrev wsJ60 : List Cond := u_ws RJ6 TJ6 0
theorem nmJ6 : ∀ a, a < 0 → ∀ b, b < 0 → a ≠ b → (TJ6 a).2.1 ≠ (TJ6 b).2.1 := by decide +kernel
theorem tyJ6_ok : ∀ k, k < 0 → parseFieldDescriptor (TJ6 k).2.2.1 = some (tyJ6 k) := by decide +kernel
abbrev cJ6_bitCount_0f7a4 : ByteArray := prog_14_method_49_code
def yJ6_bitCount_0f7a4 : MethodName := ⟨RJ6, "bitCount", "(I)I"⟩
def RJ9 : String := "java/lang/Math"
def TJ9 : u_T := fun k => match k with
  | _ => ("", "", "", false)
def tyJ9 : Nat → FieldType := fun k => match k with
  | _ => .int
abbrev wsJ90 : List Cond := u_ws RJ9 TJ9 0
theorem nmJ9 : ∀ a, a < 0 → ∀ b, b < 0 → a ≠ b → (TJ9 a).2.1 ≠ (TJ9 b).2.1 := by decide +kernel
theorem tyJ9_ok : ∀ k, k < 0 → parseFieldDescriptor (TJ9 k).2.2.1 = some (tyJ9 k) := by decide +kernel
abbrev cJ9_max_7cf53 : ByteArray := prog_15_method_65_code
def yJ9_max_7cf53 : MethodName := ⟨RJ9, "max", "(II)I"⟩
abbrev cJ9_min_7cf53 : ByteArray := prog_15_method_69_code
def yJ9_min_7cf53 : MethodName := ⟨RJ9, "min", "(II)I"⟩
def RJ0 : String := "java/lang/String"
def TJ0 : u_T := fun k => match k with
  | _ => ("", "", "", false)
def tyJ0 : Nat → FieldType := fun k => match k with
  | _ => .int
abbrev wsJ00 : List Cond := u_ws RJ0 TJ0 0
theorem nmJ0 : ∀ a, a < 0 → ∀ b, b < 0 → a ≠ b → (TJ0 a).2.1 ≠ (TJ0 b).2.1 := by decide +kernel
theorem tyJ0_ok : ∀ k, k < 0 → parseFieldDescriptor (TJ0 k).2.2.1 = some (tyJ0 k) := by decide +kernel
def RJ10 : String := "java/lang/System"
def TJ10 : u_T := fun k => match k with
  | _ => ("", "", "", false)
def tyJ10 : Nat → FieldType := fun k => match k with
  | _ => .int
abbrev wsJ100 : List Cond := u_ws RJ10 TJ10 0
theorem nmJ10 : ∀ a, a < 0 → ∀ b, b < 0 → a ≠ b → (TJ10 a).2.1 ≠ (TJ10 b).2.1 := by decide +kernel
theorem tyJ10_ok : ∀ k, k < 0 → parseFieldDescriptor (TJ10 k).2.2.1 = some (tyJ10 k) := by decide +kernel
def RL : String := "SsaRepairLaw"
abbrev cL_reset : ByteArray := method_3_code
def yL_reset : MethodName := ⟨RL, "reset", "(LSsaRepair;I[J)I"⟩
abbrev cL_append : ByteArray := method_4_code
def yL_append : MethodName := ⟨RL, "append", "(LSsaRepair;C[J)I"⟩
abbrev cL_define : ByteArray := method_5_code
def yL_define : MethodName := ⟨RL, "define", "(LSsaRepair;[J)I"⟩
abbrev cL_errorPosition : ByteArray := method_6_code
def yL_errorPosition : MethodName := ⟨RL, "errorPosition", "(LSsaRepair;[J)I"⟩
abbrev cL_removeAction : ByteArray := method_7_code
def yL_removeAction : MethodName := ⟨RL, "removeAction", "(LSsaRepair;II[J)I"⟩
abbrev cL_addEdge : ByteArray := method_8_code
def yL_addEdge : MethodName := ⟨RL, "addEdge", "(LSsaRepair;II[J)I"⟩
abbrev cL_removeEdge : ByteArray := method_9_code
def yL_removeEdge : MethodName := ⟨RL, "removeEdge", "(LSsaRepair;II[J)I"⟩
abbrev cL_thread : ByteArray := method_10_code
def yL_thread : MethodName := ⟨RL, "thread", "(LSsaRepair;III[J)I"⟩
abbrev cL_actionCount : ByteArray := method_11_code
def yL_actionCount : MethodName := ⟨RL, "actionCount", "(LSsaRepair;I[J)I"⟩
abbrev cL_action : ByteArray := method_12_code
def yL_action : MethodName := ⟨RL, "action", "(LSsaRepair;II[J)I"⟩
abbrev cL_edgeCount : ByteArray := method_13_code
def yL_edgeCount : MethodName := ⟨RL, "edgeCount", "(LSsaRepair;I[J)I"⟩
abbrev cL_target : ByteArray := method_14_code
def yL_target : MethodName := ⟨RL, "target", "(LSsaRepair;II[J)I"⟩
abbrev cL_isReachable : ByteArray := method_15_code
def yL_isReachable : MethodName := ⟨RL, "isReachable", "(LSsaRepair;I[J)I"⟩
abbrev cL_predecessors : ByteArray := method_16_code
def yL_predecessors : MethodName := ⟨RL, "predecessors", "(LSsaRepair;I[J)I"⟩
abbrev cL_dominates : ByteArray := method_17_code
def yL_dominates : MethodName := ⟨RL, "dominates", "(LSsaRepair;II[J)I"⟩
abbrev cL_parent : ByteArray := method_18_code
def yL_parent : MethodName := ⟨RL, "parent", "(LSsaRepair;I[J)I"⟩
abbrev cL_frontier : ByteArray := method_19_code
def yL_frontier : MethodName := ⟨RL, "frontier", "(LSsaRepair;I[J)I"⟩
abbrev cL_isLive : ByteArray := method_20_code
def yL_isLive : MethodName := ⟨RL, "isLive", "(LSsaRepair;II[J)I"⟩
abbrev cL_minimalMerges : ByteArray := method_21_code
def yL_minimalMerges : MethodName := ⟨RL, "minimalMerges", "(LSsaRepair;I[J)I"⟩
abbrev cL_merges : ByteArray := method_22_code
def yL_merges : MethodName := ⟨RL, "merges", "(LSsaRepair;I[J)I"⟩
abbrev cL_source : ByteArray := method_23_code
def yL_source : MethodName := ⟨RL, "source", "(LSsaRepair;IIZ[J)I"⟩
abbrev cL_sourceOfUse : ByteArray := method_24_code
def yL_sourceOfUse : MethodName := ⟨RL, "sourceOfUse", "(LSsaRepair;II[J)I"⟩
abbrev cL_operand : ByteArray := method_25_code
def yL_operand : MethodName := ⟨RL, "operand", "(LSsaRepair;III[J)I"⟩
abbrev cL_differentOperands : ByteArray := method_26_code
def yL_differentOperands : MethodName := ⟨RL, "differentOperands", "(LSsaRepair;II[J)I"⟩
abbrev cL_usesOf : ByteArray := method_27_code
def yL_usesOf : MethodName := ⟨RL, "usesOf", "(LSsaRepair;II[J)I"⟩
abbrev cL_reachingCount : ByteArray := method_28_code
def yL_reachingCount : MethodName := ⟨RL, "reachingCount", "(LSsaRepair;II[J)I"⟩
abbrev cL_reaching : ByteArray := method_29_code
def yL_reaching : MethodName := ⟨RL, "reaching", "(LSsaRepair;III[J)I"⟩
abbrev cL_isInitialReaching : ByteArray := method_30_code
def yL_isInitialReaching : MethodName := ⟨RL, "isInitialReaching", "(LSsaRepair;II[J)I"⟩
abbrev cL_undo : ByteArray := method_31_code
def yL_undo : MethodName := ⟨RL, "undo", "(LSsaRepair;[J)I"⟩
abbrev cL_walk : ByteArray := method_32_code
def yL_walk : MethodName := ⟨RL, "walk", "(LSsaRepair;I[J)I"⟩
abbrev cL_lastOnWalk : ByteArray := method_33_code
def yL_lastOnWalk : MethodName := ⟨RL, "lastOnWalk", "(LSsaRepair;I[J)I"⟩
abbrev cL_mergesOnWalk : ByteArray := method_34_code
def yL_mergesOnWalk : MethodName := ⟨RL, "mergesOnWalk", "(LSsaRepair;I[J)I"⟩
abbrev cL_walks : ByteArray := method_35_code
def yL_walks : MethodName := ⟨RL, "walks", "(LSsaRepair;II[J)I"⟩
abbrev cL_restore : ByteArray := method_36_code
def yL_restore : MethodName := ⟨RL, "restore", "(LSsaRepair;[J)I"⟩
abbrev cL_law : ByteArray := code
def yL_law : MethodName := ⟨RL, "law", "([I)Z"⟩
end
section
/-! the walks' own layer: memory as one function of address and place, methods as relations between memories; V: from this place of a method's code the run ends as the method's contract says -/
abbrev MR : Type := MethodName × ByteArray × Nat × Option FieldType
def TW : List Cond := lw_tbl.filter goodWord
theorem TW_mem {w : Cond} (i : Nat) (h : lw_tbl[i]? = some w) (g : goodWord w = true) : w ∈ TW := List.mem_filter.mpr ⟨List.mem_of_getElem? h, g⟩
theorem TW_good {cd : Cond} (h : cd ∈ TW) : GoodIn TW (cd :: TW) := fun w hw => by
  have h1 : w ∈ TW := (List.mem_cons.mp hw).elim (fun e => by rw [e]; exact h) id
  exact ⟨h1, good_of_word (List.mem_filter.mp h1).2⟩
theorem TW_self : GoodIn TW TW := fun w h1 => ⟨h1, good_of_word (List.mem_filter.mp h1).2⟩
abbrev cls7 : List vw_C := [(RX0, TX0, 13), (RX1, TX1, 5), (RX2, TX2, 3), (RX3, TX3, 7), (RX4, TX4, 4), (RX5, TX5, 10), (RX6, TX6, 36)]
/-- launch, classes and slots, array classes, the first address that is ours -/
abbrev K0 : Type := Launch × va_G × (FieldType → ClassId) × Nat
def kA (κ : K0) : Nat → Prop := fun q => κ.2.2.2 ≤ q
abbrev kT (κ : K0) : List (ClassId × FieldType) := [(κ.2.2.1 .int, .int), (κ.2.2.1 .char, .char), (κ.2.2.1 .long, .long), (κ.2.2.1 (.object RX1), .object RX1), (κ.2.2.1 (.array .int), .array .int)]
/-- what a cell is, but for its numbers: an array (its elements' type, its length, the references of one of references), an object (its class's number, slots, its references) -/
abbrev Kd : Type := (FieldType × Nat × (Nat → Option Nat)) ⊕ (Nat × Nat × (Nat → Option Value))
abbrev Mem : Type := (Nat → Option Kd) × (Nat → Nat → Int32) × (Nat → Nat → Int64) × Option Nat
def slV (sl : Nat → Option Value) (fi : Nat → Int32) (k : Nat) : Value := (sl k).getD (.int (fi k))
def cellK (dA : FieldType → ClassId) (k : Kd) (fi : Nat → Int32) (fl : Nat → Int64) : va_E := match k with
  | .inl (.int, n, _) => .inl (dA .int, n, .inl fi)
  | .inl (.char, n, _) => .inl (dA .char, n, .inl fi)
  | .inl (.long, n, _) => .inl (dA .long, n, .inr (.inl fl))
  | .inl (ty, n, r) => .inl (dA ty, n, .inr (.inr (.inr (.inr r))))
  | .inr (ci, N, sl) => .inr (ci, (List.range N).map (slV sl fi))
def cellM (κ : K0) (μ : Mem) (a : Nat) : va_E := match μ.1 a with
  | some k => cellK κ.2.2.1 k (μ.2.1 a) (μ.2.2.1 a)
  | none => .inr (0, [])
def Rep (κ : K0) (μ : Mem) (H : Heap) : Prop := ∃ L : List Nat, (∀ a, a ∈ L ↔ (μ.1 a).isSome = true) ∧ va_P κ.2.1 cls7 (va_pl L (cellM κ μ)) H ∧ va_D (kA κ) (va_pl L (cellM κ μ)) ∧ ∀ n, μ.2.2.2 = some n → H.size = n
/-- words that a warm-up keeps, but not as good words do -/
def nwL : List Cond := [.methodLinkNest "SsaRepair" 9 ⟨"SsaRepair$Flow", "<init>", "()V"⟩ "SsaRepair", .methodLinkNest "SsaRepair$Flow" 11 ⟨"SsaRepair$Graph", "<init>", "()V"⟩ "SsaRepair", .methodLinkNest "SsaRepair" 29 ⟨"SsaRepair$Graph", "<init>", "()V"⟩ "SsaRepair", .methodLinkNest "SsaRepair$History" 24 ⟨"SsaRepair$Graph", "<init>", "()V"⟩ "SsaRepair", .methodLinkNest "SsaRepair" 46 ⟨"SsaRepair$Line", "<init>", "()V"⟩ "SsaRepair", .methodLinkNest "SsaRepair" 57 ⟨"SsaRepair$Walk", "<init>", "()V"⟩ "SsaRepair", .methodLinkNest "SsaRepair$Flow" 85 ⟨"SsaRepair", "has", "(II)Z"⟩ "SsaRepair", .methodLinkNest "SsaRepair$Flow" 146 ⟨"SsaRepair", "isUse", "(I)Z"⟩ "SsaRepair", .declares ⟨"java/lang/RuntimeException", "<init>", "()V"⟩, .declares ⟨"java/lang/RuntimeException", "<init>", "(Ljava/lang/String;)V"⟩, .declares ⟨"java/lang/Exception", "<init>", "()V"⟩, .declares ⟨"java/lang/Exception", "<init>", "(Ljava/lang/String;)V"⟩, .declares ⟨"java/lang/Throwable", "<init>", "()V"⟩, .declares ⟨"java/lang/Throwable", "<init>", "(Ljava/lang/String;)V"⟩, .castable "java/lang/IllegalArgumentException" "java/lang/IllegalArgumentException", .castable "java/lang/IllegalStateException" "java/lang/IllegalStateException", .castable "java/lang/IndexOutOfBoundsException" "java/lang/IndexOutOfBoundsException", .castable "java/util/NoSuchElementException" "java/util/NoSuchElementException"]
def strL : List (Nat × String) := [(67, "the number of blocks is not 1 to 14"), (85, "the character's code is not 32 to 126"), (92, "the input is full"), (103, "the input is not a line"), (118, "no error position was kept"), (329, "no such block or action"), (324, "no such block"), (139, "the target is block 0, or the edge exists"), (144, "the source has 3 edges"), (149, "no such edge"), (154, "no edge to the block, or none behind it"), (156, "there are 14 blocks"), (174, "no such block or edge"), (333, "the block is not reachable"), (195, "block 0 has no parent"), (331, "no such variable"), (229, "the action is not a use"), (335, "the block is not a merge of the variable"), (240, "no such predecessor"), (262, "no such reaching definition"), (281, "no change is remembered"), (289, "the walk has 30 choices"), (294, "no such edge where the walk has come to"), (304, "the number of choices is not 0 to 30"), (322, "nothing was saved")]
def ncL : List (String × String) := [("java/lang/IllegalArgumentException", "java/lang/IllegalStateException"), ("java/lang/IllegalArgumentException", "java/lang/IndexOutOfBoundsException"), ("java/lang/IllegalArgumentException", "java/util/NoSuchElementException"), ("java/lang/IllegalStateException", "java/lang/IllegalArgumentException"), ("java/lang/IllegalStateException", "java/lang/IndexOutOfBoundsException"), ("java/lang/IllegalStateException", "java/util/NoSuchElementException"), ("java/lang/IndexOutOfBoundsException", "java/lang/IllegalArgumentException"), ("java/lang/IndexOutOfBoundsException", "java/lang/IllegalStateException"), ("java/lang/IndexOutOfBoundsException", "java/util/NoSuchElementException"), ("java/util/NoSuchElementException", "java/lang/IllegalArgumentException"), ("java/util/NoSuchElementException", "java/lang/IllegalStateException"), ("java/util/NoSuchElementException", "java/lang/IndexOutOfBoundsException")]
/-- what holds of the tables and of what lies below our first address -/
def Ev (κ : K0) (U : State) (H : Heap) : Prop :=
  κ.1.stackTraces = false ∧ va_K κ.2.1 cls7 (kT κ) U ∧ (∀ w ∈ nwL, va_Nw w U) ∧ (∀ q ∈ strL, ∃ a, vk_R RX5 q.1 q.2 a U) ∧ (∀ q ∈ ncL, va_Nc q.1 q.2 U) ∧ va_AO RX1 U ∧ va_AOA .int U ∧
  vx_Zq Bundle.tN "UNASSIGNED_STACK" Bundle.steD (kA κ) U H ∧ vx_Zq Bundle.tN "SUPPRESSED_SENTINEL" Bundle.listD (kA κ) U H
theorem nw_cast {C T : String} {s U : State} (hW : s.WarmedH U.vm) (h : va_Nw (.castable C T) s) : va_Nw (.castable C T) U := by
  obtain ⟨c, t, h1, h2, h3⟩ := Cond.castable_spec (show (Cond.castable C T).holds #[] s none s [] = true from h)
  have f1 : U.vm.findClass C = some c := by rw [hW.alike.findClass]; exact h1
  have f2 : U.vm.findClass T = some t := by rw [hW.alike.findClass]; exact h2
  have f3 : U.vm.assignable c t = true := by rw [hW.alike.assignable]; exact h3
  show (Cond.castable C T).holds #[] U none U [] = true
  simp [Cond.holds, Cond.value, f1, f2, f3]
theorem nw_warm {w : Cond} (hw : (∃ a i x h, w = .methodLinkNest a i x h) ∨ (∃ x, w = .declares x) ∨ ∃ C T, w = .castable C T) {s U : State} (hW : s.WarmedH U.vm) (h : va_Nw w s) : va_Nw w U := by
  rcases hw with ⟨a, i, x, q, rfl⟩ | ⟨x, rfl⟩ | ⟨C, T, rfl⟩
  · exact va_Nw.warmM hW h
  · exact va_Nw.warmD hW h
  · exact nw_cast hW h
theorem nw_tab {w : Cond} (hw : (∃ a i x h, w = .methodLinkNest a i x h) ∨ (∃ x, w = .declares x) ∨ ∃ C T, w = .castable C T) : w.onTables = true := by
  rcases hw with ⟨a, i, x, q, rfl⟩ | ⟨x, rfl⟩ | ⟨C, T, rfl⟩ <;> rfl
theorem nwL_form : ∀ w ∈ nwL, (∃ a i x h, w = .methodLinkNest a i x h) ∨ (∃ x, w = .declares x) ∨ ∃ C T, w = .castable C T := by
  intro w hw
  simp only [nwL, List.mem_cons, List.not_mem_nil, or_false] at hw
  rcases hw with rfl | rfl | rfl | rfl | rfl | rfl | rfl | rfl | rfl | rfl | rfl | rfl | rfl | rfl | rfl | rfl | rfl | rfl
  · exact Or.inl ⟨_, _, _, _, rfl⟩
  · exact Or.inl ⟨_, _, _, _, rfl⟩
  · exact Or.inl ⟨_, _, _, _, rfl⟩
  · exact Or.inl ⟨_, _, _, _, rfl⟩
  · exact Or.inl ⟨_, _, _, _, rfl⟩
  · exact Or.inl ⟨_, _, _, _, rfl⟩
  · exact Or.inl ⟨_, _, _, _, rfl⟩
  · exact Or.inl ⟨_, _, _, _, rfl⟩
  · exact Or.inr (Or.inl ⟨_, rfl⟩)
  · exact Or.inr (Or.inl ⟨_, rfl⟩)
  · exact Or.inr (Or.inl ⟨_, rfl⟩)
  · exact Or.inr (Or.inl ⟨_, rfl⟩)
  · exact Or.inr (Or.inl ⟨_, rfl⟩)
  · exact Or.inr (Or.inl ⟨_, rfl⟩)
  · exact Or.inr (Or.inr ⟨_, _, rfl⟩)
  · exact Or.inr (Or.inr ⟨_, _, rfl⟩)
  · exact Or.inr (Or.inr ⟨_, _, rfl⟩)
  · exact Or.inr (Or.inr ⟨_, _, rfl⟩)
theorem Ev.go {κ : K0} {s U : State} {H : Heap} (hW : s.WarmedH U.vm) (hq : ∀ a : Nat, a < s.heap.size → ¬ kA κ a → H[a]? = s.heap[a]?) (h : Ev κ s s.heap) : Ev κ U H := by
  obtain ⟨h0, h1, h2, h3, h4, h5, h6, h7, h8⟩ := h
  exact ⟨h0, va_K.moved hW.alike h1, fun w hw => nw_warm (nwL_form w hw) hW (h2 w hw), fun q hq => by
      obtain ⟨a, ha⟩ := h3 q hq
      exact ⟨a, vk_R.warm hW ha⟩, fun q hq => va_Nc.moved hW.alike (h4 q hq), va_AO.moved hW.alike h5, va_AOA.moved hW.alike h6, vx_Zq.moved hW.alike (h7.kept hq), vx_Zq.moved hW.alike (h8.kept hq)⟩
theorem Ev.same {κ : K0} {s U : State} {H : Heap} (hv : U.vm = s.vm) (h : Ev κ s H) : Ev κ U H := by
  obtain ⟨h0, h1, h2, h3, h4, h5, h6, h7, h8⟩ := h
  have hA : s.vm.Alike U.vm := by rw [hv]; exact Vm.Alike.refl _
  exact ⟨h0, va_K.moved hA h1, fun w hw => va_Nw.same (nw_tab (nwL_form w hw)) hv.symm (h2 w hw), fun q hq => by
      obtain ⟨a, ha⟩ := h3 q hq
      exact ⟨a, vk_R.same hv ha⟩, fun q hq => va_Nc.moved hA (h4 q hq), va_AO.moved hA h5, va_AOA.moved hA h6, vx_Zq.moved hA h7, vx_Zq.moved hA h8⟩
/-- how a method ends: with an answer, or with an exception of a class -/
abbrev Oc : Type := Option Value ⊕ String
def rmOf (d mc ms : Nat) : Room := { frames := d, cells := mc, slots := ms, locals := 64 * d }
def PcOf (κ : K0) (as : List Value) (μ : Mem) : Array Value → State → Prop := va_Pc as (fun U => Rep κ μ U.heap ∧ Ev κ U U.heap ∧ κ.2.2.2 ≤ U.heap.size)
def QcOf (κ : K0) (o : Oc) (μ' : Mem) : Array Value → State → Outcome → State → Prop := fun _ st oc t => (∃ v, o = .inl v ∧ oc = .returned v ∧ Rep κ μ' t.heap) ∧ va_F (kA κ) st t
def XcOf (κ : K0) (o : Oc) (μ' : Mem) : String → State → State → Prop := fun E st t => (o = .inr E ∧ Rep κ μ' t.heap) ∧ va_F (kA κ) st t
def mCode (mr : MR) : Cond := .code mr.1 mr.2.1 mr.2.2.1 mr.2.2.2
/-- **the contract**: called with 'as' over the memory μ the method ends with o over μ' -/
def Ct (κ : K0) (mc ms d : Nat) (mr : MR) (as : List Value) (μ : Mem) (o : Oc) (μ' : Mem) : Prop :=
  vx_Met κ.1 mr.1 (mCode mr :: TW) (rmOf d mc ms) (PcOf κ as μ) (QcOf κ o μ') (XcOf κ o μ') mc ms (kA κ)
abbrev Fr : Type := MR × Room × (List Frame → Array Value → State → State → Prop) × (State → Array Value → Prop) × List (Nat × Nat × Nat × Nat)
def Bd (κ : K0) (φ : Fr) (p : Program) (s : State) (m : MethodId) (args : Array Value) (meth : Method) (c : Code) : Prop :=
  p.tables.exec = Jvm.exec ∧ c.code = φ.1.2.1 ∧ c.maxLocals = φ.1.2.2.1 ∧ s.vm.findClass φ.1.1.cls = some m.cls ∧ (∀ w ∈ TW, w.before args s = true) ∧ meth.sig.returnType = φ.1.2.2.2 ∧ meth.locks = false ∧ Ev κ s s.heap ∧ κ.2.2.2 ≤ s.heap.size ∧ c.exceptionTable.toList = tableOf φ.2.2.2.2 ∧ meth.name = φ.1.1.name ∧ φ.2.2.2.1 s args
def lOK (ls : Array Slot) (nL : Nat) (L : List (Option Value)) : Prop := ls.size = nL ∧ lv_wf ls ∧ ∀ (k : Nat) (v : Value), L[k]? = some (some v) → ls[k]? = some (.val v)
/-- **from this place on**: the run ends as φ says -/
def V (κ : K0) (φ : Fr) (cells slots pc : Nat) (L : List (Option Value)) (st : List Value) (μ : Mem) : Prop :=
  ∀ (p : Program) (e : Env) (s : State) (m : MethodId) (args : Array Value) (below : List Frame) (meth : Method) (c : Code), Bd κ φ p s m args meth c →
  ∀ (H : Heap) (locs : List Loc) (ls : Array Slot), lOK ls φ.1.2.2.1 L → Rep κ μ H → va_S (kA κ) s.heap H locs →
    W p κ.1 e φ.2.1 s m args below meth c H locs cells slots (φ.2.2.1 below args s) (F0 m pc ls st)
/-- an exception of class E at this place -/
def VX (κ : K0) (φ : Fr) (cells slots pc : Nat) (L : List (Option Value)) (E : String) (μ : Mem) : Prop :=
  ∀ (p : Program) (e : Env) (s : State) (m : MethodId) (args : Array Value) (below : List Frame) (meth : Method) (c : Code), Bd κ φ p s m args meth c →
  ∀ (H : Heap) (locs : List Loc) (ls : Array Slot) (ce : Cell) (q : Addr) (rest : List Value), lOK ls φ.1.2.2.1 L → Rep κ μ H → va_S (kA κ) s.heap H locs → H[q]? = some ce → ce.vm = .none → s.vm.findClass E = some ce.cls →
    vx_W p κ.1 e φ.2.1 s m args below meth c H locs cells slots (φ.2.2.1 below args s) (F0 m pc ls rest) q
abbrev phi (κ : K0) (mr : MR) (d mc ms : Nat) (o : Oc) (μ' : Mem) : Fr := (mr, rmOf d mc ms, fun below args s => vx_MQ below (QcOf κ o μ') (XcOf κ o μ') args s mc ms (kA κ), fun _ _ => True, [])
abbrev phiH (κ : K0) (mr : MR) (d mc ms : Nat) (o : Oc) (μ' : Mem) (hh : List (Nat × Nat × Nat × Nat)) : Fr := (mr, rmOf d mc ms, fun below args s => vx_MQ below (QcOf κ o μ') (XcOf κ o μ') args s mc ms (kA κ), fun _ _ => True, hh)
/-! locals -/
def stL : Nat → Value → List (Option Value) → List (Option Value)
  | _, _, [] => []
  | 0, v, _ :: t => some v :: t
  | i + 1, v, o :: t => (if i = 0 then (match o with | some w => if w.category = 2 then none else some w | none => none) else o) :: stL i v t
def asc (L : List (Option Value)) : List (Nat × Value) := (List.range L.length).filterMap (fun k => (L.getD k none).map (fun v => (k, v)))
theorem asc_mem {L : List (Option Value)} {k : Nat} {v : Value} : (k, v) ∈ asc L ↔ L[k]? = some (some v) := by
  unfold asc
  rw [List.mem_filterMap]
  constructor
  · rintro ⟨i, hi, h⟩
    rw [List.mem_range] at hi
    rw [List.getD_eq_getElem?_getD, List.getElem?_eq_getElem hi] at h
    simp only [Option.getD_some] at h
    cases hL : L[i] with
    | none => rw [hL] at h; cases h
    | some w =>
      rw [hL] at h
      simp only [Option.map_some, Option.some.injEq, Prod.mk.injEq] at h
      obtain ⟨rfl, rfl⟩ := h
      rw [List.getElem?_eq_getElem hi, hL]
  · intro h
    have hk : k < L.length := (List.getElem?_eq_some_iff.mp h).1
    refine ⟨k, List.mem_range.mpr hk, ?_⟩
    rw [List.getD_eq_getElem?_getD, h]
    rfl
theorem lOK.has {ls : Array Slot} {nL : Nat} {L : List (Option Value)} (h : lOK ls nL L) : lv_has ls nL (asc L) := ⟨h.1, h.2.1, fun q hq => h.2.2 q.1 q.2 (asc_mem.mp hq)⟩
theorem stL_get : ∀ (L : List (Option Value)) (i : Nat) (v : Value) (k : Nat) (w : Value), (stL i v L)[k]? = some (some w) → (k = i ∧ w = v) ∨ (k ≠ i ∧ L[k]? = some (some w) ∧ ¬ (k + 1 = i ∧ w.category = 2))
  | [], i, v, k, w, h => by simp [stL] at h
  | o :: t, 0, v, k, w, h => by
    cases k with
    | zero => simp [stL] at h; exact Or.inl ⟨rfl, h.symm⟩
    | succ k => simp only [stL, List.getElem?_cons_succ] at h; exact Or.inr ⟨by omega, by simpa using h, by omega⟩
  | o :: t, i + 1, v, k, w, h => by
    cases k with
    | zero =>
      simp only [stL, List.getElem?_cons_zero, Option.some.injEq] at h
      refine Or.inr ⟨by omega, ?_, ?_⟩
      · by_cases hi : i = 0
        · rw [if_pos hi] at h
          cases o with
          | none => cases h
          | some u =>
            simp only at h
            by_cases hc : u.category = 2
            · rw [if_pos hc] at h; cases h
            · rw [if_neg hc] at h; simpa using h
        · rw [if_neg hi] at h; simpa using h
      · rintro ⟨h1, h2⟩
        have hi : i = 0 := by omega
        rw [if_pos hi] at h
        cases o with
        | none => cases h
        | some u =>
          simp only at h
          by_cases hc : u.category = 2
          · rw [if_pos hc] at h; cases h
          · rw [if_neg hc] at h
            cases h
            exact hc h2
    | succ k =>
      simp only [stL, List.getElem?_cons_succ] at h
      rcases stL_get t i v k w h with ⟨rfl, rfl⟩ | ⟨h1, h2, h3⟩
      · exact Or.inl ⟨rfl, rfl⟩
      · exact Or.inr ⟨by omega, by simpa using h2, fun ⟨a, b⟩ => h3 ⟨by omega, b⟩⟩
theorem lOK.st {ls' : Array Slot} {nL i : Nat} {v : Value} {L : List (Option Value)} (h : lv_has ls' nL ((i, v) :: (asc L).filter (fun q => !(q.1 == i) && !(q.1 + 1 == i && q.2.category == 2)))) : lOK ls' nL (stL i v L) := by
  refine ⟨h.1, h.2.1, fun k w hk => ?_⟩
  rcases stL_get L i v k w hk with ⟨rfl, rfl⟩ | ⟨h1, h2, h3⟩
  · exact h.2.2 _ List.mem_cons_self
  · refine h.2.2 (k, w) (List.mem_cons_of_mem _ (List.mem_filter.mpr ⟨asc_mem.mpr h2, ?_⟩))
    simp only [Bool.and_eq_true, Bool.not_eq_true', beq_eq_false_iff_ne, ne_eq, Bool.and_eq_false_imp, beq_iff_eq]
    exact ⟨h1, fun e => by simpa using fun z => h3 ⟨e, z⟩⟩
def noL : Nat → List (Option Value) → List (Option Value)
  | _, [] => []
  | 0, _ :: t => none :: t
  | i + 1, o :: t => o :: noL i t
theorem noL_get : ∀ (L : List (Option Value)) (i k : Nat) (w : Value), (noL i L)[k]? = some (some w) → k ≠ i ∧ L[k]? = some (some w)
  | [], i, k, w, h => by simp [noL] at h
  | o :: t, 0, k, w, h => by
    cases k with
    | zero => simp [noL] at h
    | succ k => simp only [noL, List.getElem?_cons_succ] at h; exact ⟨by omega, by simpa using h⟩
  | o :: t, i + 1, k, w, h => by
    cases k with
    | zero => simp only [noL, List.getElem?_cons_zero] at h; exact ⟨by omega, by simpa using h⟩
    | succ k =>
      simp only [noL, List.getElem?_cons_succ] at h
      obtain ⟨h1, h2⟩ := noL_get t i k w h
      exact ⟨by omega, by simpa using h2⟩
theorem lOK.st2 {ls' : Array Slot} {nL i : Nat} {v : Value} {L : List (Option Value)} (h : lv_has ls' nL ((i, v) :: (asc L).filter (fun q => !(q.1 == i) && (!(q.1 == i + 1) && !(q.1 + 1 == i && q.2.category == 2))))) : lOK ls' nL (stL i v (noL (i + 1) L)) := by
  refine ⟨h.1, h.2.1, fun k w hk => ?_⟩
  rcases stL_get (noL (i + 1) L) i v k w hk with ⟨rfl, rfl⟩ | ⟨h1, h2, h3⟩
  · exact h.2.2 _ List.mem_cons_self
  · obtain ⟨h4, h5⟩ := noL_get L (i + 1) k w h2
    refine h.2.2 (k, w) (List.mem_cons_of_mem _ (List.mem_filter.mpr ⟨asc_mem.mpr h5, ?_⟩))
    simp only [Bool.and_eq_true, Bool.not_eq_true', beq_eq_false_iff_ne, ne_eq, Bool.and_eq_false_imp, beq_iff_eq]
    exact ⟨h1, h4, fun e => by simpa using fun z => h3 ⟨e, z⟩⟩
end
section
/-! the rows: an instruction each -/
section Rows1
variable {κ : K0} {φ : Fr} {cells slots pc : Nat} {L : List (Option Value)} {st : List Value} {μ : Mem}
theorem V_iconst {n : Int} {v : Int32} (d : decode φ.1.2.1 pc = .ok (.iconst n, 1)) (hv : Int32.ofInt n = v) (k : V κ φ cells slots (pc + 1) L (.int v :: st) μ) : V κ φ cells slots pc L st μ :=
  fun p e s m args below meth c B H locs ls hl hR hS => lv_iconst B.1 B.2.1 d hv (k p e s m args below meth c B H locs ls hl hR hS)
theorem V_bipush {n : Int} {v : Int32} (d : decode φ.1.2.1 pc = .ok (.bipush n, 2)) (hv : (Int8.ofInt n).toInt32 = v) (k : V κ φ cells slots (pc + 2) L (.int v :: st) μ) : V κ φ cells slots pc L st μ :=
  fun p e s m args below meth c B H locs ls hl hR hS => lv_bipush B.1 B.2.1 d hv (k p e s m args below meth c B H locs ls hl hR hS)
theorem V_sipush {n : Int} {v : Int32} (d : decode φ.1.2.1 pc = .ok (.sipush n, 3)) (hv : (Int16.ofInt n).toInt32 = v) (k : V κ φ cells slots (pc + 3) L (.int v :: st) μ) : V κ φ cells slots pc L st μ :=
  fun p e s m args below meth c B H locs ls hl hR hS => lv_sipush B.1 B.2.1 d hv (k p e s m args below meth c B H locs ls hl hR hS)
theorem V_lconst {n : Fin 2} {v : Int64} (d : decode φ.1.2.1 pc = .ok (.lconst n, 1)) (hv : Int64.ofNat (n : Nat) = v) (k : V κ φ cells slots (pc + 1) L (.long v :: st) μ) : V κ φ cells slots pc L st μ :=
  fun p e s m args below meth c B H locs ls hl hR hS => lv_lconst B.1 B.2.1 d hv (k p e s m args below meth c B H locs ls hl hR hS)
theorem V_iload_n {n : Fin 4} {i : Nat} {x : Int32} (d : decode φ.1.2.1 pc = .ok (.iload_n n, 1)) (hi : (n : Nat) = i) (h : L[i]? = some (some (.int x))) (k : V κ φ cells slots (pc + 1) L (.int x :: st) μ) : V κ φ cells slots pc L st μ :=
  fun p e s m args below meth c B H locs ls hl hR hS => lv_iload_n B.1 B.2.1 d hi (hl.2.2 _ _ h) (k p e s m args below meth c B H locs ls hl hR hS)
theorem V_iload {i : Nat} {x : Int32} (d : decode φ.1.2.1 pc = .ok (.iload i, 2)) (h : L[i]? = some (some (.int x))) (k : V κ φ cells slots (pc + 2) L (.int x :: st) μ) : V κ φ cells slots pc L st μ :=
  fun p e s m args below meth c B H locs ls hl hR hS => lv_iload B.1 B.2.1 d (hl.2.2 _ _ h) (k p e s m args below meth c B H locs ls hl hR hS)
theorem V_aload_n {n : Fin 4} {i : Nat} {x : Nat} (d : decode φ.1.2.1 pc = .ok (.aload_n n, 1)) (hi : (n : Nat) = i) (h : L[i]? = some (some (.ref x))) (k : V κ φ cells slots (pc + 1) L (.ref x :: st) μ) : V κ φ cells slots pc L st μ :=
  fun p e s m args below meth c B H locs ls hl hR hS => lv_aload_n B.1 B.2.1 d hi (hl.2.2 _ _ h) (k p e s m args below meth c B H locs ls hl hR hS)
theorem V_aload {i : Nat} {x : Nat} (d : decode φ.1.2.1 pc = .ok (.aload i, 2)) (h : L[i]? = some (some (.ref x))) (k : V κ φ cells slots (pc + 2) L (.ref x :: st) μ) : V κ φ cells slots pc L st μ :=
  fun p e s m args below meth c B H locs ls hl hR hS => lv_aload B.1 B.2.1 d (hl.2.2 _ _ h) (k p e s m args below meth c B H locs ls hl hR hS)
theorem V_lload_n {n : Fin 4} {i : Nat} {x : Int64} (d : decode φ.1.2.1 pc = .ok (.lload_n n, 1)) (hi : (n : Nat) = i) (h : L[i]? = some (some (.long x))) (k : V κ φ cells slots (pc + 1) L (.long x :: st) μ) : V κ φ cells slots pc L st μ :=
  fun p e s m args below meth c B H locs ls hl hR hS => lv_lload_n B.1 B.2.1 d hi (hl.2.2 _ _ h) (k p e s m args below meth c B H locs ls hl hR hS)
theorem V_lload {i : Nat} {x : Int64} (d : decode φ.1.2.1 pc = .ok (.lload i, 2)) (h : L[i]? = some (some (.long x))) (k : V κ φ cells slots (pc + 2) L (.long x :: st) μ) : V κ φ cells slots pc L st μ :=
  fun p e s m args below meth c B H locs ls hl hR hS => lv_lload B.1 B.2.1 d (hl.2.2 _ _ h) (k p e s m args below meth c B H locs ls hl hR hS)
theorem V_dload_n {n : Fin 4} {i : Nat} {x : UInt64} (d : decode φ.1.2.1 pc = .ok (.dload_n n, 1)) (hi : (n : Nat) = i) (h : L[i]? = some (some (.double x))) (k : V κ φ cells slots (pc + 1) L (.double x :: st) μ) : V κ φ cells slots pc L st μ :=
  fun p e s m args below meth c B H locs ls hl hR hS => lv_dload_n B.1 B.2.1 d hi (hl.2.2 _ _ h) (k p e s m args below meth c B H locs ls hl hR hS)
theorem V_dload {i : Nat} {x : UInt64} (d : decode φ.1.2.1 pc = .ok (.dload i, 2)) (h : L[i]? = some (some (.double x))) (k : V κ φ cells slots (pc + 2) L (.double x :: st) μ) : V κ φ cells slots pc L st μ :=
  fun p e s m args below meth c B H locs ls hl hR hS => lv_dload B.1 B.2.1 d (hl.2.2 _ _ h) (k p e s m args below meth c B H locs ls hl hR hS)
theorem V_istore_n {n : Fin 4} {i : Nat} {x : Int32} (d : decode φ.1.2.1 pc = .ok (.istore_n n, 1)) (hi : (n : Nat) = i) (hn : i < φ.1.2.2.1) (k : V κ φ cells slots (pc + 1) (stL i (.int x) L) st μ) : V κ φ cells slots pc L (.int x :: st) μ :=
  fun p e s m args below meth c B H locs ls hl hR hS => lv_istore_n B.1 B.2.1 d hi hl.has hn rfl (fun ls2 hl2 => k p e s m args below meth c B H locs ls2 (lOK.st hl2) hR hS)
theorem V_istore {i : Nat} {x : Int32} (d : decode φ.1.2.1 pc = .ok (.istore i, 2)) (hn : i < φ.1.2.2.1) (k : V κ φ cells slots (pc + 2) (stL i (.int x) L) st μ) : V κ φ cells slots pc L (.int x :: st) μ :=
  fun p e s m args below meth c B H locs ls hl hR hS => lv_istore B.1 B.2.1 d hl.has hn rfl (fun ls2 hl2 => k p e s m args below meth c B H locs ls2 (lOK.st hl2) hR hS)
theorem V_astore_n {n : Fin 4} {i : Nat} {x : Nat} (d : decode φ.1.2.1 pc = .ok (.astore_n n, 1)) (hi : (n : Nat) = i) (hn : i < φ.1.2.2.1) (k : V κ φ cells slots (pc + 1) (stL i (.ref x) L) st μ) : V κ φ cells slots pc L (.ref x :: st) μ :=
  fun p e s m args below meth c B H locs ls hl hR hS => lv_astore_n B.1 B.2.1 d hi hl.has hn rfl (fun ls2 hl2 => k p e s m args below meth c B H locs ls2 (lOK.st hl2) hR hS)
theorem V_astore {i : Nat} {x : Nat} (d : decode φ.1.2.1 pc = .ok (.astore i, 2)) (hn : i < φ.1.2.2.1) (k : V κ φ cells slots (pc + 2) (stL i (.ref x) L) st μ) : V κ φ cells slots pc L (.ref x :: st) μ :=
  fun p e s m args below meth c B H locs ls hl hR hS => lv_astore B.1 B.2.1 d hl.has hn rfl (fun ls2 hl2 => k p e s m args below meth c B H locs ls2 (lOK.st hl2) hR hS)
theorem V_lstore {i : Nat} {x : Int64} (d : decode φ.1.2.1 pc = .ok (.lstore i, 2)) (hn : i + 1 < φ.1.2.2.1) (k : V κ φ cells slots (pc + 2) (stL i (.long x) (noL (i + 1) L)) st μ) : V κ φ cells slots pc L (.long x :: st) μ :=
  fun p e s m args below meth c B H locs ls hl hR hS => lv_lstore B.1 B.2.1 d hl.has hn rfl (fun ls2 hl2 => k p e s m args below meth c B H locs ls2 (lOK.st2 hl2) hR hS)
theorem V_dstore {i : Nat} {x : UInt64} (d : decode φ.1.2.1 pc = .ok (.dstore i, 2)) (hn : i + 1 < φ.1.2.2.1) (k : V κ φ cells slots (pc + 2) (stL i (.double x) (noL (i + 1) L)) st μ) : V κ φ cells slots pc L (.double x :: st) μ :=
  fun p e s m args below meth c B H locs ls hl hR hS => lv_dstore B.1 B.2.1 d hl.has hn rfl (fun ls2 hl2 => k p e s m args below meth c B H locs ls2 (lOK.st2 hl2) hR hS)
theorem V_iinc {i : Nat} {n : Int} {x v : Int32} (d : decode φ.1.2.1 pc = .ok (.iinc i n, 3)) (h : L[i]? = some (some (.int x))) (hv : x + Int32.ofInt n = v) (hn : i < φ.1.2.2.1) (k : V κ φ cells slots (pc + 3) (stL i (.int v) L) st μ) : V κ φ cells slots pc L st μ := by
  intro p e s m args below meth c B H locs ls hl hR hS
  obtain ⟨j, hj⟩ := List.getElem?_of_mem (asc_mem.mpr h)
  exact lv_iinc B.1 B.2.1 d hl.has hj hv hn rfl (fun ls2 hl2 => k p e s m args below meth c B H locs ls2 (lOK.st hl2) hR hS)
theorem V_iadd {x y : Int32} (d : decode φ.1.2.1 pc = .ok (.iadd, 1))  (k : V κ φ cells slots (pc + 1) L (.int (x + y) :: st) μ) : V κ φ cells slots pc L (.int y :: .int x :: st) μ :=
  fun p e s m args below meth c B H locs ls hl hR hS => lv_iadd B.1 B.2.1 d  (k p e s m args below meth c B H locs ls hl hR hS)
theorem V_isub {x y : Int32} (d : decode φ.1.2.1 pc = .ok (.isub, 1))  (k : V κ φ cells slots (pc + 1) L (.int (x - y) :: st) μ) : V κ φ cells slots pc L (.int y :: .int x :: st) μ :=
  fun p e s m args below meth c B H locs ls hl hR hS => lv_isub B.1 B.2.1 d  (k p e s m args below meth c B H locs ls hl hR hS)
theorem V_imul {x y : Int32} (d : decode φ.1.2.1 pc = .ok (.imul, 1))  (k : V κ φ cells slots (pc + 1) L (.int (x * y) :: st) μ) : V κ φ cells slots pc L (.int y :: .int x :: st) μ :=
  fun p e s m args below meth c B H locs ls hl hR hS => lv_imul B.1 B.2.1 d  (k p e s m args below meth c B H locs ls hl hR hS)
theorem V_iand {x y : Int32} (d : decode φ.1.2.1 pc = .ok (.iand, 1))  (k : V κ φ cells slots (pc + 1) L (.int (x &&& y) :: st) μ) : V κ φ cells slots pc L (.int y :: .int x :: st) μ :=
  fun p e s m args below meth c B H locs ls hl hR hS => lv_iand B.1 B.2.1 d  (k p e s m args below meth c B H locs ls hl hR hS)
theorem V_ior {x y : Int32} (d : decode φ.1.2.1 pc = .ok (.ior, 1))  (k : V κ φ cells slots (pc + 1) L (.int (x ||| y) :: st) μ) : V κ φ cells slots pc L (.int y :: .int x :: st) μ :=
  fun p e s m args below meth c B H locs ls hl hR hS => lv_ior B.1 B.2.1 d  (k p e s m args below meth c B H locs ls hl hR hS)
theorem V_ixor {x y : Int32} (d : decode φ.1.2.1 pc = .ok (.ixor, 1))  (k : V κ φ cells slots (pc + 1) L (.int (x ^^^ y) :: st) μ) : V κ φ cells slots pc L (.int y :: .int x :: st) μ :=
  fun p e s m args below meth c B H locs ls hl hR hS => lv_ixor B.1 B.2.1 d  (k p e s m args below meth c B H locs ls hl hR hS)
theorem V_ishl {x y : Int32} (d : decode φ.1.2.1 pc = .ok (.ishl, 1))  (k : V κ φ cells slots (pc + 1) L (.int (x <<< (y &&& 31)) :: st) μ) : V κ φ cells slots pc L (.int y :: .int x :: st) μ :=
  fun p e s m args below meth c B H locs ls hl hR hS => lv_ishl B.1 B.2.1 d  (k p e s m args below meth c B H locs ls hl hR hS)
theorem V_ishr {x y : Int32} (d : decode φ.1.2.1 pc = .ok (.ishr, 1))  (k : V κ φ cells slots (pc + 1) L (.int (x >>> (y &&& 31)) :: st) μ) : V κ φ cells slots pc L (.int y :: .int x :: st) μ :=
  fun p e s m args below meth c B H locs ls hl hR hS => lv_ishr B.1 B.2.1 d  (k p e s m args below meth c B H locs ls hl hR hS)
theorem V_idiv {x y : Int32} (d : decode φ.1.2.1 pc = .ok (.idiv, 1)) (h : ¬ y = 0) (k : V κ φ cells slots (pc + 1) L (.int (x / y) :: st) μ) : V κ φ cells slots pc L (.int y :: .int x :: st) μ :=
  fun p e s m args below meth c B H locs ls hl hR hS => lv_idiv B.1 B.2.1 d h (k p e s m args below meth c B H locs ls hl hR hS)
theorem V_irem {x y : Int32} (d : decode φ.1.2.1 pc = .ok (.irem, 1)) (h : ¬ y = 0) (k : V κ φ cells slots (pc + 1) L (.int (x - x / y * y) :: st) μ) : V κ φ cells slots pc L (.int y :: .int x :: st) μ :=
  fun p e s m args below meth c B H locs ls hl hR hS => lv_irem B.1 B.2.1 d h (k p e s m args below meth c B H locs ls hl hR hS)
theorem V_iushr {x y : Int32} (d : decode φ.1.2.1 pc = .ok (.iushr, 1))  (k : V κ φ cells slots (pc + 1) L (.int (x.toUInt32 >>> (y.toUInt32 &&& Int32.toUInt32 31)).toInt32 :: st) μ) : V κ φ cells slots pc L (.int y :: .int x :: st) μ :=
  fun p e s m args below meth c B H locs ls hl hR hS => lv_iushr B.1 B.2.1 d rfl (k p e s m args below meth c B H locs ls hl hR hS)
theorem V_i2l {x : Int32} (d : decode φ.1.2.1 pc = .ok (.i2l, 1))  (k : V κ φ cells slots (pc + 1) L (.long x.toInt64 :: st) μ) : V κ φ cells slots pc L (.int x :: st) μ :=
  fun p e s m args below meth c B H locs ls hl hR hS => lv_i2l B.1 B.2.1 d rfl (k p e s m args below meth c B H locs ls hl hR hS)
theorem V_i2c {x : Int32} (d : decode φ.1.2.1 pc = .ok (.i2c, 1))  (k : V κ φ cells slots (pc + 1) L (.int (x.toUInt32 % 65536).toInt32 :: st) μ) : V κ φ cells slots pc L (.int x :: st) μ :=
  fun p e s m args below meth c B H locs ls hl hR hS => lv_i2c B.1 B.2.1 d rfl (k p e s m args below meth c B H locs ls hl hR hS)
theorem V_i2d {x : Int32} (d : decode φ.1.2.1 pc = .ok (.i2d, 1))  (k : V κ φ cells slots (pc + 1) L (.double (FP.i2d x) :: st) μ) : V κ φ cells slots pc L (.int x :: st) μ :=
  fun p e s m args below meth c B H locs ls hl hR hS => lv_i2d B.1 B.2.1 d  (k p e s m args below meth c B H locs ls hl hR hS)
theorem V_ddiv {x y : UInt64} (d : decode φ.1.2.1 pc = .ok (.ddiv, 1)) (h : vf_n64 (FP.ddiv x y)) (k : V κ φ cells slots (pc + 1) L (.double (FP.ddiv x y) :: st) μ) : V κ φ cells slots pc L (.double y :: .double x :: st) μ :=
  fun p e s m args below meth c B H locs ls hl hR hS => lv_ddiv B.1 B.2.1 d h (k p e s m args below meth c B H locs ls hl hR hS)
theorem V_dcmp {x y : UInt64} {op : CmpOp} (d : decode φ.1.2.1 pc = .ok (.dcmp op, 1))  (k : V κ φ cells slots (pc + 1) L (.int (Op.cmpValue (FP.dcmp x y) op) :: st) μ) : V κ φ cells slots pc L (.double y :: .double x :: st) μ :=
  fun p e s m args below meth c B H locs ls hl hR hS => lv_dcmp B.1 B.2.1 d  (k p e s m args below meth c B H locs ls hl hR hS)
theorem V_ladd {x y : Int64} (d : decode φ.1.2.1 pc = .ok (.ladd, 1))  (k : V κ φ cells slots (pc + 1) L (.long (x + y) :: st) μ) : V κ φ cells slots pc L (.long y :: .long x :: st) μ :=
  fun p e s m args below meth c B H locs ls hl hR hS => lv_ladd B.1 B.2.1 d  (k p e s m args below meth c B H locs ls hl hR hS)
theorem V_lcmp {x y : Int64} (d : decode φ.1.2.1 pc = .ok (.lcmp, 1))  (k : V κ φ cells slots (pc + 1) L (.int (lg_cmp x y) :: st) μ) : V κ φ cells slots pc L (.long y :: .long x :: st) μ :=
  fun p e s m args below meth c B H locs ls hl hR hS => W.lcmp B.1 B.2.1 d  (k p e s m args below meth c B H locs ls hl hR hS)
theorem V_dup {v : Value} (d : decode φ.1.2.1 pc = .ok (.dup, 1)) (h : v.category = 1) (k : V κ φ cells slots (pc + 1) L (v :: v :: st) μ) : V κ φ cells slots pc L (v :: st) μ :=
  fun p e s m args below meth c B H locs ls hl hR hS => lv_dup B.1 B.2.1 d h (k p e s m args below meth c B H locs ls hl hR hS)
theorem V_pop {v : Value} (d : decode φ.1.2.1 pc = .ok (.pop, 1)) (h : v.category = 1) (k : V κ φ cells slots (pc + 1) L st μ) : V κ φ cells slots pc L (v :: st) μ :=
  fun p e s m args below meth c B H locs ls hl hR hS => lv_pop B.1 B.2.1 d h (k p e s m args below meth c B H locs ls hl hR hS)
theorem V_dup2 {va vb : Value} (d : decode φ.1.2.1 pc = .ok (.dup2, 1)) (h : va.category = 1) (h2 : vb.category = 1) (k : V κ φ cells slots (pc + 1) L (va :: vb :: va :: vb :: st) μ) : V κ φ cells slots pc L (va :: vb :: st) μ :=
  fun p e s m args below meth c B H locs ls hl hR hS => lv_dup2_11 B.1 B.2.1 d h h2 (k p e s m args below meth c B H locs ls hl hR hS)
theorem V_if_eq {x : Int32} {off : Int} (tgt : Nat) (d : decode φ.1.2.1 pc = .ok (.ifCond .eq off, 3)) (ht : (pc : Int) + off = (tgt : Int)) (kt : x = 0 → V κ φ cells slots tgt L st μ) (kf : ¬ x = 0 → V κ φ cells slots (pc + 3) L st μ) : V κ φ cells slots pc L (.int x :: st) μ :=
  fun p e s m args below meth c B H locs ls hl hR hS => lv_if_eq B.1 B.2.1 d ht (fun z => kt z p e s m args below meth c B H locs ls hl hR hS) (fun z => kf z p e s m args below meth c B H locs ls hl hR hS)
theorem V_icmp_eq {x y : Int32} {off : Int} (tgt : Nat) (d : decode φ.1.2.1 pc = .ok (.if_icmp .eq off, 3)) (ht : (pc : Int) + off = (tgt : Int)) (kt : x = y → V κ φ cells slots tgt L st μ) (kf : ¬ x = y → V κ φ cells slots (pc + 3) L st μ) : V κ φ cells slots pc L (.int y :: .int x :: st) μ :=
  fun p e s m args below meth c B H locs ls hl hR hS => lv_icmp_eq B.1 B.2.1 d ht (fun z => kt z p e s m args below meth c B H locs ls hl hR hS) (fun z => kf z p e s m args below meth c B H locs ls hl hR hS)
theorem V_if_ne {x : Int32} {off : Int} (tgt : Nat) (d : decode φ.1.2.1 pc = .ok (.ifCond .ne off, 3)) (ht : (pc : Int) + off = (tgt : Int)) (kt : ¬ x = 0 → V κ φ cells slots tgt L st μ) (kf : x = 0 → V κ φ cells slots (pc + 3) L st μ) : V κ φ cells slots pc L (.int x :: st) μ :=
  fun p e s m args below meth c B H locs ls hl hR hS => lv_if_ne B.1 B.2.1 d ht (fun z => kt z p e s m args below meth c B H locs ls hl hR hS) (fun z => kf z p e s m args below meth c B H locs ls hl hR hS)
theorem V_icmp_ne {x y : Int32} {off : Int} (tgt : Nat) (d : decode φ.1.2.1 pc = .ok (.if_icmp .ne off, 3)) (ht : (pc : Int) + off = (tgt : Int)) (kt : ¬ x = y → V κ φ cells slots tgt L st μ) (kf : x = y → V κ φ cells slots (pc + 3) L st μ) : V κ φ cells slots pc L (.int y :: .int x :: st) μ :=
  fun p e s m args below meth c B H locs ls hl hR hS => lv_icmp_ne B.1 B.2.1 d ht (fun z => kt z p e s m args below meth c B H locs ls hl hR hS) (fun z => kf z p e s m args below meth c B H locs ls hl hR hS)
theorem V_if_lt {x : Int32} {off : Int} (tgt : Nat) (d : decode φ.1.2.1 pc = .ok (.ifCond .lt off, 3)) (ht : (pc : Int) + off = (tgt : Int)) (kt : x < 0 → V κ φ cells slots tgt L st μ) (kf : ¬ x < 0 → V κ φ cells slots (pc + 3) L st μ) : V κ φ cells slots pc L (.int x :: st) μ :=
  fun p e s m args below meth c B H locs ls hl hR hS => lv_if_lt B.1 B.2.1 d ht (fun z => kt z p e s m args below meth c B H locs ls hl hR hS) (fun z => kf z p e s m args below meth c B H locs ls hl hR hS)
theorem V_icmp_lt {x y : Int32} {off : Int} (tgt : Nat) (d : decode φ.1.2.1 pc = .ok (.if_icmp .lt off, 3)) (ht : (pc : Int) + off = (tgt : Int)) (kt : x < y → V κ φ cells slots tgt L st μ) (kf : ¬ x < y → V κ φ cells slots (pc + 3) L st μ) : V κ φ cells slots pc L (.int y :: .int x :: st) μ :=
  fun p e s m args below meth c B H locs ls hl hR hS => lv_icmp_lt B.1 B.2.1 d ht (fun z => kt z p e s m args below meth c B H locs ls hl hR hS) (fun z => kf z p e s m args below meth c B H locs ls hl hR hS)
theorem V_if_ge {x : Int32} {off : Int} (tgt : Nat) (d : decode φ.1.2.1 pc = .ok (.ifCond .ge off, 3)) (ht : (pc : Int) + off = (tgt : Int)) (kt : 0 ≤ x → V κ φ cells slots tgt L st μ) (kf : ¬ 0 ≤ x → V κ φ cells slots (pc + 3) L st μ) : V κ φ cells slots pc L (.int x :: st) μ :=
  fun p e s m args below meth c B H locs ls hl hR hS => lv_if_ge B.1 B.2.1 d ht (fun z => kt z p e s m args below meth c B H locs ls hl hR hS) (fun z => kf z p e s m args below meth c B H locs ls hl hR hS)
theorem V_icmp_ge {x y : Int32} {off : Int} (tgt : Nat) (d : decode φ.1.2.1 pc = .ok (.if_icmp .ge off, 3)) (ht : (pc : Int) + off = (tgt : Int)) (kt : y ≤ x → V κ φ cells slots tgt L st μ) (kf : ¬ y ≤ x → V κ φ cells slots (pc + 3) L st μ) : V κ φ cells slots pc L (.int y :: .int x :: st) μ :=
  fun p e s m args below meth c B H locs ls hl hR hS => lv_icmp_ge B.1 B.2.1 d ht (fun z => kt z p e s m args below meth c B H locs ls hl hR hS) (fun z => kf z p e s m args below meth c B H locs ls hl hR hS)
theorem V_if_gt {x : Int32} {off : Int} (tgt : Nat) (d : decode φ.1.2.1 pc = .ok (.ifCond .gt off, 3)) (ht : (pc : Int) + off = (tgt : Int)) (kt : 0 < x → V κ φ cells slots tgt L st μ) (kf : ¬ 0 < x → V κ φ cells slots (pc + 3) L st μ) : V κ φ cells slots pc L (.int x :: st) μ :=
  fun p e s m args below meth c B H locs ls hl hR hS => lv_if_gt B.1 B.2.1 d ht (fun z => kt z p e s m args below meth c B H locs ls hl hR hS) (fun z => kf z p e s m args below meth c B H locs ls hl hR hS)
theorem V_icmp_gt {x y : Int32} {off : Int} (tgt : Nat) (d : decode φ.1.2.1 pc = .ok (.if_icmp .gt off, 3)) (ht : (pc : Int) + off = (tgt : Int)) (kt : y < x → V κ φ cells slots tgt L st μ) (kf : ¬ y < x → V κ φ cells slots (pc + 3) L st μ) : V κ φ cells slots pc L (.int y :: .int x :: st) μ :=
  fun p e s m args below meth c B H locs ls hl hR hS => lv_icmp_gt B.1 B.2.1 d ht (fun z => kt z p e s m args below meth c B H locs ls hl hR hS) (fun z => kf z p e s m args below meth c B H locs ls hl hR hS)
theorem V_if_le {x : Int32} {off : Int} (tgt : Nat) (d : decode φ.1.2.1 pc = .ok (.ifCond .le off, 3)) (ht : (pc : Int) + off = (tgt : Int)) (kt : x ≤ 0 → V κ φ cells slots tgt L st μ) (kf : ¬ x ≤ 0 → V κ φ cells slots (pc + 3) L st μ) : V κ φ cells slots pc L (.int x :: st) μ :=
  fun p e s m args below meth c B H locs ls hl hR hS => lv_if_le B.1 B.2.1 d ht (fun z => kt z p e s m args below meth c B H locs ls hl hR hS) (fun z => kf z p e s m args below meth c B H locs ls hl hR hS)
theorem V_icmp_le {x y : Int32} {off : Int} (tgt : Nat) (d : decode φ.1.2.1 pc = .ok (.if_icmp .le off, 3)) (ht : (pc : Int) + off = (tgt : Int)) (kt : x ≤ y → V κ φ cells slots tgt L st μ) (kf : ¬ x ≤ y → V κ φ cells slots (pc + 3) L st μ) : V κ φ cells slots pc L (.int y :: .int x :: st) μ :=
  fun p e s m args below meth c B H locs ls hl hR hS => lv_icmp_le B.1 B.2.1 d ht (fun z => kt z p e s m args below meth c B H locs ls hl hR hS) (fun z => kf z p e s m args below meth c B H locs ls hl hR hS)
theorem V_goto {off : Int} (tgt : Nat) (d : decode φ.1.2.1 pc = .ok (.goto off, 3)) (ht : (pc : Int) + off = (tgt : Int)) (k : V κ φ cells slots tgt L st μ) : V κ φ cells slots pc L st μ :=
  fun p e s m args below meth c B H locs ls hl hR hS => lv_goto B.1 B.2.1 d ht (k p e s m args below meth c B H locs ls hl hR hS)
theorem V_tableIn {dflt lo hi : Int} {offs : Array Int} {len : Nat} {x : Int32} {off : Int} (tgt : Nat) (d : decode φ.1.2.1 pc = .ok (.tableswitch dflt lo hi offs, len)) (h1 : ¬ x.toInt < lo) (h2 : ¬ hi < x.toInt) (ho : offs[(x.toInt - lo).toNat]? = some off) (ht : (pc : Int) + off = (tgt : Int)) (k : V κ φ cells slots tgt L st μ) : V κ φ cells slots pc L (.int x :: st) μ :=
  fun p e s m args below meth c B H locs ls hl hR hS => lv_tableIn B.1 B.2.1 d h1 h2 ho ht (k p e s m args below meth c B H locs ls hl hR hS)
theorem V_tableOut {dflt lo hi : Int} {offs : Array Int} {len : Nat} {x : Int32} (tgt : Nat) (d : decode φ.1.2.1 pc = .ok (.tableswitch dflt lo hi offs, len)) (h : x.toInt < lo ∨ hi < x.toInt) (ht : (pc : Int) + dflt = (tgt : Int)) (k : V κ φ cells slots tgt L st μ) : V κ φ cells slots pc L (.int x :: st) μ :=
  fun p e s m args below meth c B H locs ls hl hR hS => lv_tableOut B.1 B.2.1 d h ht (k p e s m args below meth c B H locs ls hl hR hS)
theorem V_ldcwI {index : Nat} {v : Int32} (d : decode φ.1.2.1 pc = .ok (.ldc_w index, 3)) (hc : Cond.constant φ.1.1.cls index v ∈ TW) (k : V κ φ cells slots (pc + 3) L (.int v :: st) μ) : V κ φ cells slots pc L st μ := by
  intro p e s m args below meth c B H locs ls hl hR hS T hT X
  obtain ⟨t, a1, b1⟩ := k p e s m args below meth c B H locs ls hl hR hS T hT X
  exact ⟨t, va_ldcwI X B.1 B.2.2.2.1 (B.2.2.2.2.1 _ hc) (g := F0 m pc ls st) rfl (by rw [B.2.1]; exact d) t a1, b1⟩
theorem V.cL {L' : List (Option Value)} (k : V κ φ cells slots pc L' st μ) (h : L = L') : V κ φ cells slots pc L st μ := h ▸ k
theorem V.cM {μ' : Mem} (k : V κ φ cells slots pc L st μ') (h : μ = μ') : V κ φ cells slots pc L st μ := h ▸ k
theorem V.cLM {L' : List (Option Value)} {μ' : Mem} (k : V κ φ cells slots pc L' st μ') (h : L = L') (h2 : μ = μ') : V κ φ cells slots pc L st μ := h ▸ h2 ▸ k
theorem V.cS {st' : List Value} (k : V κ φ cells slots pc L st' μ) (h : st = st') : V κ φ cells slots pc L st μ := h ▸ k
theorem V.cLSM {L' : List (Option Value)} {st' : List Value} {μ' : Mem} (k : V κ φ cells slots pc L' st' μ') (h : L = L') (h1 : st = st') (h2 : μ = μ') : V κ φ cells slots pc L st μ := h ▸ h1 ▸ h2 ▸ k
theorem V.widen {k n : Nat} (h1 : cells ≤ k) (h2 : slots ≤ n) (kk : V κ φ k n pc L st μ) : V κ φ cells slots pc L st μ :=
  fun p e s m args below meth c B H locs ls hl hR hS => W.widen h1 h2 (kk p e s m args below meth c B H locs ls hl hR hS)
/-- fewer locals are known -/
theorem V.less {L' : List (Option Value)} (k : V κ φ cells slots pc L' st μ) (h : ∀ (i : Nat) (v : Value), L'[i]? = some (some v) → L[i]? = some (some v)) : V κ φ cells slots pc L st μ :=
  fun p e s m args below meth c B H locs ls hl hR hS => k p e s m args below meth c B H locs ls ⟨hl.1, hl.2.1, fun i v z => hl.2.2 i v (h i v z)⟩ hR hS
end Rows1
end
section
/-! the rows that read and write cells -/
def u2 {α : Type} (f : Nat → Nat → α) (a i : Nat) (x : α) : Nat → Nat → α := fun b j => if b = a ∧ j = i then x else f b j
def z2 {α : Type} (f : Nat → Nat → α) (a : Nat) (x : α) : Nat → Nat → α := fun b j => if b = a then x else f b j
theorem u2_row {α : Type} (f : Nat → Nat → α) (a i : Nat) (x : α) : u2 f a i x a = (fun j => if j = i then x else f a j) := by
  funext j; simp [u2]
theorem u2_off {α : Type} (f : Nat → Nat → α) {a b : Nat} (i : Nat) (x : α) (h : b ≠ a) : u2 f a i x b = f b := by
  funext j; simp [u2, h]
theorem Rep.at {κ : K0} {μ : Mem} {H : Heap} {a : Nat} {kd : Kd} (h : Rep κ μ H) (hσ : μ.1 a = some kd) : ∃ (L : List Nat) (q : Nat), a ∈ L ∧ (∀ a, a ∈ L ↔ (μ.1 a).isSome = true) ∧ va_P κ.2.1 cls7 (va_pl L (cellM κ μ)) H ∧ va_D (kA κ) (va_pl L (cellM κ μ)) ∧ (va_pl L (cellM κ μ))[q]? = some (a, cellK κ.2.2.1 kd (μ.2.1 a) (μ.2.2.1 a)) ∧ cellM κ μ a = cellK κ.2.2.1 kd (μ.2.1 a) (μ.2.2.1 a) ∧ ∀ n, μ.2.2.2 = some n → H.size = n := by
  obtain ⟨L, h1, h2, h3, h4⟩ := h
  have ha : a ∈ L := (h1 a).mpr (by rw [hσ]; rfl)
  obtain ⟨q, hq⟩ := va_pl_get (X := []) (f := cellM κ μ) ha
  have e : cellM κ μ a = cellK κ.2.2.1 kd (μ.2.1 a) (μ.2.2.1 a) := by unfold cellM; rw [hσ]
  exact ⟨L, q, ha, h1, h2, h3, by rw [← e]; exact hq, e, h4⟩
/-- a cell of the world is changed -/
theorem Rep.put {κ : K0} {μ μ' : Mem} {H1 : Heap} {L : List Nat} {a q : Nat} {e0 e1 : va_E} (ha : a ∈ L) (hD : va_D (kA κ) (va_pl L (cellM κ μ))) (hq : (va_pl L (cellM κ μ))[q]? = some (a, e0)) (hc : cellM κ μ a = e0)
    (hL : ∀ a, a ∈ L ↔ (μ'.1 a).isSome = true) (hn : cellM κ μ' a = e1) (ho : ∀ b, b ≠ a → cellM κ μ' b = cellM κ μ b) (hz : ∀ n, μ'.2.2.2 = some n → H1.size = n)
    (hP1 : va_P κ.2.1 cls7 ((va_pl L (cellM κ μ)).set q (a, e1)) H1) (hD1 : va_D (kA κ) ((va_pl L (cellM κ μ)).set q (a, e1))) : Rep κ μ' H1 := by
  have e2 : (va_pl L (cellM κ μ)).set q (a, e1) = va_pl L (cellM κ μ') := by
    have h1 := va_pl_set (X := []) (e := e1) hD ha (by rw [List.nil_append, hc]; exact hq)
    rw [List.nil_append, List.nil_append] at h1
    rw [h1]
    refine va_pl_congr (fun b => ?_)
    by_cases hb : b = a
    · rw [hb, va_up_self, hn]
    · rw [va_up_ne _ _ hb, ho b hb]
  rw [e2] at hP1 hD1
  exact ⟨L, hL, hP1, hD1, hz⟩
theorem Rep.less {κ : K0} {μ : Mem} {H : Heap} (h : Rep κ μ H) : Rep κ (μ.1, μ.2.1, μ.2.2.1, none) H := by
  obtain ⟨L, h1, h2, h3, h4⟩ := h
  exact ⟨L, h1, h2, h3, fun n hn => by cases hn⟩
/-- the heap has grown -/
theorem Rep.grow {κ : K0} {μ : Mem} {H H1 : Heap} (h : Rep κ μ H) (hz : μ.2.2.2 = none) (ho : ∀ q : Nat, q < H.size → H1[q]? = H[q]?) : Rep κ μ H1 := by
  obtain ⟨L, h1, h2, h3, h4⟩ := h
  exact ⟨L, h1, h2.kept (fun k q hk => ho q.1 (h2 k q hk).lt), h3, fun n hn => by rw [hz] at hn; cases hn⟩
theorem Rep.lt {κ : K0} {μ : Mem} {H : Heap} {a : Nat} {kd : Kd} (h : Rep κ μ H) (hσ : μ.1 a = some kd) : a < H.size := by
  obtain ⟨L, q, ha, h1, h2, h3, hq, -⟩ := h.at hσ
  exact (h2 q _ hq).lt
/-- a world that knows less of it -/
theorem Rep.sub {κ : K0} {μ μ' : Mem} {H : Heap} (h : Rep κ μ H) (hs : ∀ a kd, μ'.1 a = some kd → μ.1 a = some kd ∧ μ'.2.1 a = μ.2.1 a ∧ μ'.2.2.1 a = μ.2.2.1 a) (hz : μ'.2.2.2 = none) : Rep κ μ' H := by
  obtain ⟨L, h1, h2, h3, h4⟩ := h
  have key : ∀ a, a ∈ L.filter (fun a => (μ'.1 a).isSome) ↔ (μ'.1 a).isSome = true := by
    intro a
    rw [List.mem_filter]
    constructor
    · exact fun z => z.2
    · intro z
      obtain ⟨kd, hk⟩ := Option.isSome_iff_exists.mp z
      exact ⟨(h1 a).mpr (by rw [(hs a kd hk).1]; rfl), z⟩
  have hc : ∀ a, (μ'.1 a).isSome = true → cellM κ μ' a = cellM κ μ a := by
    intro a z
    obtain ⟨kd, hk⟩ := Option.isSome_iff_exists.mp z
    obtain ⟨e1, e2, e3⟩ := hs a kd hk
    unfold cellM
    rw [hk, e1, e2, e3]
  have e : va_pl (L.filter (fun a => (μ'.1 a).isSome)) (cellM κ μ') = (va_pl L (cellM κ μ)).filter (fun q => (μ'.1 q.1).isSome) := by
    unfold va_pl
    rw [List.filter_map]
    refine List.map_congr_left (fun a ha => ?_)
    rw [hc a (List.mem_filter.mp ha).2]
  have hsub : ∀ (q : Nat × va_E), q ∈ (va_pl L (cellM κ μ)).filter (fun q => (μ'.1 q.1).isSome) → q ∈ va_pl L (cellM κ μ) := fun q hq => (List.mem_filter.mp hq).1
  have hnd : ((va_pl L (cellM κ μ)).map (·.1)).Pairwise (· ≠ ·) := by
    rw [List.pairwise_iff_getElem]
    intro i j hi hj hij he
    rw [List.length_map] at hi hj
    rw [List.getElem_map, List.getElem_map] at he
    have := h3.1 i j _ _ (List.getElem?_eq_getElem hi) (List.getElem?_eq_getElem hj) he
    omega
  refine ⟨_, key, ?_, ?_, fun n hn => by rw [hz] at hn; cases hn⟩
  · rw [e]
    intro k q hk
    obtain ⟨i, hi⟩ := List.getElem?_of_mem (hsub q (List.mem_of_getElem? hk))
    exact h2 i q hi
  · rw [e]
    refine ⟨fun i j x y hi hj hxy => ?_, fun k q hk => ?_⟩
    · have hnd2 : (((va_pl L (cellM κ μ)).filter (fun q => (μ'.1 q.1).isSome)).map (·.1)).Pairwise (· ≠ ·) := hnd.sublist (List.filter_sublist.map _)
      rw [List.pairwise_iff_getElem] at hnd2
      obtain ⟨hi', ei⟩ := List.getElem?_eq_some_iff.mp hi
      obtain ⟨hj', ej⟩ := List.getElem?_eq_some_iff.mp hj
      rcases Nat.lt_trichotomy i j with z | z | z
      · exact absurd (by rw [List.getElem_map, List.getElem_map, ei, ej]; exact hxy) (hnd2 i j (by rw [List.length_map]; exact hi') (by rw [List.length_map]; exact hj') z)
      · exact z
      · exact absurd (by rw [List.getElem_map, List.getElem_map, ei, ej]; exact hxy.symm) (hnd2 j i (by rw [List.length_map]; exact hj') (by rw [List.length_map]; exact hi') z)
    · obtain ⟨i, hi⟩ := List.getElem?_of_mem (hsub q (List.mem_of_getElem? hk))
      exact h3.2 i q hi
/-! fields -/
def FRow (own : String) (idx ci N k : Nat) : Prop := ∃ (C : String) (T : u_T), cls7[ci]? = some (C, T, N) ∧ k < N ∧ Cond.fieldLink own idx C (T k).2.1 (T k).2.2.1 ∈ TW ∧ (T k).1 = C
def FRowP (own : String) (idx ci N k : Nat) (ty : FieldType) (fin : Bool) : Prop := ∃ (C : String) (T : u_T), cls7[ci]? = some (C, T, N) ∧ k < N ∧ Cond.fieldLink own idx C (T k).2.1 (T k).2.2.1 ∈ TW ∧ (T k).1 = C ∧ (T k).2.2.2 = fin ∧ parseFieldDescriptor (T k).2.2.1 = some ty
def ClsIn (q : vw_C) : Prop := (∀ w ∈ u_ws q.1 q.2.1 q.2.2, w ∈ TW) ∧ ∃ ty : Nat → FieldType, (∀ k, k < q.2.2 → parseFieldDescriptor (q.2.1 k).2.2.1 = some (ty k)) ∧ ∀ a, a < q.2.2 → ∀ b, b < q.2.2 → a ≠ b → (q.2.1 a).2.1 ≠ (q.2.1 b).2.1
theorem TW_in {ws : List Cond} (h : ws.all (fun w => goodWord w) = true) (h2 : ∀ w ∈ ws, w ∈ lw_tbl) : ∀ w ∈ ws, w ∈ TW := fun w hw => List.mem_filter.mpr ⟨h2 w hw, List.all_eq_true.mp h w hw⟩
set_option maxRecDepth 20000 in
theorem clsIn0 : ClsIn (RX0, TX0, 13) := ⟨TW_in (by decide +kernel) (by decide +kernel), tyX0, tyX0_ok, nmX0⟩
set_option maxRecDepth 20000 in
theorem clsIn1 : ClsIn (RX1, TX1, 5) := ⟨TW_in (by decide +kernel) (by decide +kernel), tyX1, tyX1_ok, nmX1⟩
set_option maxRecDepth 20000 in
theorem clsIn2 : ClsIn (RX2, TX2, 3) := ⟨TW_in (by decide +kernel) (by decide +kernel), tyX2, tyX2_ok, nmX2⟩
set_option maxRecDepth 20000 in
theorem clsIn3 : ClsIn (RX3, TX3, 7) := ⟨TW_in (by decide +kernel) (by decide +kernel), tyX3, tyX3_ok, nmX3⟩
set_option maxRecDepth 20000 in
theorem clsIn4 : ClsIn (RX4, TX4, 4) := ⟨TW_in (by decide +kernel) (by decide +kernel), tyX4, tyX4_ok, nmX4⟩
set_option maxRecDepth 20000 in
theorem clsIn5 : ClsIn (RX5, TX5, 10) := ⟨TW_in (by decide +kernel) (by decide +kernel), tyX5, tyX5_ok, nmX5⟩
set_option maxRecDepth 20000 in
theorem clsIn6 : ClsIn (RX6, TX6, 36) := ⟨TW_in (by decide +kernel) (by decide +kernel), tyX6, tyX6_ok, nmX6⟩
theorem clsIn {ci : Nat} {q : vw_C} (h : cls7[ci]? = some q) : ClsIn q := by
  match ci, h with
  | 0, h => cases h; exact clsIn0
  | 1, h => cases h; exact clsIn1
  | 2, h => cases h; exact clsIn2
  | 3, h => cases h; exact clsIn3
  | 4, h => cases h; exact clsIn4
  | 5, h => cases h; exact clsIn5
  | 6, h => cases h; exact clsIn6
  | k + 7, h => simp [cls7] at h
theorem sl_get {N k : Nat} (hk : k < N) (sl : Nat → Option Value) (fi : Nat → Int32) : ((List.range N).map (slV sl fi))[k]? = some (slV sl fi k) := by
  rw [List.getElem?_map, List.getElem?_range hk]; rfl
section Rows2
variable {κ : K0} {φ : Fr} {cells slots pc : Nat} {L : List (Option Value)} {st : List Value} {μ : Mem}
theorem V_get {a idx ci N k : Nat} {sl : Nat → Option Value} {v : Value} (fr : FRow φ.1.1.cls idx ci N k) (hσ : μ.1 a = some (.inr (ci, N, sl))) (hv : slV sl (μ.2.1 a) k = v) (d : decode φ.1.2.1 pc = .ok (.getfield idx, 3)) (kk : V κ φ cells slots (pc + 3) L (v :: st) μ) : V κ φ cells slots pc L (.ref a :: st) μ := by
  intro p e s m args below meth c B H locs ls hl hR hS
  obtain ⟨C, T, hc, hk, hw, hT⟩ := fr
  obtain ⟨Ld, q, ha, h1, h2, h3, hq, -⟩ := hR.at hσ
  refine va_get B.1 B.2.1 (C := C) (T := T) (N := N) (ref := C) B.2.2.2.2.1 (clsIn hc).1 B.2.2.2.1 B.2.2.2.2.2.2.2.1.2.1 h2 q hq hc k hk (B.2.2.2.2.1 _ hw) (fun x hx => by rw [hT] at hx; exact hx) (v := v) ?_ d (kk p e s m args below meth c B H locs ls hl hR hS)
  rw [← hv]; exact sl_get hk sl (μ.2.1 a)
theorem V_getI {a idx ci N k : Nat} {sl : Nat → Option Value} (fr : FRow φ.1.1.cls idx ci N k) (hσ : μ.1 a = some (.inr (ci, N, sl))) (hv : sl k = none) (d : decode φ.1.2.1 pc = .ok (.getfield idx, 3)) (kk : V κ φ cells slots (pc + 3) L (.int (μ.2.1 a k) :: st) μ) : V κ φ cells slots pc L (.ref a :: st) μ :=
  V_get fr hσ (by unfold slV; rw [hv]; rfl) d kk
theorem V_getR {a idx ci N k : Nat} {sl : Nat → Option Value} {v : Value} (fr : FRow φ.1.1.cls idx ci N k) (hσ : μ.1 a = some (.inr (ci, N, sl))) (hv : sl k = some v) (d : decode φ.1.2.1 pc = .ok (.getfield idx, 3)) (kk : V κ φ cells slots (pc + 3) L (v :: st) μ) : V κ φ cells slots pc L (.ref a :: st) μ :=
  V_get fr hσ (by unfold slV; rw [hv]; rfl) d kk
theorem sl_set {N k : Nat} {sl sl' : Nat → Option Value} {fi fi' : Nat → Int32} {v : Value} (h1 : slV sl' fi' k = v) (h2 : ∀ j, j ≠ k → slV sl' fi' j = slV sl fi j) : ((List.range N).map (slV sl fi)).set k v = (List.range N).map (slV sl' fi') := by
  apply List.ext_getElem?
  intro j
  by_cases hj : j = k
  · subst hj
    by_cases hN : j < N
    · rw [List.getElem?_set_self (by simpa using hN), sl_get hN, h1]
    · rw [List.getElem?_eq_none (by simp; omega), List.getElem?_eq_none (by simp; omega)]
  · rw [List.getElem?_set_ne (Ne.symm hj)]
    by_cases hN : j < N
    · rw [sl_get hN, sl_get hN, h2 j hj]
    · rw [List.getElem?_eq_none (by simp; omega), List.getElem?_eq_none (by simp; omega)]
theorem cellM_off {μ μ' : Mem} {b : Nat} (h1 : μ'.1 b = μ.1 b) (h2 : μ'.2.1 b = μ.2.1 b) (h3 : μ'.2.2.1 b = μ.2.2.1 b) : cellM κ μ' b = cellM κ μ b := by
  unfold cellM; rw [h1, h2, h3]
theorem Rep.set {μ μ' : Mem} {H H1 : Heap} {a : Nat} {kd : Kd} (h : Rep κ μ H) (hσ : μ.1 a = some kd) (hs : ∀ b, (μ'.1 b).isSome = (μ.1 b).isSome) (hn : va_at κ.2.1 cls7 (a, cellM κ μ' a) H1) (ho : ∀ b, b ≠ a → cellM κ μ' b = cellM κ μ b) (z : H1.size = H.size) (oq : ∀ q : Nat, q ≠ a → H1[q]? = H[q]?) (hz : μ'.2.2.2 = μ.2.2.2) : Rep κ μ' H1 ∧ kA κ a := by
  obtain ⟨Ld, h1, h2, h3, h4⟩ := h
  have haL : a ∈ Ld := (h1 a).mpr (by rw [hσ]; rfl)
  refine ⟨⟨Ld, fun b => by rw [hs b]; exact h1 b, ?_, ?_, fun n hn => by rw [z]; exact h4 n (by rw [← hz]; exact hn)⟩, ?_⟩
  · intro k q hk
    simp only [va_pl, List.getElem?_map] at hk
    cases hb : Ld[k]? with
    | none => rw [hb] at hk; cases hk
    | some b =>
      rw [hb] at hk
      cases hk
      by_cases hba : b = a
      · subst hba; exact hn
      · show va_at _ _ (b, cellM κ μ' b) H1
        rw [ho b hba]
        exact (h2 k (b, cellM κ μ b) (by simp only [va_pl, List.getElem?_map, hb]; rfl)).kept (oq b hba)
  · have key : ∀ (k : Nat) (q : Nat × va_E), (va_pl Ld (cellM κ μ'))[k]? = some q → (va_pl Ld (cellM κ μ))[k]? = some (q.1, cellM κ μ q.1) := by
      intro k q hk
      simp only [va_pl, List.getElem?_map] at hk ⊢
      cases hb : Ld[k]? with
      | none => rw [hb] at hk; cases hk
      | some b => rw [hb] at hk; cases hk; rfl
    exact ⟨fun i j x y hi hj hxy => h3.1 i j _ _ (key i x hi) (key j y hj) hxy, fun k q hk => h3.2 k (q.1, cellM κ μ q.1) (key k q hk)⟩
  · obtain ⟨q, hq⟩ := va_pl_get (X := []) (f := cellM κ μ) haL
    exact h3.2 q _ hq
/-- what a putfield does, with the heap's size -/
theorem va_putZ {p : Program} {l : Launch} {e : Env} {R : Room} {s : State} {m : MethodId} {args : Array Value} {below : List Frame} {meth : Method} {c : Code} {H : Heap} {locs : List Loc} {cells slots : Nat} {Q : State → Prop} {cc : ByteArray} {pc : Nat} {ls : Array Slot} {rest : List Value} {D : va_G} {cl : List vw_C} {a : Nat} {tys : List (ClassId × FieldType)} (hexec : p.tables.exec = Jvm.exec) (hb : c.code = cc) {own ref C : String} {T : u_T} {N ci index : Nat} {Ts : List Cond} (hts : ∀ w ∈ Ts, w.before args s = true) (hin : ∀ w ∈ u_ws C T N, w ∈ Ts) (ty0 : Nat → FieldType) (hty : ∀ k, k < N → parseFieldDescriptor (T k).2.2.1 = some (ty0 k)) (hnm : ∀ a, a < N → ∀ b, b < N → a ≠ b → (T a).2.1 ≠ (T b).2.1) (hown : s.vm.findClass own = some m.cls) (hK : va_K D cl tys s) {fs : List Value} (hat : va_at D cl (a, .inr (ci, fs)) H) (hc : cl[ci]? = some (C, T, N)) (k : Nat) (hk : k < N) (hlink : (Cond.fieldLink own index ref (T k).2.1 (T k).2.2.1).before args s = true) (hsame : ∀ x, s.fieldFound? (T k).1 (T k).2.1 (T k).2.2.1 = some x → s.fieldFound? ref (T k).2.1 (T k).2.2.1 = some x) (hfin : (T k).2.2.2 = false ∨ ((T k).2.2.2 = true ∧ meth.name = "<init>" ∧ (T k).1 = own)) {ty : FieldType} {v : Value} (hd : parseFieldDescriptor (T k).2.2.1 = some ty) (hn : narrow ty v = v) (hfit : fits ty v = true) (hl : k < fs.length)
    (hdg : decode cc pc = .ok (.putfield index, 3)) (kk : ∀ (H1 : Heap) (i : Nat), va_at D cl (a, .inr (ci, fs.set k v)) H1 → H1.size = H.size → (∀ q : Nat, q ≠ a → H1[q]? = H[q]?) → W p l e R s m args below meth c H1 (locs ++ [⟨a, i⟩]) cells slots Q (F0 m (pc + 3) ls rest)) : W p l e R s m args below meth c H locs cells slots Q (F0 m pc ls (v :: .ref a :: rest)) := by
  have hap := va_apart (own := own) hts hin ty0 hty hnm hK hc
  obtain ⟨r, h1, cell, q1, q2, q3, q4⟩ := hat
  have hr : r = (C, T, N) := Option.some.inj (h1.symm.trans hc)
  subst hr
  obtain ⟨hS, hfc, kC, hkC, hkind⟩ := hK.1 ci _ hc
  obtain ⟨cf, kf, fi, f, hi, hsl⟩ := hS k hk
  have hlay := hts _ (hin _ (u_in_lay hk))
  unfold u_lay at hlay
  have hst := (u_facts hfc hkC (u_lays hts hin hk) hi).1
  rcases hfin with hfin | ⟨hfin, hin2, hdecl⟩
  · rw [if_neg (by rw [hfin]; decide)] at hlay
    have h6 := u_store hfc hkC hkind hlay hi hd hn hfit
    refine W.putK hexec hb (f := f) ⟨hown, hlink, ⟨_, _, _, hsame _ hi⟩, hst⟩ (by rw [q2]; exact h6) q1 q3 (by rw [hsl]; exact k2_hasslot (q4 k hk)) rfl rfl hdg fun H' e1 e2 e3 => ?_
    rw [hsl] at e1 ⊢
    exact kk H' _ ⟨_, hc, t_OB.to (V := updV (vp_V fs) k v) ⟨_, e1, q2, q3, t_set q4 hap hk v⟩ (fun j _ => vp_updV_set hl v j)⟩ e2 e3
  · rw [if_pos hfin] at hlay
    have hcf : m.cls = cf := by
      obtain ⟨_, _, c', _, _, _, -, -, hf', -, -, -, hown2, -⟩ := Cond.laysFinal_spec hlay
      have e1 : c' = cf := by have := hi.symm.trans hf'; simp at this; exact this.1.symm
      rw [hdecl] at hown2
      rw [← e1]; exact Option.some.inj (hown.symm.trans hown2)
    have h6 := u_fits hfc hkC hkind (Or.inr hlay) hi hd hn hfit
    refine W.putFinK hexec hb hown hlink (hsame _ hi) hst hcf hin2 (by rw [q2]; exact h6) q1 q3 (by rw [hsl]; exact k2_hasslot (q4 k hk)) rfl rfl hdg fun H' e1 e2 e3 => ?_
    rw [hsl] at e1 ⊢
    exact kk H' _ ⟨_, hc, t_OB.to (V := updV (vp_V fs) k v) ⟨_, e1, q2, q3, t_set q4 hap hk v⟩ (fun j _ => vp_updV_set hl v j)⟩ e2 e3
theorem V_put {a idx ci N k : Nat} {sl sl' : Nat → Option Value} {fi' : Nat → Int32} {v : Value} {ty : FieldType} {fin : Bool} (fr : FRowP φ.1.1.cls idx ci N k ty fin) (hi : fin = false ∨ φ.1.1.name = "<init>" ∧ ∃ T, cls7[ci]? = some (φ.1.1.cls, T, N)) (hn : narrow ty v = v) (hf : fits ty v = true) (hσ : μ.1 a = some (.inr (ci, N, sl))) (h1 : slV sl' fi' k = v) (h2 : ∀ j, j ≠ k → slV sl' fi' j = slV sl (μ.2.1 a) j) (d : decode φ.1.2.1 pc = .ok (.putfield idx, 3)) (kk : V κ φ cells slots (pc + 3) L st (va_up μ.1 a (some (.inr (ci, N, sl'))), va_up μ.2.1 a fi', μ.2.2)) : V κ φ cells slots pc L (v :: .ref a :: st) μ := by
  intro p e s m args below meth c B H locs ls hl hR hS
  obtain ⟨C, T, hc, hk, hw, hT, hfin, hd⟩ := fr
  obtain ⟨ty0, hty, hnm⟩ := (clsIn hc).2
  obtain ⟨Ld, q, ha, g1, g2, g3, hq, he, hz⟩ := hR.at hσ
  have hat := g2 q _ hq
  refine va_putZ B.1 B.2.1 (C := C) (T := T) (N := N) (ref := C) B.2.2.2.2.1 (clsIn hc).1 ty0 hty hnm B.2.2.2.1 B.2.2.2.2.2.2.2.1.2.1 hat hc k hk (B.2.2.2.2.1 _ hw) (fun z hz => by rw [hT] at hz; exact hz) ?_ hd hn hf (by simpa using hk) d (fun H1 i hP1 z oq => ?_)
  · rcases hi with hi | ⟨hi, T2, hi2⟩
    · exact Or.inl (hfin.trans hi)
    · cases hb : fin with
      | false => exact Or.inl (hfin.trans hb)
      | true =>
        refine Or.inr ⟨hfin.trans hb, B.2.2.2.2.2.2.2.2.2.2.1.trans hi, ?_⟩
        rw [hT]
        have := hc.symm.trans hi2
        simp only [Option.some.injEq, Prod.mk.injEq] at this
        exact this.1
  · have e1 : cellM κ (va_up μ.1 a (some (.inr (ci, N, sl'))), va_up μ.2.1 a fi', μ.2.2) a = .inr (ci, ((List.range N).map (slV sl (μ.2.1 a))).set k v) := by
      unfold cellM
      simp only [va_up_self]
      unfold cellK
      rw [sl_set h1 h2]
    obtain ⟨hR1, haA⟩ := Rep.set (μ' := (va_up μ.1 a (some (.inr (ci, N, sl'))), va_up μ.2.1 a fi', μ.2.2)) hR hσ (fun b => by
        by_cases hb : b = a
        · subst hb; rw [hσ]; simp [va_up_self]
        · simp [va_up_ne _ _ hb]) (by rw [e1]; exact hP1) (fun b hb => cellM_off (va_up_ne _ _ hb) (va_up_ne _ _ hb) rfl) z oq rfl
    exact kk p e s m args below meth c B H1 _ ls hl hR1 (hS.put z oq haA)
theorem V_putI {a idx ci N k : Nat} {sl : Nat → Option Value} {x : Int32} {ty : FieldType} (fr : FRowP φ.1.1.cls idx ci N k ty false) (hn : narrow ty (.int x) = .int x) (hf : fits ty (.int x) = true) (hσ : μ.1 a = some (.inr (ci, N, sl))) (hv : sl k = none) (d : decode φ.1.2.1 pc = .ok (.putfield idx, 3)) (kk : V κ φ cells slots (pc + 3) L st (μ.1, u2 μ.2.1 a k x, μ.2.2)) : V κ φ cells slots pc L (.int x :: .ref a :: st) μ := by
  refine V_put (sl' := sl) (fi' := u2 μ.2.1 a k x a) fr (Or.inl rfl) hn hf hσ (by unfold slV; rw [hv]; simp [u2]) (fun j hj => by unfold slV; simp [u2, hj]) d ?_
  refine V.cM kk ?_
  rw [show va_up μ.1 a (some (.inr (ci, N, sl))) = μ.1 from funext fun b => by
    by_cases hb : b = a
    · subst hb; rw [va_up_self, hσ]
    · rw [va_up_ne _ _ hb], show va_up μ.2.1 a (u2 μ.2.1 a k x a) = u2 μ.2.1 a k x from funext fun b => by
    by_cases hb : b = a
    · subst hb; rw [va_up_self]
    · rw [va_up_ne _ _ hb, u2_off _ _ _ hb]]
end Rows2
end
section
/-! arrays, new cells -/
section Rows3
variable {κ : K0} {φ : Fr} {cells slots pc : Nat} {L : List (Option Value)} {st : List Value} {μ : Mem}
theorem Ev.tI {U : State} {H : Heap} (h : Ev κ U H) : ArrOfT U (κ.2.2.1 .int) .int := (h.2.1.2 0 _ rfl).1
theorem Ev.tC {U : State} {H : Heap} (h : Ev κ U H) : ArrOfT U (κ.2.2.1 .char) .char := (h.2.1.2 1 _ rfl).1
theorem Ev.tL {U : State} {H : Heap} (h : Ev κ U H) : ArrOfT U (κ.2.2.1 .long) .long := (h.2.1.2 2 _ rfl).1
theorem V_iald {a n : Nat} {r : Nat → Option Nat} {i : Int32} (hσ : μ.1 a = some (.inl (.int, n, r))) (hin : vp_in i n) (d : decode φ.1.2.1 pc = .ok (.iaload, 1)) (kk : V κ φ cells slots (pc + 1) L (.int (μ.2.1 a i.toNatClampNeg) :: st) μ) : V κ φ cells slots pc L (.int i :: .ref a :: st) μ := by
  intro p e s m args below meth c B H locs ls hl hR hS
  obtain ⟨Ld, q, ha, g1, g2, g3, hq, -⟩ := hR.at hσ
  exact va_iald B.1 B.2.1 B.2.2.2.2.2.2.2.1.2.1 g2 q 0 hq rfl hin d (kk p e s m args below meth c B H locs ls hl hR hS)
theorem V_cald {a n : Nat} {r : Nat → Option Nat} {i : Int32} (hσ : μ.1 a = some (.inl (.char, n, r))) (hin : vp_in i n) (d : decode φ.1.2.1 pc = .ok (.caload, 1)) (kk : V κ φ cells slots (pc + 1) L (.int (μ.2.1 a i.toNatClampNeg) :: st) μ) : V κ φ cells slots pc L (.int i :: .ref a :: st) μ := by
  intro p e s m args below meth c B H locs ls hl hR hS
  obtain ⟨Ld, q, ha, g1, g2, g3, hq, -⟩ := hR.at hσ
  exact va_cald B.1 B.2.1 B.2.2.2.2.2.2.2.1.2.1 g2 q 1 hq rfl hin d (kk p e s m args below meth c B H locs ls hl hR hS)
theorem V_lald {a n : Nat} {r : Nat → Option Nat} {i : Int32} (hσ : μ.1 a = some (.inl (.long, n, r))) (hin : vp_in i n) (d : decode φ.1.2.1 pc = .ok (.laload, 1)) (kk : V κ φ cells slots (pc + 1) L (.long (μ.2.2.1 a i.toNatClampNeg) :: st) μ) : V κ φ cells slots pc L (.int i :: .ref a :: st) μ := by
  intro p e s m args below meth c B H locs ls hl hR hS
  obtain ⟨Ld, q, ha, g1, g2, g3, hq, -⟩ := hR.at hσ
  exact va_lald B.1 B.2.1 B.2.2.2.2.2.2.2.1.2.1 g2 q 2 hq rfl hin d (kk p e s m args below meth c B H locs ls hl hR hS)
theorem V_aaldG {a n y : Nat} {r : Nat → Option Nat} {i : Int32} (hσ : μ.1 a = some (.inl (.object RX1, n, r))) (hin : vp_in i n) (hr : r i.toNatClampNeg = some y) (d : decode φ.1.2.1 pc = .ok (.aaload, 1)) (kk : V κ φ cells slots (pc + 1) L (.ref y :: st) μ) : V κ φ cells slots pc L (.int i :: .ref a :: st) μ := by
  intro p e s m args below meth c B H locs ls hl hR hS
  obtain ⟨Ld, q, ha, g1, g2, g3, hq, -⟩ := hR.at hσ
  refine va_aldq B.1 B.2.1 B.2.2.2.2.2.2.2.1.2.1 g2 q 3 (f := r) hq rfl hin d ?_
  rw [hr]
  exact kk p e s m args below meth c B H locs ls hl hR hS
theorem V_aaldA {a n y : Nat} {r : Nat → Option Nat} {i : Int32} (hσ : μ.1 a = some (.inl (.array .int, n, r))) (hin : vp_in i n) (hr : r i.toNatClampNeg = some y) (d : decode φ.1.2.1 pc = .ok (.aaload, 1)) (kk : V κ φ cells slots (pc + 1) L (.ref y :: st) μ) : V κ φ cells slots pc L (.int i :: .ref a :: st) μ := by
  intro p e s m args below meth c B H locs ls hl hR hS
  obtain ⟨Ld, q, ha, g1, g2, g3, hq, -⟩ := hR.at hσ
  have hlt : i.toNatClampNeg < n := Nat.not_le.mp fun q => hin (Or.inr q)
  have hcell : H[a]? = some (vp_cell (κ.2.2.1 (.array .int)) (n, .inr (.inr (.inr (.inr r))))) := g2 q _ hq
  refine W.aald (v := .ref y) (ty := .array .int) B.1 B.2.1 hcell ((B.2.2.2.2.2.2.2.1.2.1.2 4 _ rfl).1 n (fun j => va_rf (r j))) rfl (fun q => by cases q) (by show ¬ (i < 0 ∨ (arrV _ _ _).slots.size ≤ _); rw [arrV_size]; exact hin) (by show (arrV _ _ _).slots[_]? = _; rw [arrV_read _ _ hlt, hr]; rfl) rfl rfl d (kk p e s m args below meth c B H locs ls hl hR hS)
theorem V_iast {a n : Nat} {r : Nat → Option Nat} {i x : Int32} (hσ : μ.1 a = some (.inl (.int, n, r))) (hin : vp_in i n) (d : decode φ.1.2.1 pc = .ok (.iastore, 1)) (kk : V κ φ cells slots (pc + 1) L st (μ.1, u2 μ.2.1 a i.toNatClampNeg x, μ.2.2)) : V κ φ cells slots pc L (.int x :: .int i :: .ref a :: st) μ := by
  intro p e s m args below meth c B H locs ls hl hR hS
  obtain ⟨Ld, q, ha, g1, g2, g3, hq, -⟩ := hR.at hσ
  have hcell : H[a]? = some (vp_cell (κ.2.2.1 .int) (n, .inl (μ.2.1 a))) := g2 q _ hq
  refine W.iast B.1 B.2.1 hcell (Ev.tI B.2.2.2.2.2.2.2.1 n (fun j => .int (μ.2.1 a j))) (fun q => by cases q) (by show ¬ (i < 0 ∨ (arrV _ _ _).slots.size ≤ _); rw [arrV_size]; exact hin) rfl rfl d fun H1 e1 z oq => ?_
  obtain ⟨hR1, haA⟩ := Rep.set (μ' := (μ.1, u2 μ.2.1 a i.toNatClampNeg x, μ.2.2)) hR hσ (fun b => rfl) (by
      show va_at _ _ (a, cellM _ _ a) H1
      unfold cellM
      rw [hσ]
      show H1[a]? = some (vp_cell _ _)
      rw [e1]
      show some (Cell.setSlot (vp_cell _ _) _ _) = _
      rw [vp_cell_i, vp_cell_i, arrV_store]
      refine congrArg some (congrArg (arrV _ n) (funext fun q => ?_))
      by_cases hq : q = i.toNatClampNeg
      · subst hq; simp [updV, u2]
      · simp [updV, u2, hq]) (fun b hb => cellM_off rfl (u2_off _ _ _ hb) rfl) z oq rfl
  exact kk p e s m args below meth c B H1 _ ls hl hR1 (hS.put z oq haA)
theorem V_last {a n : Nat} {r : Nat → Option Nat} {i : Int32} {x : Int64} (hσ : μ.1 a = some (.inl (.long, n, r))) (hin : vp_in i n) (d : decode φ.1.2.1 pc = .ok (.lastore, 1)) (kk : V κ φ cells slots (pc + 1) L st (μ.1, μ.2.1, u2 μ.2.2.1 a i.toNatClampNeg x, μ.2.2.2)) : V κ φ cells slots pc L (.long x :: .int i :: .ref a :: st) μ := by
  intro p e s m args below meth c B H locs ls hl hR hS
  obtain ⟨Ld, q, ha, g1, g2, g3, hq, -⟩ := hR.at hσ
  have hcell : H[a]? = some (vp_cell (κ.2.2.1 .long) (n, .inr (.inl (μ.2.2.1 a)))) := g2 q _ hq
  refine W.last B.1 B.2.1 hcell (Ev.tL B.2.2.2.2.2.2.2.1 n (fun j => .long (μ.2.2.1 a j))) (fun q => by cases q) (by show ¬ (i < 0 ∨ (arrV _ _ _).slots.size ≤ _); rw [arrV_size]; exact hin) rfl rfl d fun H1 e1 z oq => ?_
  obtain ⟨hR1, haA⟩ := Rep.set (μ' := (μ.1, μ.2.1, u2 μ.2.2.1 a i.toNatClampNeg x, μ.2.2.2)) hR hσ (fun b => rfl) (by
      show va_at _ _ (a, cellM _ _ a) H1
      unfold cellM
      rw [hσ]
      show H1[a]? = some (vp_cell _ _)
      rw [e1]
      show some (Cell.setSlot (vp_cell _ _) _ _) = _
      rw [vp_cell_l, vp_cell_l, arrV_store]
      refine congrArg some (congrArg (arrV _ n) (funext fun q => ?_))
      by_cases hq : q = i.toNatClampNeg
      · subst hq; simp [updV, u2]
      · simp [updV, u2, hq]) (fun b hb => cellM_off rfl rfl (u2_off _ _ _ hb)) z oq rfl
  exact kk p e s m args below meth c B H1 _ ls hl hR1 (hS.put z oq haA)
theorem V_cast {a n : Nat} {r : Nat → Option Nat} {i x : Int32} (hσ : μ.1 a = some (.inl (.char, n, r))) (hin : vp_in i n) (hx : vp_nar .char x = x) (d : decode φ.1.2.1 pc = .ok (.castore, 1)) (kk : V κ φ cells slots (pc + 1) L st (μ.1, u2 μ.2.1 a i.toNatClampNeg x, μ.2.2)) : V κ φ cells slots pc L (.int x :: .int i :: .ref a :: st) μ := by
  intro p e s m args below meth c B H locs ls hl hR hS
  obtain ⟨Ld, q, ha, g1, g2, g3, hq, -⟩ := hR.at hσ
  have hcell : H[a]? = some (vp_cell (κ.2.2.1 .char) (n, .inl (μ.2.1 a))) := g2 q _ hq
  refine W.cast B.1 B.2.1 hcell (Ev.tC B.2.2.2.2.2.2.2.1 n (fun j => .int (μ.2.1 a j))) (fun q => by cases q) (by show ¬ (i < 0 ∨ (arrV _ _ _).slots.size ≤ _); rw [arrV_size]; exact hin) rfl rfl d fun H1 e1 z oq => ?_
  obtain ⟨hR1, haA⟩ := Rep.set (μ' := (μ.1, u2 μ.2.1 a i.toNatClampNeg x, μ.2.2)) hR hσ (fun b => rfl) (by
      show va_at _ _ (a, cellM _ _ a) H1
      unfold cellM
      rw [hσ]
      show H1[a]? = some (vp_cell _ _)
      rw [e1]
      rw [vp_cell_i, vp_cell_i, arrV_store]
      refine congrArg some (congrArg (arrV _ n) (funext fun q => ?_))
      by_cases hq : q = i.toNatClampNeg
      · subst hq
        simp only [updV, u2, if_true, and_self]
        exact congrArg Value.int hx
      · simp [updV, u2, hq]) (fun b hb => cellM_off rfl (u2_off _ _ _ hb) rfl) z oq rfl
  exact kk p e s m args below meth c B H1 _ ls hl hR1 (hS.put z oq haA)
/-- a new cell behind all others -/
theorem Rep.push {H H1 : Heap} {kd : Kd} {fi : Nat → Int32} {fl : Nat → Int64} (h : Rep κ μ H) (hB : κ.2.2.2 ≤ H.size) (hat : va_at κ.2.1 cls7 (H.size, cellK κ.2.2.1 kd fi fl) H1) (z : H1.size = H.size + 1) (oq : ∀ q : Nat, q < H.size → H1[q]? = H[q]?) : μ.1 H.size = none ∧ Rep κ (va_up μ.1 H.size (some kd), va_up μ.2.1 H.size fi, va_up μ.2.2.1 H.size fl, μ.2.2.2.map (· + 1)) H1 := by
  have hno : μ.1 H.size = none := by
    cases hc : μ.1 H.size with
    | none => rfl
    | some k2 => exact absurd (h.lt hc) (Nat.lt_irrefl _)
  obtain ⟨Ld, h1, h2, h3, h4⟩ := h
  have hnL : H.size ∉ Ld := fun q => by
    have := (h1 _).mp q
    rw [hno] at this
    cases this
  have hce : ∀ b, b ≠ H.size → cellM κ (va_up μ.1 H.size (some kd), va_up μ.2.1 H.size fi, va_up μ.2.2.1 H.size fl, μ.2.2.2.map (· + 1)) b = cellM κ μ b := fun b hb => cellM_off (va_up_ne _ _ hb) (va_up_ne _ _ hb) (va_up_ne _ _ hb)
  have hcs : cellM κ (va_up μ.1 H.size (some kd), va_up μ.2.1 H.size fi, va_up μ.2.2.1 H.size fl, μ.2.2.2.map (· + 1)) H.size = cellK κ.2.2.1 kd fi fl := by
    unfold cellM; simp only [va_up_self]
  have e : va_pl (Ld ++ [H.size]) (cellM κ (va_up μ.1 H.size (some kd), va_up μ.2.1 H.size fi, va_up μ.2.2.1 H.size fl, μ.2.2.2.map (· + 1))) = va_pl Ld (cellM κ μ) ++ [(H.size, cellK κ.2.2.1 kd fi fl)] := by
    unfold va_pl
    rw [List.map_append, List.map_cons, List.map_nil, hcs]
    congr 1
    exact List.map_congr_left (fun b hb => by rw [hce b (fun q => hnL (q ▸ hb))])
  refine ⟨hno, Ld ++ [H.size], fun b => ?_, ?_, ?_, fun n hn => ?_⟩
  · rw [List.mem_append, List.mem_singleton, h1 b]
    by_cases hb : b = H.size
    · subst hb; simp [va_up_self]
    · simp [va_up_ne _ _ hb, hb]
  · rw [e]
    refine (h2.kept (fun k q hk => oq q.1 (h2 k q hk).lt)).app (fun k q hk => ?_)
    have hz : k < 1 := (List.getElem?_eq_some_iff.mp hk).1
    rw [show k = 0 by omega] at hk
    cases hk
    exact hat
  · rw [e]
    exact h3.push h2 rfl hB
  · simp only [Option.map_eq_some_iff] at hn
    obtain ⟨n0, hn0, rfl⟩ := hn
    rw [z, h4 n0 hn0]
theorem va_S.grow {A : Nat → Prop} {H0 H H1 : Heap} {locs : List Loc} (h : va_S A H0 H locs) (z : H.size ≤ H1.size) (oq : ∀ q : Nat, q < H.size → H1[q]? = H[q]?) : va_S A H0 H1 locs := ⟨Nat.le_trans h.1 z, fun q h1 h2 => (oq q (Nat.lt_of_lt_of_le h1 h.1)).trans (h.2.1 q h1 h2), h.2.2⟩
theorem Ev.arrI {U : State} {H : Heap} (h : Ev κ U H) : U.vm.findClass ("[" ++ FieldType.int.toString) = some (κ.2.2.1 .int) := (h.2.1.2 0 _ rfl).2
theorem Ev.arrC {U : State} {H : Heap} (h : Ev κ U H) : U.vm.findClass ("[" ++ FieldType.char.toString) = some (κ.2.2.1 .char) := (h.2.1.2 1 _ rfl).2
theorem Ev.arrL {U : State} {H : Heap} (h : Ev κ U H) : U.vm.findClass ("[" ++ FieldType.long.toString) = some (κ.2.2.1 .long) := (h.2.1.2 2 _ rfl).2
theorem V_newI {n : Int32} {N : Nat} (hw : Cond.arrayClass .int ∈ TW) (hn : ¬ n < 0) (hN : n.toNatClampNeg = N) (hb : N * 4 ≤ 536870912) (hc : cells + 1 ≤ φ.2.1.cells ∧ slots + N ≤ φ.2.1.slots) (d : decode φ.1.2.1 pc = .ok (.newarray .int, 2))
    (kk : ∀ q, μ.1 q = none → (∀ z, μ.2.2.2 = some z → q = z) → V κ φ (cells + 1) (slots + N) (pc + 2) L (.ref q :: st) (va_up μ.1 q (some (.inl (.int, N, fun _ => none))), va_up μ.2.1 q (fun _ => 0), va_up μ.2.2.1 q (fun _ => 0), μ.2.2.2.map (· + 1))) : V κ φ cells slots pc L (.int n :: st) μ := by
  intro p e s m args below meth c B H locs ls hl hR hS
  refine va_newaK B.1 B.2.1 (atype := .int) (B.2.2.2.2.1 _ hw) rfl d rfl hn hN hb hc.1 hc.2 rfl fun H1 cA e1 z1 o1 hAr hNm => ?_
  have hcA : cA = κ.2.2.1 .int := Option.some.inj (hNm.symm.trans (Ev.arrI B.2.2.2.2.2.2.2.1))
  subst hcA
  obtain ⟨hno, hR1⟩ := Rep.push (kd := .inl (.int, N, fun _ => none)) (fi := fun _ => 0) (fl := fun _ => 0) hR (Nat.le_trans B.2.2.2.2.2.2.2.2.1 hS.1) (by
    show H1[H.size]? = some (vp_cell _ _)
    rw [vp_cell_i]; exact e1) z1 o1
  exact kk H.size hno (fun z hz => hR.choose_spec.2.2.2 z hz) p e s m args below meth c B H1 locs ls hl hR1 (hS.grow (by omega) o1)
theorem V_newC {n : Int32} {N : Nat} (hw : Cond.arrayClass .char ∈ TW) (hn : ¬ n < 0) (hN : n.toNatClampNeg = N) (hb : N * 2 ≤ 536870912) (hc : cells + 1 ≤ φ.2.1.cells ∧ slots + N ≤ φ.2.1.slots) (d : decode φ.1.2.1 pc = .ok (.newarray .char, 2))
    (kk : ∀ q, μ.1 q = none → (∀ z, μ.2.2.2 = some z → q = z) → V κ φ (cells + 1) (slots + N) (pc + 2) L (.ref q :: st) (va_up μ.1 q (some (.inl (.char, N, fun _ => none))), va_up μ.2.1 q (fun _ => 0), va_up μ.2.2.1 q (fun _ => 0), μ.2.2.2.map (· + 1))) : V κ φ cells slots pc L (.int n :: st) μ := by
  intro p e s m args below meth c B H locs ls hl hR hS
  refine va_newaK B.1 B.2.1 (atype := .char) (B.2.2.2.2.1 _ hw) rfl d rfl hn hN hb hc.1 hc.2 rfl fun H1 cA e1 z1 o1 hAr hNm => ?_
  have hcA : cA = κ.2.2.1 .char := Option.some.inj (hNm.symm.trans (Ev.arrC B.2.2.2.2.2.2.2.1))
  subst hcA
  obtain ⟨hno, hR1⟩ := Rep.push (kd := .inl (.char, N, fun _ => none)) (fi := fun _ => 0) (fl := fun _ => 0) hR (Nat.le_trans B.2.2.2.2.2.2.2.2.1 hS.1) (by
    show H1[H.size]? = some (vp_cell _ _)
    rw [vp_cell_i]; exact e1) z1 o1
  exact kk H.size hno (fun z hz => hR.choose_spec.2.2.2 z hz) p e s m args below meth c B H1 locs ls hl hR1 (hS.grow (by omega) o1)
theorem V_newL {n : Int32} {N : Nat} (hw : Cond.arrayClass .long ∈ TW) (hn : ¬ n < 0) (hN : n.toNatClampNeg = N) (hb : N * 8 ≤ 536870912) (hc : cells + 1 ≤ φ.2.1.cells ∧ slots + N ≤ φ.2.1.slots) (d : decode φ.1.2.1 pc = .ok (.newarray .long, 2))
    (kk : ∀ q, μ.1 q = none → (∀ z, μ.2.2.2 = some z → q = z) → V κ φ (cells + 1) (slots + N) (pc + 2) L (.ref q :: st) (va_up μ.1 q (some (.inl (.long, N, fun _ => none))), va_up μ.2.1 q (fun _ => 0), va_up μ.2.2.1 q (fun _ => 0), μ.2.2.2.map (· + 1))) : V κ φ cells slots pc L (.int n :: st) μ := by
  intro p e s m args below meth c B H locs ls hl hR hS
  refine va_newaK B.1 B.2.1 (atype := .long) (B.2.2.2.2.1 _ hw) rfl d rfl hn hN hb hc.1 hc.2 rfl fun H1 cA e1 z1 o1 hAr hNm => ?_
  have hcA : cA = κ.2.2.1 .long := Option.some.inj (hNm.symm.trans (Ev.arrL B.2.2.2.2.2.2.2.1))
  subst hcA
  obtain ⟨hno, hR1⟩ := Rep.push (kd := .inl (.long, N, fun _ => none)) (fi := fun _ => 0) (fl := fun _ => 0) hR (Nat.le_trans B.2.2.2.2.2.2.2.2.1 hS.1) (by
    show H1[H.size]? = some (vp_cell _ _)
    rw [vp_cell_l]; exact e1) z1 o1
  exact kk H.size hno (fun z hz => hR.choose_spec.2.2.2 z hz) p e s m args below meth c B H1 locs ls hl hR1 (hS.grow (by omega) o1)
/-- an object: its references are null, its numbers 0 -/
theorem V_new {C : String} {T : u_T} {N ci idx : Nat} {sl : Nat → Option Value} (hci : cls7[ci]? = some (C, T, N)) (hl1 : Cond.classLink φ.1.1.cls idx C ∈ TW) (hl2 : Cond.instantiable C N ∈ TW) (hl3 : Cond.initialized C ∈ TW) (hsl : ∀ k, k < N → ∀ ty, parseFieldDescriptor (T k).2.2.1 = some ty → defaultValue ty = slV sl (fun _ => 0) k) (hc : cells + 1 ≤ φ.2.1.cells ∧ slots + N ≤ φ.2.1.slots) (d : decode φ.1.2.1 pc = .ok (.new idx, 3))
    (kk : ∀ q, μ.1 q = none → (∀ z, μ.2.2.2 = some z → q = z) → V κ φ (cells + 1) (slots + N) (pc + 3) L (.ref q :: st) (va_up μ.1 q (some (.inr (ci, N, sl))), va_up μ.2.1 q (fun _ => 0), va_up μ.2.2.1 q (fun _ => 0), μ.2.2.2.map (· + 1))) : V κ φ cells slots pc L st μ := by
  intro p e s m args below meth c B H locs ls hl hR hS
  have hKn := B.2.2.2.2.2.2.2.1.2.1.1 ci _ hci
  obtain ⟨ty0, hty, hnm⟩ := (clsIn hci).2
  refine W.newcK B.1 B.2.1 B.2.2.2.1 (B.2.2.2.2.1 _ hl1) (B.2.2.2.2.1 _ hl2) (B.2.2.2.2.1 _ hl3) rfl d hc.1 hc.2 hKn.2.1 rfl fun H1 kC hkC e1 z1 o1 => ?_
  obtain ⟨hno, hR1⟩ := Rep.push (kd := .inr (ci, N, sl)) (fi := fun _ => 0) (fl := fun _ => 0) hR (Nat.le_trans B.2.2.2.2.2.2.2.2.1 hS.1) (by
    show ∃ r : vw_C, cls7[ci]? = some r ∧ t_OB H.size _ r.2.2 _ H1 (vp_V ((List.range N).map (slV sl (fun _ => 0))))
    refine ⟨_, hci, (u_born ty0 B.2.2.2.2.1 (clsIn hci).1 hKn hkC e1 hty).to (fun j hj => ?_)⟩
    rw [hsl j hj (ty0 j) (hty j hj)]
    unfold vp_V
    rw [List.getD_eq_getElem?_getD, sl_get hj]
    rfl) z1 o1
  exact kk H.size hno (fun z hz => hR.choose_spec.2.2.2 z hz) p e s m args below meth c B H1 locs ls hl hR1 (hS.grow (by omega) o1)
/-- the heap's size gets a name -/
theorem V.learn (hz : μ.2.2.2 = none) (k : ∀ n, (∀ a, n ≤ a → μ.1 a = none) → κ.2.2.2 ≤ n → V κ φ cells slots pc L st (μ.1, μ.2.1, μ.2.2.1, some n)) : V κ φ cells slots pc L st μ := by
  intro p e s m args below meth c B H locs ls hl hR hS
  refine k H.size (fun a ha => ?_) (Nat.le_trans B.2.2.2.2.2.2.2.2.1 hS.1) p e s m args below meth c B H locs ls hl ?_ hS
  · cases hc : μ.1 a with
    | none => rfl
    | some kd => exact absurd (hR.lt hc) (by omega)
  · obtain ⟨Ld, h1, h2, h3, h4⟩ := hR
    exact ⟨Ld, h1, h2, h3, fun n hn => by cases hn; rfl⟩
/-- .. and is forgotten, with cells that don't matter more -/
theorem V.drop {μ' : Mem} (hs : ∀ a kd, μ'.1 a = some kd → μ.1 a = some kd ∧ μ'.2.1 a = μ.2.1 a ∧ μ'.2.2.1 a = μ.2.2.1 a) (hz : μ'.2.2.2 = none) (k : V κ φ cells slots pc L st μ') : V κ φ cells slots pc L st μ := by
  intro p e s m args below meth c B H locs ls hl hR hS
  exact k p e s m args below meth c B H locs ls hl (hR.sub hs hz) hS
end Rows3
end
section
/-! calls, ends, exceptions, contracts -/
def MRv (mr : MR) (n : Nat) : Prop := mCode mr ∈ TW ∧ Cond.instanceMethod mr.1 ∈ TW ∧ Cond.selects mr.1.cls mr.1 mr.1 ∈ TW ∧ Cond.initialized mr.1.cls ∈ TW ∧ (mr.1.cls ≠ "java/lang/invoke/MethodHandle" ∧ mr.1.cls ≠ "java/lang/invoke/VarHandle") ∧ (parseMethodDescriptor mr.1.desc).map (fun d => d.parameters.length) = some n ∧ plainName mr.1.cls = true
def MRs (mr : MR) (n : Nat) : Prop := mCode mr ∈ TW ∧ Cond.static mr.1 ∈ TW ∧ Cond.initialized mr.1.cls ∈ TW ∧ (mr.1.cls ≠ "java/lang/invoke/MethodHandle" ∧ mr.1.cls ≠ "java/lang/invoke/VarHandle") ∧ (parseMethodDescriptor mr.1.desc).map (fun d => d.parameters.length) = some n ∧ plainName mr.1.cls = true
def MRi (mr : MR) (n : Nat) : Prop := mCode mr ∈ TW ∧ Cond.instanceMethod mr.1 ∈ TW ∧ Cond.initialized mr.1.cls ∈ TW ∧ (mr.1.cls ≠ "java/lang/invoke/MethodHandle" ∧ mr.1.cls ≠ "java/lang/invoke/VarHandle") ∧ (parseMethodDescriptor mr.1.desc).map (fun d => d.parameters.length) = some n ∧ plainName mr.1.cls = true ∧ mr.1.name = "<init>" ∧ mr.2.2.2 = none
theorem GoodIn.cons {w : Cond} {ws : List Cond} (h : w ∈ TW) (h2 : GoodIn TW ws) : GoodIn TW (w :: ws) := fun x hx => (List.mem_cons.mp hx).elim (fun e => by rw [e]; exact TW_self w h) (h2 x)
theorem PcOf.blind (κ : K0) (as : List Value) (μ : Mem) : FrameBlind (PcOf κ as μ) := fun a U g mk q => ⟨q.1, q.2.1, Ev.same (s := U) (U := U.calling g mk a) rfl q.2.2.1, q.2.2.2⟩
theorem PcOf.go {κ : K0} {as : List Value} {μ : Mem} {s U : State} {H : Heap} {locs : List Loc} (hE : Ev κ s s.heap) (hB : κ.2.2.2 ≤ s.heap.size) (hR : Rep κ μ H) (hS : va_S (kA κ) s.heap H locs) (hU : U.heap = H) (hW : s.WarmedH U.vm) : PcOf κ as μ as.toArray U :=
  ⟨rfl, by rw [hU]; exact hR, by rw [hU]; exact Ev.go hW hS.2.1 hE, by rw [hU]; exact Nat.le_trans hB hS.1⟩
section Calls8
variable {p : Program} {e : Env} {R : Room} {s : State} {m : MethodId} {args : Array Value} {below : List Frame} {meth : Method} {c : Code} {H : Heap} {locs : List Loc} {Q : State → Prop}
variable {κ : K0} {cells slots pc : Nat} {μ μ' : Mem} {o : Oc} {mc ms : Nat} {ls : Array Slot} {st0 rest : List Value} {a : Array Value}
theorem run_go (hr : vx_Run p κ.1 e R s m args below meth c H locs cells slots mc ms (F0 m pc ls st0) rest (QcOf κ o μ' a) (XcOf κ o μ') (kA κ)) (hS : va_S (kA κ) s.heap H locs)
    (kk : ∀ (v : Option Value) (H1 : Heap) (locs1 : List Loc), o = .inl v → Rep κ μ' H1 → va_S (kA κ) s.heap H1 locs1 → W p κ.1 e R s m args below meth c H1 locs1 (cells + mc) (slots + ms) Q (F0 m (pc + 3) ls (v.toList ++ rest)))
    (kx : ∀ (E : String) (ce : Cell) (q : Addr) (H1 : Heap) (locs1 : List Loc), o = .inr E → Rep κ μ' H1 → va_S (kA κ) s.heap H1 locs1 → H1[q]? = some ce → ce.vm = .none → s.vm.findClass E = some ce.cls → vx_W p κ.1 e R s m args below meth c H1 locs1 (cells + mc) (slots + ms) Q (F0 m pc ls rest) q) :
    W p κ.1 e R s m args below meth c H locs cells slots Q (F0 m pc ls st0) := by
  intro T hT X
  rcases hr T hT X with ⟨v, st₀, t, T', Lo, h0, X', hL, e1, e2, ⟨⟨v', ho, hv, hRep⟩, hF⟩, st⟩ | ⟨q, st₀, t, T', Lo, E, ce, h0, X', hL, e1, e2, ⟨⟨ho, hRep⟩, hF⟩, hce, hcv, hcl, st⟩
  · cases hv
    obtain ⟨k1, k2, k3⟩ := vx_keep (A0 := kA κ) (A1 := kA κ) h0 e1 hS (fun _ _ h => h) (fun _ h => h) hL hF
    obtain ⟨t2, a1, b1⟩ := kk v T'.heap (locs ++ Lo) ho (by rw [e1]; exact hRep) k3 T' rfl X'
    exact ⟨t2, st t2 a1, b1⟩
  · obtain ⟨k1, k2, k3⟩ := vx_keep (A0 := kA κ) (A1 := kA κ) h0 e1 hS (fun _ _ h => h) (fun _ h => h) hL hF
    obtain ⟨t2, a1, b1⟩ := kx E ce q T'.heap (locs ++ Lo) ho (by rw [e1]; exact hRep) k3 (by rw [e1]; exact hce) hcv hcl T' rfl X'
    exact ⟨t2, st.trans a1, b1⟩
end Calls8
section Rows4
variable {κ : K0} {φ : Fr} {cells slots pc : Nat} {L : List (Option Value)} {st rest : List Value} {μ μ' : Mem} {mr : MR} {mc ms d' n idx : Nat} {as : List Value} {o : Oc}
/-- there is room for a call -/
abbrev rmOK (φ : Fr) (mr : MR) (cells slots mc ms d' : Nat) : Prop := (d' + 1 ≤ φ.2.1.frames ∧ 8 + (mr.2.2.1 + 11) + 64 * d' ≤ φ.2.1.locals) ∧ cells + mc ≤ φ.2.1.cells ∧ slots + ms ≤ φ.2.1.slots
theorem V_callV_any {b ci N : Nat} {T : u_T} {sl : Nat → Option Value} (hc : Ct κ mc ms d' mr (.ref b :: as) μ o μ') (hm : MRv mr n) (hlink : Cond.methodLink φ.1.1.cls idx mr.1 ∈ TW) (hσ : μ.1 b = some (.inr (ci, N, sl))) (hci : cls7[ci]? = some (mr.1.cls, T, N)) (hn : as.length = n) (hst : st = as.reverse ++ .ref b :: rest) (hw : (rest.map fun v => v.category).sum ≤ 8) (hR8 : rmOK φ mr cells slots mc ms d') (d : decode φ.1.2.1 pc = .ok (.invokevirtual idx, 3))
    (k : ∀ v, o = .inl v → V κ φ (cells + mc) (slots + ms) (pc + 3) L (v.toList ++ rest) μ') (kx : ∀ E, o = .inr E → VX κ φ (cells + mc) (slots + ms) pc L E μ') : V κ φ cells slots pc L st μ := by
  intro p e s m args below meth c B H locs ls hl hR hS
  obtain ⟨m1, m2, m3, m4, m5, m6, m7⟩ := hm
  obtain ⟨Ld, q, ha, g1, g2, g3, hq, -⟩ := hR.at hσ
  have hts := B.2.2.2.2.1
  refine run_go (vx_runV (y := mr.1) (bytes := mr.2.1) (maxL := mr.2.2.1) (ret := mr.2.2.2) (As := as) (rest := rest) (b := b) (C := mr.1.cls) ⟨B.1, B.2.1, B.2.2.1, B.2.2.2.1, hts⟩ hc (cwV n hts (GoodIn.cons hlink (GoodIn.cons m2 (GoodIn.cons m3 (GoodIn.cons m4 (TW_good m1))))) rfl rfl rfl ⟨rfl, m5.1, m5.2, m6⟩ ⟨hR8.1.1, hR8.1.2⟩) ⟨PcOf.blind _ _ _, va_recv B.2.2.2.2.2.2.2.1.2.1 g2 hci hq, fun U hU hW => PcOf.go B.2.2.2.2.2.2.2.1 B.2.2.2.2.2.2.2.2.1 hR hS hU hW⟩ rfl hn hl.1 hst (lv_room hw) d hR8.2) hS (fun v H1 locs1 ho hR1 hS1 => k v ho p e s m args below meth c B H1 locs1 ls hl hR1 hS1) (fun E ce q H1 locs1 ho hR1 hS1 h1 h2 h3 => kx E ho p e s m args below meth c B H1 locs1 ls ce q rest hl hR1 hS1 h1 h2 h3)
theorem V_callS_any (hc : Ct κ mc ms d' mr as μ o μ') (hm : MRs mr n) (hlink : Cond.methodLink φ.1.1.cls idx mr.1 ∈ TW) (hn : as.length = n) (hst : st = as.reverse ++ rest) (hw : (rest.map fun v => v.category).sum ≤ 8) (hR8 : rmOK φ mr cells slots mc ms d') (d : decode φ.1.2.1 pc = .ok (.invokestatic idx, 3))
    (k : ∀ v, o = .inl v → V κ φ (cells + mc) (slots + ms) (pc + 3) L (v.toList ++ rest) μ') (kx : ∀ E, o = .inr E → VX κ φ (cells + mc) (slots + ms) pc L E μ') : V κ φ cells slots pc L st μ := by
  intro p e s m args below meth c B H locs ls hl hR hS
  obtain ⟨m1, m2, m4, m5, m6, m7⟩ := hm
  have hts := B.2.2.2.2.1
  refine run_go (vx_runS (y := mr.1) (bytes := mr.2.1) (maxL := mr.2.2.1) (ret := mr.2.2.2) (As := as) (rest := rest) ⟨B.1, B.2.1, B.2.2.1, B.2.2.2.1, hts⟩ hc ⟨callB_of n hts (TW_good m1) rfl rfl rfl (hts _ m4) (hts _ hlink) ⟨m5.1, m5.2, m6⟩ ⟨hR8.1.1, hR8.1.2⟩, hts _ m2⟩ ⟨PcOf.blind _ _ _, fun U hU hW => PcOf.go B.2.2.2.2.2.2.2.1 B.2.2.2.2.2.2.2.2.1 hR hS hU hW⟩ rfl hn hl.1 hst (lv_room hw) d hR8.2) hS (fun v H1 locs1 ho hR1 hS1 => k v ho p e s m args below meth c B H1 locs1 ls hl hR1 hS1) (fun E ce q H1 locs1 ho hR1 hS1 h1 h2 h3 => kx E ho p e s m args below meth c B H1 locs1 ls ce q rest hl hR1 hS1 h1 h2 h3)
theorem V_callSN_any {host : String} (hc : Ct κ mc ms d' mr as μ o μ') (hm : MRs mr n) (hlink : Cond.methodLinkNest φ.1.1.cls idx mr.1 host ∈ nwL) (hn : as.length = n) (hst : st = as.reverse ++ rest) (hw : (rest.map fun v => v.category).sum ≤ 8) (hR8 : rmOK φ mr cells slots mc ms d') (d : decode φ.1.2.1 pc = .ok (.invokestatic idx, 3))
    (k : ∀ v, o = .inl v → V κ φ (cells + mc) (slots + ms) (pc + 3) L (v.toList ++ rest) μ') (kx : ∀ E, o = .inr E → VX κ φ (cells + mc) (slots + ms) pc L E μ') : V κ φ cells slots pc L st μ := by
  intro p e s m args below meth c B H locs ls hl hR hS
  obtain ⟨m1, m2, m4, m5, m6, m7⟩ := hm
  have hts := B.2.2.2.2.1
  refine run_go (vx_runSN (y := mr.1) (bytes := mr.2.1) (maxL := mr.2.2.1) (ret := mr.2.2.2) (As := as) (rest := rest) (host := host) ⟨B.1, B.2.1, B.2.2.1, B.2.2.2.1, hts⟩ hc ⟨va_cnB n hts (TW_good m1) rfl rfl rfl (B.2.2.2.2.2.2.2.1.2.2.1 _ hlink) (hts _ m4) ⟨m5.1, m5.2, m6⟩ ⟨hR8.1.1, hR8.1.2⟩, hts _ m2, trivial⟩ ⟨PcOf.blind _ _ _, fun U hU hW => PcOf.go B.2.2.2.2.2.2.2.1 B.2.2.2.2.2.2.2.2.1 hR hS hU hW⟩ rfl hn hl.1 hst (lv_room hw) d hR8.2) hS (fun v H1 locs1 ho hR1 hS1 => k v ho p e s m args below meth c B H1 locs1 ls hl hR1 hS1) (fun E ce q H1 locs1 ho hR1 hS1 h1 h2 h3 => kx E ho p e s m args below meth c B H1 locs1 ls ce q rest hl hR1 hS1 h1 h2 h3)
theorem V_callI {b : Nat} (hc : Ct κ mc ms d' mr (.ref b :: as) μ (.inl none) μ') (hm : MRi mr n) (hlink : Cond.methodLink φ.1.1.cls idx mr.1 ∈ TW) (hn : as.length = n) (hst : st = as.reverse ++ .ref b :: rest) (hw : (rest.map fun v => v.category).sum ≤ 8) (hR8 : rmOK φ mr cells slots mc ms d') (d : decode φ.1.2.1 pc = .ok (.invokespecial idx, 3))
    (k : V κ φ (cells + mc) (slots + ms) (pc + 3) L rest μ') : V κ φ cells slots pc L st μ := by
  intro p e s m args below meth c B H locs ls hl hR hS
  obtain ⟨m1, m2, m4, m5, m6, m7, m8, m9⟩ := hm
  have hts := B.2.2.2.2.1
  obtain ⟨y, cc, mL, rt⟩ := mr
  cases (show rt = none from m9)
  refine run_go (vx_runI (y := y) (bytes := cc) (maxL := mL) (As := as) (rest := rest) (b := b) ⟨B.1, B.2.1, B.2.2.1, B.2.2.2.1, hts⟩ hc ⟨callB_of n hts (TW_good m1) rfl rfl rfl (hts _ m4) (hts _ hlink) ⟨m5.1, m5.2, m6⟩ ⟨hR8.1.1, hR8.1.2⟩, m8, hts _ m2⟩ ⟨PcOf.blind _ _ _, fun U hU hW => PcOf.go B.2.2.2.2.2.2.2.1 B.2.2.2.2.2.2.2.2.1 hR hS hU hW⟩ rfl hn hl.1 hst (lv_room hw) d hR8.2) hS (fun v H1 locs1 ho hR1 hS1 => by cases ho; exact k p e s m args below meth c B H1 locs1 ls hl hR1 hS1) (fun E ce q H1 locs1 ho hR1 hS1 h1 h2 h3 => by cases ho)
theorem V_callIN {b : Nat} {host : String} (hc : Ct κ mc ms d' mr (.ref b :: as) μ (.inl none) μ') (hm : MRi mr n) (hlink : Cond.methodLinkNest φ.1.1.cls idx mr.1 host ∈ nwL) (hn : as.length = n) (hst : st = as.reverse ++ .ref b :: rest) (hw : (rest.map fun v => v.category).sum ≤ 8) (hR8 : rmOK φ mr cells slots mc ms d') (d : decode φ.1.2.1 pc = .ok (.invokespecial idx, 3))
    (k : V κ φ (cells + mc) (slots + ms) (pc + 3) L rest μ') : V κ φ cells slots pc L st μ := by
  intro p e s m args below meth c B H locs ls hl hR hS
  obtain ⟨m1, m2, m4, m5, m6, m7, m8, m9⟩ := hm
  have hts := B.2.2.2.2.1
  obtain ⟨y, cc, mL, rt⟩ := mr
  cases (show rt = none from m9)
  refine run_go (vx_runIN (y := y) (bytes := cc) (maxL := mL) (As := as) (rest := rest) (b := b) (host := host) ⟨B.1, B.2.1, B.2.2.1, B.2.2.2.1, hts⟩ hc ⟨va_cnB n hts (TW_good m1) rfl rfl rfl (B.2.2.2.2.2.2.2.1.2.2.1 _ hlink) (hts _ m4) ⟨m5.1, m5.2, m6⟩ ⟨hR8.1.1, hR8.1.2⟩, m8, hts _ m2⟩ ⟨PcOf.blind _ _ _, fun U hU hW => PcOf.go B.2.2.2.2.2.2.2.1 B.2.2.2.2.2.2.2.2.1 hR hS hU hW⟩ rfl hn hl.1 hst (lv_room hw) d hR8.2) hS (fun v H1 locs1 ho hR1 hS1 => by cases ho; exact k p e s m args below meth c B H1 locs1 ls hl hR1 hS1) (fun E ce q H1 locs1 ho hR1 hS1 h1 h2 h3 => by cases ho)
theorem V_objInit {b : Nat} (hlink : Cond.methodLink φ.1.1.cls idx Lib.objectInit ∈ TW) (h2 : Cond.instanceMethod Lib.objectInit ∈ TW) (h3 : Cond.code Lib.objectInit ⟨#[0xb1]⟩ 1 none ∈ TW) (hw : (st.map fun v => v.category).sum ≤ 8) (hf : 1 ≤ φ.2.1.frames ∧ 20 ≤ φ.2.1.locals) (d : decode φ.1.2.1 pc = .ok (.invokespecial idx, 3)) (k : V κ φ cells slots (pc + 3) L st μ) : V κ φ cells slots pc L (.ref b :: st) μ := by
  intro p e s m args below meth c B H locs ls hl hR hS
  have hts := B.2.2.2.2.1
  have h8 := lv_room (m := m) (pc := pc) (ls := ls) (rest := .ref b :: st) hw
  exact W.objInit B.1 B.2.1 B.2.2.2.1 (hts _ hlink) (hts _ h2) (hts _ h3) rfl (hl.1.trans B.2.2.1.symm) rfl d hf.1 (by have := hf.2; omega) (k p e s m args below meth c B H locs ls hl hR hS)
/-- calls whose callee returns -/
theorem V_callV {b ci N : Nat} {T : u_T} {sl : Nat → Option Value} {v : Option Value} (hc : Ct κ mc ms d' mr (.ref b :: as) μ (.inl v) μ') (hm : MRv mr n) (hlink : Cond.methodLink φ.1.1.cls idx mr.1 ∈ TW) (hσ : μ.1 b = some (.inr (ci, N, sl))) (hci : cls7[ci]? = some (mr.1.cls, T, N)) (hn : as.length = n) (hst : st = as.reverse ++ .ref b :: rest) (hw : (rest.map fun v => v.category).sum ≤ 8) (hR8 : rmOK φ mr cells slots mc ms d') (d : decode φ.1.2.1 pc = .ok (.invokevirtual idx, 3))
    (k : V κ φ (cells + mc) (slots + ms) (pc + 3) L (v.toList ++ rest) μ') : V κ φ cells slots pc L st μ :=
  V_callV_any hc hm hlink hσ hci hn hst hw hR8 d (fun v ho => by cases ho; exact k) (fun E ho => by cases ho)
theorem V_callVX {b ci N : Nat} {T : u_T} {sl : Nat → Option Value} {E : String} (hc : Ct κ mc ms d' mr (.ref b :: as) μ (.inr E) μ') (hm : MRv mr n) (hlink : Cond.methodLink φ.1.1.cls idx mr.1 ∈ TW) (hσ : μ.1 b = some (.inr (ci, N, sl))) (hci : cls7[ci]? = some (mr.1.cls, T, N)) (hn : as.length = n) (hst : st = as.reverse ++ .ref b :: rest) (hw : (rest.map fun v => v.category).sum ≤ 8) (hR8 : rmOK φ mr cells slots mc ms d') (d : decode φ.1.2.1 pc = .ok (.invokevirtual idx, 3))
    (k : VX κ φ (cells + mc) (slots + ms) pc L E μ') : V κ φ cells slots pc L st μ :=
  V_callV_any hc hm hlink hσ hci hn hst hw hR8 d (fun v ho => by cases ho) (fun E ho => by cases ho; exact k)
theorem V_callS {v : Option Value} (hc : Ct κ mc ms d' mr as μ (.inl v) μ') (hm : MRs mr n) (hlink : Cond.methodLink φ.1.1.cls idx mr.1 ∈ TW) (hn : as.length = n) (hst : st = as.reverse ++ rest) (hw : (rest.map fun v => v.category).sum ≤ 8) (hR8 : rmOK φ mr cells slots mc ms d') (d : decode φ.1.2.1 pc = .ok (.invokestatic idx, 3))
    (k : V κ φ (cells + mc) (slots + ms) (pc + 3) L (v.toList ++ rest) μ') : V κ φ cells slots pc L st μ :=
  V_callS_any hc hm hlink hn hst hw hR8 d (fun v ho => by cases ho; exact k) (fun E ho => by cases ho)
theorem V_callSN {host : String} {v : Option Value} (hc : Ct κ mc ms d' mr as μ (.inl v) μ') (hm : MRs mr n) (hlink : Cond.methodLinkNest φ.1.1.cls idx mr.1 host ∈ nwL) (hn : as.length = n) (hst : st = as.reverse ++ rest) (hw : (rest.map fun v => v.category).sum ≤ 8) (hR8 : rmOK φ mr cells slots mc ms d') (d : decode φ.1.2.1 pc = .ok (.invokestatic idx, 3))
    (k : V κ φ (cells + mc) (slots + ms) (pc + 3) L (v.toList ++ rest) μ') : V κ φ cells slots pc L st μ :=
  V_callSN_any hc hm hlink hn hst hw hR8 d (fun v ho => by cases ho; exact k) (fun E ho => by cases ho)
end Rows4
section Ends8
variable {κ : K0} {cells slots pc : Nat} {L : List (Option Value)} {st rest : List Value} {μ μ' : Mem} {mr : MR} {mc ms dd : Nat} {as : List Value} {o : Oc} {hh : List (Nat × Nat × Nat × Nat)}
theorem QcOf.end {s t : State} {H : Heap} {locs : List Loc} {v : Option Value} (ho : o = .inl v) (hR : Rep κ μ H) (hm : μ' = μ) (hS : va_S (kA κ) s.heap H locs) (ht : t.heap = H) (a : Array Value) : QcOf κ o μ' a s (.returned v) t :=
  ⟨⟨v, ho, rfl, by rw [ht, hm]; exact hR⟩, hS.F ht⟩
theorem V_iret {x : Int32} (hr : mr.2.2.2 = some .int) (ho : o = .inl (some (.int x))) (hm : μ' = μ) (hc : cells ≤ mc ∧ slots ≤ ms) (d : decode mr.2.1 pc = .ok (.ireturn, 1)) : V κ (phiH κ mr dd mc ms o μ' hh) cells slots pc L [.int x] μ := by
  intro p e s m args below meth c B H locs ls hl hR hS
  exact vx_ret (W.widen hc.1 hc.2 (W.iret B.1 B.2.1 (B.2.2.2.2.2.1.trans hr) (fun t ht hW => QcOf.end ho hR hm hS ht args) hS.2.2 d B.2.2.2.2.2.2.1))
theorem V_zret {x : Int32} {ty : FieldType} (hr : mr.2.2.2 = some ty) (hn : narrow ty (.int x) = .int x) (ho : o = .inl (some (.int x))) (hm : μ' = μ) (hc : cells ≤ mc ∧ slots ≤ ms) (d : decode mr.2.1 pc = .ok (.ireturn, 1)) : V κ (phiH κ mr dd mc ms o μ' hh) cells slots pc L [.int x] μ := by
  intro p e s m args below meth c B H locs ls hl hR hS
  exact vx_ret (W.widen hc.1 hc.2 (W.zret B.1 B.2.1 (B.2.2.2.2.2.1.trans hr) hn (fun t ht hW => QcOf.end ho hR hm hS ht args) hS.2.2 d B.2.2.2.2.2.2.1))
theorem V_vret (hr : mr.2.2.2 = none) (ho : o = .inl none) (hm : μ' = μ) (hc : cells ≤ mc ∧ slots ≤ ms) (d : decode mr.2.1 pc = .ok (.return_, 1)) : V κ (phiH κ mr dd mc ms o μ' hh) cells slots pc L [] μ := by
  intro p e s m args below meth c B H locs ls hl hR hS
  exact vx_ret (W.widen hc.1 hc.2 (W.vret B.1 B.2.1 (B.2.2.2.2.2.1.trans hr) (fun t ht hW => QcOf.end ho hR hm hS ht args) hS.2.2 d B.2.2.2.2.2.2.1))
theorem V_lret {x : Int64} (hr : mr.2.2.2 = some .long) (ho : o = .inl (some (.long x))) (hm : μ' = μ) (hc : cells ≤ mc ∧ slots ≤ ms) (d : decode mr.2.1 pc = .ok (.lreturn, 1)) : V κ (phiH κ mr dd mc ms o μ' hh) cells slots pc L [.long x] μ := by
  intro p e s m args below meth c B H locs ls hl hR hS
  exact vx_ret (W.widen hc.1 hc.2 (W.lret B.1 B.2.1 (B.2.2.2.2.2.1.trans hr) (fun t ht hW => QcOf.end ho hR hm hS ht args) hS.2.2 d B.2.2.2.2.2.2.1))
theorem V_dret {x : UInt64} (hr : mr.2.2.2 = some .double) (ho : o = .inl (some (.double x))) (hm : μ' = μ) (hc : cells ≤ mc ∧ slots ≤ ms) (d : decode mr.2.1 pc = .ok (.dreturn, 1)) : V κ (phiH κ mr dd mc ms o μ' hh) cells slots pc L [.double x] μ := by
  intro p e s m args below meth c B H locs ls hl hR hS
  exact vx_ret (W.widen hc.1 hc.2 (W.dret B.1 B.2.1 (B.2.2.2.2.2.1.trans hr) (fun t ht hW => QcOf.end ho hR hm hS ht args) hS.2.2 d B.2.2.2.2.2.2.1))
/-- an exception leaves a method without handlers -/
theorem VX_out {E : String} (ho : o = .inr E) (hm : μ' = μ) (hc : cells ≤ mc ∧ slots ≤ ms) : VX κ (phi κ mr dd mc ms o μ') cells slots pc L E μ := by
  intro p e s m args below meth c B H locs ls ce q rest hl hR hS h1 h2 h3
  refine vx_out (fun x hx => ?_) B.2.2.2.2.2.2.1 h1 h2 h3 (fun t ht hA => ⟨⟨ho, by rw [ht, hm]; exact hR⟩, hS.F ht⟩) hS.2.2 hc.1 hc.2
  rw [B.2.2.2.2.2.2.2.2.2.1] at hx
  cases hx
/-- the contract out of a walk -/
theorem lv_args_mem : ∀ (as : List Value) (i : Nat), (∀ v ∈ as, v.category = 1) → ∀ (k : Nat) (v : Value), as[k]? = some v → (i + k, v) ∈ lv_args i as
  | [], i, h, k, v, hk => by simp at hk
  | a :: t, i, h, 0, v, hk => by
    simp only [List.getElem?_cons_zero, Option.some.injEq] at hk
    subst hk
    simp [lv_args]
  | a :: t, i, h, k + 1, v, hk => by
    simp only [List.getElem?_cons_succ] at hk
    have h1 := lv_args_mem t (i + 1) (fun v hv => h v (List.mem_cons_of_mem _ hv)) k v hk
    have h2 := h a List.mem_cons_self
    simp only [lv_args, h2, List.mem_cons]
    refine Or.inr ?_
    rw [show i + (k + 1) = i + 1 + k by omega]
    exact h1
theorem lg_sl_len : ∀ (as : List Value), (∀ v ∈ as, v.category = 1) → (lg_sl as).length = as.length
  | [], _ => rfl
  | a :: t, h => by
    have h1 := lg_sl_len t (fun v hv => h v (List.mem_cons_of_mem _ hv))
    have h2 := h a List.mem_cons_self
    cases a <;> simp_all [lg_sl, Value.category]
abbrev entL (as : List Value) (n : Nat) : List (Option Value) := as.map some ++ List.replicate (n - as.length) none
theorem lOK.entry {as : List Value} {n : Nat} (h : ∀ v ∈ as, v.category = 1) (hn : as.length ≤ n) : lOK ((lg_sl as ++ List.replicate (n - (lg_sl as).length) Slot.unset).toArray) n (entL as n) := by
  have h0 := lv_entry as (n := n) (by rw [lg_sl_len as h]; exact hn)
  refine ⟨h0.1, h0.2.1, fun k v hk => ?_⟩
  have hk2 : as[k]? = some v := by
    by_cases hl : k < as.length
    · rw [List.getElem?_append_left (by simpa using hl), List.getElem?_map] at hk
      cases ha : as[k]? with
      | none => rw [ha] at hk; cases hk
      | some w => rw [ha] at hk; simpa using hk
    · rw [List.getElem?_append_right (by simpa using hl), List.getElem?_replicate] at hk
      split at hk <;> cases hk
  have := lv_args_mem as 0 h k v hk2
  rw [Nat.zero_add] at this
  exact h0.2.2 _ this
theorem Ct.of (hy : plainName mr.1.cls = true) (hcat : ∀ v ∈ as, v.category = 1) (hlen : as.length ≤ mr.2.2.1) (k : V κ (phi κ mr dd mc ms o μ') 0 0 0 (entL as mr.2.2.1) [] μ) : Ct κ mc ms dd mr as μ o μ' := by
  refine vx_ofW (cc := mr.2.1) (maxL := mr.2.2.1) (ret := mr.2.2.2) hy rfl ?_
  intro p e s m args below meth c s₁ B hml hto hv
  obtain ⟨rfl, hR, hE, hB⟩ := hv
  have hts := atoms_spec (ws := mCode mr :: TW) B.pre
  rw [lg_entry_eq]
  exact k p e s m _ below meth c ⟨B.exec, B.bytes, hml, findClass_of_methodNamed B.named, fun w hw => hts w (List.mem_cons_of_mem _ hw), B.returns, B.notSynchronized, hE, hB, by
      cases hx : c.exceptionTable.toList with
      | nil => rfl
      | cons a t => exact (hto a (by rw [hx]; exact List.mem_cons_self)).elim, (name_of_methodNamed B.named B.method).1, trivial⟩ s.heap [] _ (lOK.entry hcat hlen) hR va_S.rf
end Ends8
end
section
/-! throws, catches, copies, least and greatest -/
abbrev nmsE : List String := ["java/lang/RuntimeException", "java/lang/Exception"]
section Rows5
variable {κ : K0} {φ : Fr} {cells slots pc : Nat} {L : List (Option Value)} {st rest : List Value} {μ μ' : Mem} {mr : MR} {mc ms dd n idx : Nat} {as : List Value} {o : Oc} {hh : List (Nat × Nat × Nat × Nat)}
def thrOK (ik ic : Nat) (E : String) : Prop := Bundle.fit E = true ∧ Cond.classLink RX5 ik E ∈ TW ∧ Cond.initialized E ∈ TW ∧ (∀ w ∈ vx_atS RX5 ic E nmsE, w ∈ TW ∨ w ∈ nwL) ∧ ∀ w ∈ vx_atS RX5 ic E nmsE, vx_ot w = true
theorem V_throwS {E text : String} {ik is ic : Nat} (hT : thrOK ik ic E) (hown : mr.1.cls = RX5) (hstr : (is, text) ∈ strL) (hz : μ.2.2.2 = none) (ho : o = .inr E) (hm : μ' = μ) (hc : cells + 1 ≤ mc ∧ slots + 6 ≤ ms) (hr : 5 < dd) (hw : (st.map fun v => v.category).sum ≤ 8)
    (d0 : decode mr.2.1 pc = .ok (.new ik, 3)) (d3 : decode mr.2.1 (pc + 3) = .ok (.dup, 1)) (d4 : decode mr.2.1 (pc + 4) = .ok (.ldc is, 2)) (d6 : decode mr.2.1 (pc + 6) = .ok (.invokespecial ic, 3)) (d9 : decode mr.2.1 (pc + 9) = .ok (.athrow, 1)) : V κ (phi κ mr dd mc ms o μ') cells slots pc L st μ := by
  intro p e s m args below meth c B H locs ls hl hR hS
  obtain ⟨t1, t2, t3, t4, t5⟩ := hT
  have hts := B.2.2.2.2.1
  have hE := B.2.2.2.2.2.2.2.1
  obtain ⟨sa, hsa⟩ := hE.2.2.2.1 _ hstr
  refine vx_throwS (A := kA κ) (names := nmsE) (own := RX5) (text := text) (sa := sa) B.1 B.2.1 hE.1 (by rw [← hown]; exact B.2.2.2.1) t1 (by decide +kernel) (hts _ t2) (hts _ t3) hsa (fun w hw => (t4 w hw).elim (fun h => hts w h) (fun h => va_Nw.use (nw_tab (nwL_form w h)) (hE.2.2.1 w h))) (fun w hw => ?_) hE.2.2.2.2.2.2.2.1 hE.2.2.2.2.2.2.2.2 hS (hl.1.trans B.2.2.1.symm) d0 d3 d4 d6 d9 (fun x hx => ?_) (by show 2 + 3 < dd; omega) (by show _ + (13 * (2 + 1) + 43) ≤ 64 * dd; omega) (by show cells + 1 ≤ mc; exact hc.1) (by show slots + 6 ≤ ms; exact hc.2) B.2.2.2.2.2.2.1 (fun t hA h1 h2 => ⟨⟨ho, by rw [hm]; exact hR.grow hz h2⟩, ⟨Nat.le_trans hS.1 h1, fun q g1 g2 => (h2 q (Nat.lt_of_lt_of_le g1 hS.1)).trans (hS.2.1 q g1 g2)⟩⟩) hS.2.2 hc.1 hc.2
  · rcases List.mem_cons.mp hw with h | h
    · rw [h]; rfl
    · rcases List.mem_cons.mp h with h | h
      · rw [h]; rfl
      · exact t5 w h
  · rw [B.2.2.2.2.2.2.2.2.2.1] at hx
    cases hx
theorem V_throwSW {E text : String} {ik is ic : Nat} (hT : thrOK ik ic E) (hown : mr.1.cls = RX5) (hstr : (is, text) ∈ strL) (hz : μ.2.2.2 = none) (ho : o = .inr E) (hm : μ' = μ) (hc : cells + 1 ≤ mc ∧ slots + 6 ≤ ms) (hr : 5 < dd) (hw : (st.map fun v => v.category).sum ≤ 8)
    (d0 : decode mr.2.1 pc = .ok (.new ik, 3)) (d3 : decode mr.2.1 (pc + 3) = .ok (.dup, 1)) (d4 : decode mr.2.1 (pc + 4) = .ok (.ldc_w is, 3)) (d7 : decode mr.2.1 (pc + 7) = .ok (.invokespecial ic, 3)) (d10 : decode mr.2.1 (pc + 10) = .ok (.athrow, 1)) : V κ (phi κ mr dd mc ms o μ') cells slots pc L st μ := by
  intro p e s m args below meth c B H locs ls hl hR hS
  obtain ⟨t1, t2, t3, t4, t5⟩ := hT
  have hts := B.2.2.2.2.1
  have hE := B.2.2.2.2.2.2.2.1
  obtain ⟨sa, hsa⟩ := hE.2.2.2.1 _ hstr
  refine vx_throwSW (A := kA κ) (names := nmsE) (own := RX5) (text := text) (sa := sa) B.1 B.2.1 hE.1 (by rw [← hown]; exact B.2.2.2.1) t1 (by decide +kernel) (hts _ t2) (hts _ t3) hsa (fun w hw => (t4 w hw).elim (fun h => hts w h) (fun h => va_Nw.use (nw_tab (nwL_form w h)) (hE.2.2.1 w h))) (fun w hw => ?_) hE.2.2.2.2.2.2.2.1 hE.2.2.2.2.2.2.2.2 hS (hl.1.trans B.2.2.1.symm) d0 d3 d4 d7 d10 (fun x hx => ?_) (by show 2 + 3 < dd; omega) (by show _ + (13 * (2 + 1) + 43) ≤ 64 * dd; omega) (by show cells + 1 ≤ mc; exact hc.1) (by show slots + 6 ≤ ms; exact hc.2) B.2.2.2.2.2.2.1 (fun t hA h1 h2 => ⟨⟨ho, by rw [hm]; exact hR.grow hz h2⟩, ⟨Nat.le_trans hS.1 h1, fun q g1 g2 => (h2 q (Nat.lt_of_lt_of_le g1 hS.1)).trans (hS.2.1 q g1 g2)⟩⟩) hS.2.2 hc.1 hc.2
  · rcases List.mem_cons.mp hw with h | h
    · rw [h]; rfl
    · rcases List.mem_cons.mp h with h | h
      · rw [h]; rfl
      · exact t5 w h
  · rw [B.2.2.2.2.2.2.2.2.2.1] at hx
    cases hx
abbrev hEnt (q : Nat × Nat × Nat × Nat) : ExceptionTableEntry := ⟨q.1, q.2.1, q.2.2.1, q.2.2.2⟩
theorem VX_catch {E name : String} (pre : List (Nat × Nat × Nat × Nat)) (x : Nat × Nat × Nat × Nat) (suf : List (Nat × Nat × Nat × Nat)) (hsp : φ.2.2.2.2 = pre ++ x :: suf) (hpass : ∀ z ∈ pre, z.2.2.2 ≠ 0 ∧ ∃ nm : String, Cond.classLink φ.1.1.cls z.2.2.2 nm ∈ TW ∧ (E, nm) ∈ ncL) (hx : covers (hEnt x) pc = true) (h0 : x.2.2.2 ≠ 0) (hlink : Cond.classLink φ.1.1.cls x.2.2.2 name ∈ TW) (hcast : Cond.castable E name ∈ nwL) (k : ∀ q, V κ φ cells slots x.2.2.1 L [.ref q] μ) : VX κ φ cells slots pc L E μ := by
  intro p e s m args below meth c B H locs ls ce q rest hl hR hS h1 h2 h3
  have hts := B.2.2.2.2.1
  refine vx_catch B.2.2.2.1 (pre.map hEnt) (hEnt x) (suf.map hEnt) (by rw [B.2.2.2.2.2.2.2.2.2.1, hsp]; simp [tableOf]) (fun z hz => ?_) hx h0 (hts _ hlink) (va_Nw.use (nw_tab (nwL_form _ hcast)) (B.2.2.2.2.2.2.2.1.2.2.1 _ hcast)) h1 h2 h3 (k q p e s m args below meth c B H locs ls hl hR hS)
  obtain ⟨z0, hz0, rfl⟩ := List.mem_map.mp hz
  obtain ⟨g1, nm, g2, g3⟩ := hpass z0 hz0
  exact Or.inr ⟨g1, nm, hts _ g2, B.2.2.2.2.2.2.2.1.2.2.2.2.1 _ g3⟩
def mCodeH (mr : MR) (hh : List (Nat × Nat × Nat × Nat)) : Cond := .codeWith mr.1 mr.2.1 mr.2.2.1 mr.2.2.2 hh
/-- a contract of a method with handlers -/
def CtH (κ : K0) (mc ms d : Nat) (mr : MR) (hh : List (Nat × Nat × Nat × Nat)) (as : List Value) (μ : Mem) (o : Oc) (μ' : Mem) : Prop :=
  vx_Met κ.1 mr.1 (mCodeH mr hh :: TW) (rmOf d mc ms) (PcOf κ as μ) (QcOf κ o μ') (XcOf κ o μ') mc ms (kA κ)
theorem CtH.of (hy : plainName mr.1.cls = true) (hcat : ∀ v ∈ as, v.category = 1) (hlen : as.length ≤ mr.2.2.1) (k : V κ (phiH κ mr dd mc ms o μ' hh) 0 0 0 (entL as mr.2.2.1) [] μ) : CtH κ mc ms dd mr hh as μ o μ' := by
  refine vx_ofWH (cc := mr.2.1) (maxL := mr.2.2.1) (ret := mr.2.2.2) (hh := hh) hy rfl ?_
  intro p e s m args below meth c s₁ B hml hv
  obtain ⟨rfl, hR, hE, hB⟩ := hv
  have hts := atoms_spec (ws := mCodeH mr hh :: TW) B.pre
  rw [lg_entry_eq]
  exact k p e s m _ below meth c ⟨B.exec, B.bytes, hml, findClass_of_methodNamed B.named, fun w hw => hts w (List.mem_cons_of_mem _ hw), B.returns, B.notSynchronized, hE, hB, vx_table (x := mr.1) B (hts (mCodeH mr hh) List.mem_cons_self), (name_of_methodNamed B.named B.method).1, trivial⟩ s.heap [] _ (lOK.entry hcat hlen) hR va_S.rf
def MRh (mr : MR) (hh : List (Nat × Nat × Nat × Nat)) (n : Nat) : Prop := mCodeH mr hh ∈ TW ∧ Cond.static mr.1 ∈ TW ∧ Cond.initialized mr.1.cls ∈ TW ∧ (mr.1.cls ≠ "java/lang/invoke/MethodHandle" ∧ mr.1.cls ≠ "java/lang/invoke/VarHandle") ∧ (parseMethodDescriptor mr.1.desc).map (fun d => d.parameters.length) = some n ∧ plainName mr.1.cls = true
theorem V_callH {d' : Nat} {v : Option Value} (hc : CtH κ mc ms d' mr hh as μ (.inl v) μ') (hm : MRh mr hh n) (hlink : Cond.methodLink φ.1.1.cls idx mr.1 ∈ TW) (hn : as.length = n) (hst : st = as.reverse ++ rest) (hw : (rest.map fun v => v.category).sum ≤ 8) (hR8 : rmOK φ mr cells slots mc ms d') (d : decode φ.1.2.1 pc = .ok (.invokestatic idx, 3))
    (k : V κ φ (cells + mc) (slots + ms) (pc + 3) L (v.toList ++ rest) μ') : V κ φ cells slots pc L st μ := by
  intro p e s m args below meth c B H locs ls hl hR hS
  obtain ⟨m1, m2, m4, m5, m6, m7⟩ := hm
  have hts := B.2.2.2.2.1
  refine run_go (vx_runSX (y := mr.1) (bytes := mr.2.1) (maxL := mr.2.2.1) (ret := mr.2.2.2) (hh := hh) (As := as) (rest := rest) ⟨B.1, B.2.1, B.2.2.1, B.2.2.2.1, hts⟩ hc (vx_cwSW n hts (GoodIn.cons hlink (GoodIn.cons m2 (GoodIn.cons m4 (TW_good m1)))) rfl rfl rfl ⟨m5.1, m5.2, m6⟩ ⟨hR8.1.1, hR8.1.2⟩) ⟨PcOf.blind _ _ _, fun U hU hW => PcOf.go B.2.2.2.2.2.2.2.1 B.2.2.2.2.2.2.2.2.1 hR hS hU hW⟩ rfl hn hl.1 hst (lv_room hw) d hR8.2) hS (fun v H1 locs1 ho hR1 hS1 => by cases ho; exact k p e s m args below meth c B H1 locs1 ls hl hR1 hS1) (fun E ce q H1 locs1 ho hR1 hS1 h1 h2 h3 => by cases ho)
/-! System.arraycopy -/
def cpyW (own : String) (idx : Nat) : Prop := Cond.methodLink own idx arraycopyName ∈ TW ∧ Cond.native arraycopyName ∈ TW ∧ Cond.static arraycopyName ∈ TW ∧ Cond.initialized "java/lang/System" ∈ TW
theorem V_copyI {a0 a n0 n1 : Nat} {r0 r1 : Nat → Option Nat} {sp dp nn : Int32} (hw : cpyW φ.1.1.cls idx) (hz : μ.2.2.2 = none) (h0 : μ.1 a0 = some (.inl (.int, n0, r0))) (h1 : μ.1 a = some (.inl (.int, n1, r1))) (g1 : ¬ sp < 0) (g2 : ¬ dp < 0) (g3 : ¬ nn < 0) (g4 : sp.toNatClampNeg + nn.toNatClampNeg ≤ n0) (g5 : dp.toNatClampNeg + nn.toNatClampNeg ≤ n1)
    (hf : 1 ≤ φ.2.1.frames) (hlo : (st.map fun v => v.category).sum + (nativeFrameWords "java/lang/System" "arraycopy" 5 + 11) ≤ φ.2.1.locals) (d : decode φ.1.2.1 pc = .ok (.invokestatic idx, 3))
    (k : V κ φ cells slots (pc + 3) L st (μ.1, va_up μ.2.1 a (va_cpy (μ.2.1 a0) (μ.2.1 a) sp.toNatClampNeg dp.toNatClampNeg nn.toNatClampNeg), μ.2.2)) : V κ φ cells slots pc L (.int nn :: .int dp :: .ref a :: .int sp :: .ref a0 :: st) μ := by
  intro p e s m args below meth c B H locs ls hl hR hS
  have hts := B.2.2.2.2.1
  obtain ⟨w1, w2, w3, w4⟩ := hw
  obtain ⟨Ld, h1L, hP, hD, h4⟩ := hR
  have m0 : a0 ∈ Ld := (h1L a0).mpr (by rw [h0]; rfl)
  have m1 : a ∈ Ld := (h1L a).mpr (by rw [h1]; rfl)
  obtain ⟨q0, hq0⟩ := va_pl_get (X := []) (f := cellM κ μ) m0
  obtain ⟨q1, hq1⟩ := va_pl_get (X := []) (f := cellM κ μ) m1
  have e0 : cellM κ μ a0 = .inl (κ.2.2.1 .int, n0, .inl (μ.2.1 a0)) := by unfold cellM; rw [h0]; rfl
  have e1 : cellM κ μ a = .inl (κ.2.2.1 .int, n1, .inl (μ.2.1 a)) := by unfold cellM; rw [h1]; rfl
  rw [e0, List.nil_append] at hq0
  rw [e1, List.nil_append] at hq1
  refine va_copyi B.1 B.2.1 (B.2.2.1.trans hl.1.symm) B.2.2.2.1 (hts _ w1) (hts _ w2) (hts _ w3) (hts _ w4) B.2.2.2.2.2.2.2.1.2.1 hP hD hS q0 q1 0 0 hq0 hq1 rfl rfl rfl g1 g2 g3 g4 g5 (fun i _ => rfl) hf hlo d (fun H1 locs1 hP1 hD1 hS1 => k p e s m args below meth c B H1 locs1 ls hl ?_ hS1)
  refine Rep.put (μ := μ) m1 hD hq1 e1 h1L (e1 := .inl (κ.2.2.1 .int, n1, .inl (va_cpy (μ.2.1 a0) (μ.2.1 a) sp.toNatClampNeg dp.toNatClampNeg nn.toNatClampNeg))) ?_ (fun b hb => cellM_off rfl (va_up_ne _ _ hb) rfl) (fun n hn => by rw [show μ.2.2.2 = none from hz] at hn; cases hn) hP1 hD1
  unfold cellM
  show (match μ.1 a with | some k => _ | none => _) = _
  rw [h1]
  simp only [va_up_self, cellK]
theorem V_copyL {a0 a n0 n1 : Nat} {r0 r1 : Nat → Option Nat} {sp dp nn : Int32} (hw : cpyW φ.1.1.cls idx) (hz : μ.2.2.2 = none) (h0 : μ.1 a0 = some (.inl (.long, n0, r0))) (h1 : μ.1 a = some (.inl (.long, n1, r1))) (g1 : ¬ sp < 0) (g2 : ¬ dp < 0) (g3 : ¬ nn < 0) (g4 : sp.toNatClampNeg + nn.toNatClampNeg ≤ n0) (g5 : dp.toNatClampNeg + nn.toNatClampNeg ≤ n1)
    (hf : 1 ≤ φ.2.1.frames) (hlo : (st.map fun v => v.category).sum + (nativeFrameWords "java/lang/System" "arraycopy" 5 + 11) ≤ φ.2.1.locals) (d : decode φ.1.2.1 pc = .ok (.invokestatic idx, 3))
    (k : V κ φ cells slots (pc + 3) L st (μ.1, μ.2.1, va_up μ.2.2.1 a (va_cpy (μ.2.2.1 a0) (μ.2.2.1 a) sp.toNatClampNeg dp.toNatClampNeg nn.toNatClampNeg), μ.2.2.2)) : V κ φ cells slots pc L (.int nn :: .int dp :: .ref a :: .int sp :: .ref a0 :: st) μ := by
  intro p e s m args below meth c B H locs ls hl hR hS
  have hts := B.2.2.2.2.1
  obtain ⟨w1, w2, w3, w4⟩ := hw
  obtain ⟨Ld, h1L, hP, hD, h4⟩ := hR
  have m0 : a0 ∈ Ld := (h1L a0).mpr (by rw [h0]; rfl)
  have m1 : a ∈ Ld := (h1L a).mpr (by rw [h1]; rfl)
  obtain ⟨q0, hq0⟩ := va_pl_get (X := []) (f := cellM κ μ) m0
  obtain ⟨q1, hq1⟩ := va_pl_get (X := []) (f := cellM κ μ) m1
  have e0 : cellM κ μ a0 = .inl (κ.2.2.1 .long, n0, .inr (.inl (μ.2.2.1 a0))) := by unfold cellM; rw [h0]; rfl
  have e1 : cellM κ μ a = .inl (κ.2.2.1 .long, n1, .inr (.inl (μ.2.2.1 a))) := by unfold cellM; rw [h1]; rfl
  rw [e0, List.nil_append] at hq0
  rw [e1, List.nil_append] at hq1
  refine va_copyl B.1 B.2.1 (B.2.2.1.trans hl.1.symm) B.2.2.2.1 (hts _ w1) (hts _ w2) (hts _ w3) (hts _ w4) B.2.2.2.2.2.2.2.1.2.1 hP hD hS q0 q1 2 2 hq0 hq1 rfl rfl rfl g1 g2 g3 g4 g5 (fun i _ => rfl) hf hlo d (fun H1 locs1 hP1 hD1 hS1 => k p e s m args below meth c B H1 locs1 ls hl ?_ hS1)
  refine Rep.put (μ := μ) m1 hD hq1 e1 h1L (e1 := .inl (κ.2.2.1 .long, n1, .inr (.inl (va_cpy (μ.2.2.1 a0) (μ.2.2.1 a) sp.toNatClampNeg dp.toNatClampNeg nn.toNatClampNeg)))) ?_ (fun b hb => cellM_off rfl rfl (va_up_ne _ _ hb)) (fun n hn => by rw [show μ.2.2.2 = none from hz] at hn; cases hn) hP1 hD1
  unfold cellM
  show (match μ.1 a with | some k => _ | none => _) = _
  rw [h1]
  simp only [va_up_self, cellK]
def minW (own : String) (idx : Nat) : Prop := Cond.methodLink own idx Lib.Math.min.name ∈ TW ∧ Cond.static Lib.Math.min.name ∈ TW ∧ Cond.initialized "java/lang/Math" ∈ TW ∧ Cond.code Lib.Math.min.name Lib.Math.min.code 2 (some .int) ∈ TW
def maxW (own : String) (idx : Nat) : Prop := Cond.methodLink own idx Lib.Math.max.name ∈ TW ∧ Cond.static Lib.Math.max.name ∈ TW ∧ Cond.initialized "java/lang/Math" ∈ TW ∧ Cond.code Lib.Math.max.name Lib.Math.max.code 2 (some .int) ∈ TW
theorem V_min {x y : Int32} (hw : minW φ.1.1.cls idx) (hf : 1 ≤ φ.2.1.frames) (hlo : (st.map fun v => v.category).sum + 13 ≤ φ.2.1.locals) (hc : cells ≤ φ.2.1.cells ∧ slots ≤ φ.2.1.slots) (d : decode φ.1.2.1 pc = .ok (.invokestatic idx, 3)) (k : V κ φ cells slots (pc + 3) L (.int (if y < x then y else x) :: st) μ) : V κ φ cells slots pc L (.int y :: .int x :: st) μ :=
  fun p e s m args below meth c B H locs ls hl hR hS => va_mmin B.1 B.2.1 (B.2.2.1.trans hl.1.symm) B.2.2.2.1 (B.2.2.2.2.1 _ hw.1) (B.2.2.2.2.1 _ hw.2.1) (B.2.2.2.2.1 _ hw.2.2.1) (B.2.2.2.2.1 _ hw.2.2.2) hf hlo hc.1 hc.2 d (k p e s m args below meth c B H locs ls hl hR hS)
theorem V_max {x y : Int32} (hw : maxW φ.1.1.cls idx) (hf : 1 ≤ φ.2.1.frames) (hlo : (st.map fun v => v.category).sum + 13 ≤ φ.2.1.locals) (hc : cells ≤ φ.2.1.cells ∧ slots ≤ φ.2.1.slots) (d : decode φ.1.2.1 pc = .ok (.invokestatic idx, 3)) (k : V κ φ cells slots (pc + 3) L (.int (if x < y then y else x) :: st) μ) : V κ φ cells slots pc L (.int y :: .int x :: st) μ :=
  fun p e s m args below meth c B H locs ls hl hR hS => va_mmax B.1 B.2.1 (B.2.2.1.trans hl.1.symm) B.2.2.2.1 (B.2.2.2.2.1 _ hw.1) (B.2.2.2.2.1 _ hw.2.1) (B.2.2.2.2.1 _ hw.2.2.1) (B.2.2.2.2.1 _ hw.2.2.2) hf hlo hc.1 hc.2 d (k p e s m args below meth c B H locs ls hl hR hS)
end Rows5
end
section
/-! a throw whose constructor links its superclass by another entry (NoSuchElementException): as vx_throwS, over the library's chainSX -/
section VY1
variable {p : Program} {l : Launch} {e : Env} {R : Room} {s : State} {m₀ : MethodId} {args : Array Value} {below : List Frame} {meth : Method} {c : Code} {W : State} {locs : List Loc} {cells slots : Nat}
set_option maxHeartbeats 1000000 in
theorem vy_ctor (X : Stand p l e R s m₀ args below meth c W locs cells slots) (hexec : p.tables.exec = Jvm.exec) (htr : e.platform.stackTraces = false) {own cls : String} {names : List String} {ic ix : Nat} {rx : ByteArray} (x0 : decode rx 0 = .ok (.aload_n 0, 1)) (x1 : decode rx 1 = .ok (.aload_n 1, 1)) (x2 : decode rx 2 = .ok (.invokespecial ix, 3)) (x5 : decode rx 5 = .ok (.return_, 1))
    (hown : s.vm.findClass own = some m₀.cls) (hcls : Bundle.fit cls = true) (hnames : ∀ n ∈ names, Bundle.fit n = true)
    (h : ∀ a ∈ Bundle.ownAtomsX own ic cls ix rx names, a.before args s = true)
    (hlocs : ∀ x ∈ locs, ∀ cell, s.heap[x.base]? = some cell → cell.vm.isStatics = false)
    {a : Addr} {cX : ClassId} {kX : Class} (hfoundX : s.vm.findClass cls = some cX) (hkX : s.vm.classes[cX]? = some kX) (hcell : W.heap[a]? = some (freshCell cX kX)) (hnew : s.heap.size ≤ a)
    {msg : Value} (hmsg : msg.isRef = true)
    {g : JFrame} (hg : g.method = m₀) (hsize : g.locals.size = c.maxLocals) (hlocked : g.locked = none) (hentered : g.entered = []) {rest : List Value} (hstack : g.stack = msg :: .ref a :: .ref a :: rest)
    (hd6 : decode c.code g.pc = .ok (.invokespecial ic, 3)) (hd9 : decode c.code (g.pc + 3) = .ok (.athrow, 1)) (hout : ∀ x ∈ c.exceptionTable.toList, covers x (g.pc + 3) = false)
    (hRframes : names.length + 3 < R.frames) (hRlocals : 2 * g.monitorRoom + ((Value.ref a :: rest).map fun v => v.category).sum + (13 * (names.length + 1) + 42) ≤ R.locals) (hlocks : meth.locks = false := by first | assumption | exact BodyLoose.notSynchronized (by assumption) | exact Body.notSynchronized (by assumption)) :
    ∃ U : State, Steps p.tables e below (W.setTop g) U ∧ U.status = .running ∧ Ended U below (.threw a) ∧ s.WarmedH U.vm ∧ s.sameButNew ({ U with vm := s.vm } : State) locs cells slots ∧
      ∃ ce, U.heap[a]? = some ce ∧ ce.vm = .none ∧ s.vm.findClass cls = some ce.cls := by
  have howns : e.platform.frameOwnsMonitors = true := by rw [X.admits.platform]
  have hfin : e.platform.finalization = false := by rw [X.admits.platform]
  have hpl : e.platform.magicAccessors = ({} : Platform).magicAccessors := by rw [X.admits.platform]
  have a' : ∀ x, x ∈ Bundle.ownAtomsX own ic cls ix rx names → x.holds args s none s [] = true := fun x hx => h x hx
  obtain ⟨T, Z0, L, -, Y⟩ := ThrowableC.of_atoms (args := args) howns hfin hpl (fun x hx => h x (by simp [Bundle.ownAtomsX, hx]))
  obtain ⟨Z, M, LZ, LM, hnZ⟩ := Init0T.ofS_atoms (args := args) hpl L Y (fun x hx => h x (by simp [Bundle.ownAtomsX, hx]))
  obtain ⟨P1, Ps, hlen, L1, hL, hP1m, hlink1, hlink⟩ := Bundle.chainSX (args := args) hpl hnZ x0 x1 x2 x5 names cls hcls hnames (fun x hx => h x (by simp [Bundle.ownAtomsX, hx]))
  have hfound : s.vm.findClass cls = some P1.m.cls := findClass_of_methodNamed hP1m
  cases Option.some.inj (hfoundX.symm.trans hfound)
  obtain ⟨c1, kX', hc1, hk, hord, -, -, hn6⟩ := Cond.instantiable_spec (a' (.instantiable cls 6) (by simp [Bundle.ownAtomsX]))
  cases Option.some.inj (hc1.symm.trans hfound)
  cases Option.some.inj (hkX.symm.trans hk)
  have hsel0 : selectMethod e.platform s.vm P1.m.cls T.fill0 = .method T.fill0 := by
    obtain ⟨c2, r2, m2, q1, q2, q3, q4, -⟩ := Cond.selects_spec (a' (.selects cls Bundle.tFill0 Bundle.tFill0) (by simp [Bundle.ownAtomsX]))
    cases Option.some.inj (q1.symm.trans hfound)
    cases Option.some.inj (q2.symm.trans (State.methodFound?_of_named Y.fill0 (by decide)))
    cases Option.some.inj (q3.symm.trans Y.fill0)
    rw [Launch.admits_selectMethod X.admits]; exact q4
  have hselF : selectMethod e.platform s.vm P1.m.cls T.fill = .method T.fill := by
    obtain ⟨c2, r2, m2, q1, q2, q3, q4, -⟩ := Cond.selects_spec (a' (.selects cls Bundle.tFill Bundle.tFill) (by simp [Bundle.ownAtomsX]))
    cases Option.some.inj (q1.symm.trans hfound)
    cases Option.some.inj (q2.symm.trans (State.methodFound?_of_named Y.fill (by decide)))
    cases Option.some.inj (q3.symm.trans Y.fill)
    rw [Launch.admits_selectMethod X.admits]; exact q4
  obtain ⟨cellS0, hcS0, hiss⟩ := Y.statics
  obtain ⟨u0, hu0⟩ := Cond.staticRefV Y.unassigned L.unassignedStatic L.statics hcS0 hiss (a' (.isRef (.static Bundle.tN "UNASSIGNED_STACK" Bundle.steD)) (by simp [Bundle.ownAtomsX]))
  obtain ⟨sen, hsen⟩ := Cond.staticRefV Y.sentinel L.sentinelStatic L.statics hcS0 hiss (a' (.isRef (.static Bundle.tN "SUPPRESSED_SENTINEL" Bundle.listD)) (by simp [Bundle.ownAtomsX]))
  obtain ⟨ci198, i198, fB, hk198, hg198, ha198, hsB, -, hnB, htB, hffB⟩ := Cond.ownField (t := .object "java/lang/Object") Y.found L.cls (by decide +kernel) (a' (.fieldLink Bundle.tN 198 Bundle.tN "backtrace" "Ljava/lang/Object;") (by simp [Bundle.ownAtomsX])) (a' (.lays Bundle.tN Bundle.tN "backtrace" "Ljava/lang/Object;") (by simp [Bundle.ownAtomsX])) e.platform hpl
  obtain ⟨cellS, hcS', heS, -, hkeep⟩ := X.same.2.2.2.2.2 T.aS cellS0 hcS0
  have hcellS : W.heap[T.aS]? = some cellS := hcS'
  have hout' : ∀ i, (⟨T.aS, i⟩ : Loc) ∉ locs := fun i hmem => by
    have := hlocs _ hmem cellS0 hcS0
    rw [hiss] at this; cases this
  have hknownS : cellS.vm ≠ .unknown := by
    rw [heS]; intro hu
    rw [show cellS0.vm = .unknown from hu] at hiss
    cases hiss
  have hneS : T.aS ≠ a := Nat.ne_of_lt (Nat.lt_of_lt_of_le (Array.getElem?_eq_some_iff.mp hcS0).1 hnew)
  obtain ⟨iM, hffM⟩ := Y.msg
  obtain ⟨tyC, dC, hdC, hdnC⟩ := Cond.laysAt hfound hk Y.cause (a' (.lays cls Bundle.tN "cause" "Ljava/lang/Throwable;") (by simp [Bundle.ownAtomsX]))
  obtain ⟨tyS, dS, hdS, hdnS⟩ := Cond.laysAt hfound hk Y.stack (a' (.lays cls Bundle.tN "stackTrace" Bundle.steD) (by simp [Bundle.ownAtomsX]))
  obtain ⟨tyP, dP, hdP, hdnP⟩ := Cond.laysAt hfound hk Y.supp (a' (.lays cls Bundle.tN "suppressedExceptions" Bundle.listD) (by simp [Bundle.ownAtomsX]))
  obtain ⟨tyM, dM, hdM, hdnM⟩ := Cond.laysAt hfound hk hffM (a' (.lays cls Bundle.tN "detailMessage" "Ljava/lang/String;") (by simp [Bundle.ownAtomsX]))
  obtain ⟨tyB, dB, hdB, hdnB⟩ := Cond.laysAt hfound hk hffB (a' (.lays cls Bundle.tN "backtrace" "Ljava/lang/Object;") (by simp [Bundle.ownAtomsX]))
  have bC := Cond.laysApart hdB hdC hdnB hdnC (by rw [hnB, Y.causeName]; decide)
  have bS := Cond.laysApart hdB hdS hdnB hdnS (by rw [hnB, Y.stackName]; decide)
  have bP := Cond.laysApart hdB hdP hdnB hdnP (by rw [hnB, Y.suppName]; decide)
  have hskip : SkipFacts T e.platform s (fun u => u) u0 ((preparedCellV T.toThrowableT (freshCell P1.m.cls kX) a u0 sen).withEntry W.cur) :=
    ⟨{ ci198 := ci198, i198 := i198, fBack := fB }, ⟨hk198, hg198, ha198, hsB⟩, by
      have := fresh_default (c := P1.m.cls) tyB
      rw [htB] at this
      simpa [preparedCellV, Cell.setSlot, Cell.withEntry, Array.getElem?_setIfInBounds, bC, bS, bP, bC.symm, bS.symm, bP.symm, defaultValue] using this, fun _ _ => rfl⟩
  obtain ⟨tm, methC, cdC, kC, vm₁, hnC, -, -, -, -, -, -, -, hW₁, st1⟩ := Steps.initColdS (tb := p.tables) (e := e) (below := below) (s := s) (U := W) X.here hexec X.warmed hpl hown (t := Bundle.initS cls) rfl rfl (Bundle.fit_spec hcls).2
    (a' (.methodLink own ic (Bundle.initS cls)) (by simp [Bundle.ownAtomsX])) (h (.instanceMethod (Bundle.initS cls)) (by cases names <;> simp [Bundle.ownAtomsX, Bundle.chainSAtomsX, Bundle.passSAtoms])) (bytes := rx) (maxL := 2) (h (.code (Bundle.initS cls) rx 2 none) (by cases names <;> simp [Bundle.ownAtomsX, Bundle.chainSAtomsX, Bundle.passSAtoms]))
    (f := g) hg (a := a) (msg := msg) (rest := .ref a :: rest) hstack hd6
  cases Option.some.inj (hnC.symm.trans hP1m)
  have X₁ := X.noted hW₁
  obtain ⟨vm₂, X₂, st2⟩ := X₁.ctorMessageOffV hexec (g := { g with stack := .ref a :: rest }) hg hsize T L Z LZ M LM (P1 :: Ps)
    (fun P hP => by rcases List.mem_cons.mp hP with rfl | hP; exact L1; exact hL P hP) ⟨hlink1, hlink⟩ (u0 := u0) (sen := sen) (self := a) hmsg (cell := freshCell P1.m.cls kX) (cellS := cellS)
    hcell (fun _ => by simp) (by simp) rfl rfl hsel0 hselF hcellS hneS hknownS (by rw [hkeep _ (hout' _)]; exact hu0) (by rw [hkeep _ (hout' _)]; exact hsen)
    (Takes.of_laid hk hord tyC (by rw [Y.causeType]; rfl)) (Takes.of_laid hk hord tyS (by rw [Y.stackType]; exact fits_refV_array _ u0)) (Takes.of_laid hk hord tyP (by rw [Y.suppType]; exact fits_refV_object _ sen))
    (Takes.of_laid hk hord tyM (by rw [Y.msgType]; exact fits_refV_object _ ⟨msg, hmsg⟩)) Y.objLocals hskip htr [] hd6
    (by simp only [List.length_cons, hlen]; omega) (by simp only [List.length_cons, hlen]; exact hRlocals)
  obtain ⟨hwalk, hrun, hended, hWU, hsame⟩ := X₂.athrowLeaves hexec (g := { g with stack := .ref a :: rest, pc := g.pc + 3 }) hg hlocked hentered hout (a := a) (rest := rest) rfl hd9
  obtain ⟨c3, c4, hc3, hc4, hasg⟩ := Cond.castable_spec (a' (.castable cls cls) (by simp [Bundle.ownAtomsX]))
  cases Option.some.inj (hc3.symm.trans hfound)
  cases Option.some.inj (hc4.symm.trans hfound)
  have hlt : a < ((W.setVm vm₁).setVm vm₂).heap.size := (Array.getElem?_eq_some_iff.mp hcell).1
  have hU := heapAt_setCell_self (s := (W.setVm vm₁).setVm vm₂) (plainBareV T.toThrowableT (freshCell P1.m.cls kX) a u0 sen msg) hlt
  refine ⟨_, st1 _ (fun acts => ?_), hrun, hended, hWU, hsame.weaken (fun y hy hlt' => ?_) (Nat.le_refl _) (Nat.le_refl _), _, hU, ?_⟩
  · rw [doInvoke_state]
    exact st2 _ hwalk
  · rcases List.mem_append.mp hy with h1 | h1
    · exact h1
    · exfalso
      have hb : y.base = a := by
        simp only [List.mem_cons, List.not_mem_nil, or_false] at h1
        rcases h1 with rfl | rfl | rfl | rfl | rfl <;> rfl
      rw [hb] at hlt'
      exact Nat.not_lt.mpr hnew hlt'
  · exact ⟨rfl, hfound⟩
end VY1
def vy_atS (own : String) (ic : Nat) (X : String) (ix : Nat) (rx : ByteArray) (names : List String) : List Cond := (Bundle.ownAtomsX own ic X ix rx names).filter vx_no
section VY2
variable {p : Program} {l : Launch} {e : Env} {R : Room} {s : State} {m : MethodId} {args : Array Value} {below : List Frame} {meth : Method} {c : Code} {H : Heap} {locs : List Loc} {cells slots : Nat} {Q : State → Prop}
variable {mc ms : Nat} {free : Addr → Prop} {A0 A1 : Nat → Prop} {H0 : Heap} {a : Array Value} {ls : Array Slot} {st0 rest : List Value}
variable {Qc : Array Value → State → Outcome → State → Prop} {XC : String → State → State → Prop}
theorem vy_throwS {cc : ByteArray} {pc : Nat} (hexec : p.tables.exec = Jvm.exec) (hb : c.code = cc) (hl : l.stackTraces = false) {own cls text : String} {names : List String} {ik is ic ix mc ms sa : Nat} {rx : ByteArray} (x0 : decode rx 0 = .ok (.aload_n 0, 1)) (x1 : decode rx 1 = .ok (.aload_n 1, 1)) (x2 : decode rx 2 = .ok (.invokespecial ix, 3)) (x5 : decode rx 5 = .ok (.return_, 1)) {A : Nat → Prop}
    (hown : s.vm.findClass own = some m.cls) (hcls : Bundle.fit cls = true) (hnames : ∀ n ∈ names, Bundle.fit n = true)
    (hk : (Cond.classLink own ik cls).before args s = true) (hini : (Cond.initialized cls).before args s = true) (hstr : vk_R own is text sa s) (hat : ∀ w ∈ vy_atS own ic cls ix rx names, w.before args s = true)
    (hgood : ∀ w ∈ Cond.classLink own ik cls :: Cond.initialized cls :: vy_atS own ic cls ix rx names, vx_ot w = true)
    (hU : vx_Zq Bundle.tN "UNASSIGNED_STACK" Bundle.steD A s s.heap) (hN : vx_Zq Bundle.tN "SUPPRESSED_SENTINEL" Bundle.listD A s s.heap) (hS : va_S A s.heap H locs) (hsize : ls.size = c.maxLocals)
    (d0 : decode cc pc = .ok (.new ik, 3)) (d3 : decode cc (pc + 3) = .ok (.dup, 1)) (d4 : decode cc (pc + 4) = .ok (.ldc is, 2)) (d6 : decode cc (pc + 6) = .ok (.invokespecial ic, 3)) (d9 : decode cc (pc + 9) = .ok (.athrow, 1))
    (hout : ∀ x ∈ c.exceptionTable.toList, covers x (pc + 9) = false)
    (hRframes : names.length + 3 < R.frames) (hRlocals : (rest.map fun v => v.category).sum + (13 * (names.length + 1) + 43) ≤ R.locals) (hRcells : cells + 1 ≤ R.cells) (hRslots : slots + 6 ≤ R.slots) (hlocks : meth.locks = false)
    (hx : ∀ t : State, s.vm.Alike t.vm → H.size ≤ t.heap.size → (∀ q : Nat, q < H.size → t.heap[q]? = H[q]?) → XC cls s t)
    (hf : ∀ z ∈ locs, free z.base) (hc : cells + 1 ≤ mc) (hs : slots + 6 ≤ ms) :
    W p l e R s m args below meth c H locs cells slots (vx_MQ below Qc XC args s mc ms free) (F0 m pc ls rest) := by
  intro T hT X
  have htr : e.platform.stackTraces = false := (show e.platform.stackTraces = l.stackTraces by rw [X.admits.platform]).trans hl
  have Y := vx_rebase X (R' := { frames := R.frames, locals := R.locals, cells := 1, slots := 6 }) (Nat.le_refl _) (Nat.le_refl _) hRcells hRslots
  obtain ⟨s', hA⟩ : ∃ z, z = (T.setVm s.vm).setFrames (.invoking m args :: below) := ⟨_, rfl⟩
  rw [← hA] at Y
  have hvm : s'.vm = s.vm := by rw [hA]; rfl
  have hhp : s'.heap = H := by rw [hA]; exact hT
  have hW0 : s.WarmedH s'.vm := by rw [hvm]; exact State.WarmedH.refl s
  have hat' : ∀ w ∈ vy_atS own ic cls ix rx names, w.before args s' = true := fun w hw => vx_ot_at hW0 hvm.symm (hgood w (List.mem_cons_of_mem _ (List.mem_cons_of_mem _ hw))) (hat w hw)
  have hk' : (Cond.classLink own ik cls).before args s' = true := vx_ot_at hW0 hvm.symm (hgood _ List.mem_cons_self) hk
  have hini' : (Cond.initialized cls).before args s' = true := vx_ot_at hW0 hvm.symm (hgood _ (List.mem_cons_of_mem _ List.mem_cons_self)) hini
  have hU' : vx_Zq Bundle.tN "UNASSIGNED_STACK" Bundle.steD A s' s'.heap := by rw [hhp]; exact vx_Zq.moved hW0.alike (hU.kept hS.2.1)
  have hN' : vx_Zq Bundle.tN "SUPPRESSED_SENTINEL" Bundle.listD A s' s'.heap := by rw [hhp]; exact vx_Zq.moved hW0.alike (hN.kept hS.2.1)
  have h : ∀ w ∈ Bundle.ownAtomsX own ic cls ix rx names, w.before args s' = true := vx_own hat' (vx_isRefq hU'.1) (vx_isRefq hN'.1) hU'.2.word hN'.2.word
  have hown' : s'.vm.findClass own = some m.cls := by rw [hvm]; exact hown
  have hins : (Cond.instantiable cls 6).before args s' = true := h _ (by simp [Bundle.ownAtomsX])
  obtain ⟨vm₁, cX, kX, hfX, hkX, -, -, X₁, st1⟩ := Y.newCold hexec (own := own) (C := cls) (index := ik) (n := 6) hown' hk' hins hini'
    (g := F0 m pc ls rest) rfl (by rw [hb]; exact d0) (Nat.le_refl _) (Nat.le_refl _)
  generalize hT1 : (T.setVm vm₁).pushCell { cls := cX, slots := kX.instanceTypes.map defaultValue, vm := .none } = T1 at X₁ st1
  have hcat : (Value.ref T.heap.size).category = 1 := rfl
  have hcellA : T1.heap[T.heap.size]? = some (freshCell cX kX) := by rw [← hT1]; exact State.heap_pushCell_size _ _
  have d3' : decode c.code (pc + 3) = .ok (.dup, 1) := by rw [hb]; exact d3
  have d4' : decode c.code (pc + 4) = .ok (.ldc is, 2) := by rw [hb]; exact d4
  have hstr' : vk_R own is text sa s' := vk_R.warm hW0 hstr
  obtain ⟨U, hsteps, hrun, hend, hW, hsame, ce, hce, hOv, hOc⟩ := vy_ctor X₁ hexec htr x0 x1 x2 x5 (own := own) (cls := cls) (names := names) (ic := ic) hown' hcls hnames h (fun x hx => nomatch hx) hfX hkX hcellA (by rw [hhp, hT]; exact Nat.le_refl _) (msg := .ref sa) rfl
    (g := { method := m, pc := pc + 6, locals := ls, stack := .ref sa :: .ref T.heap.size :: .ref T.heap.size :: rest, locked := none }) rfl hsize rfl rfl (rest := rest) rfl
    (by rw [hb]; exact d6) (by rw [hb]; exact d9) hout hRframes (by simp only [List.map_cons, List.sum_cons, hcat]; omega) hlocks
  obtain ⟨f1, f2⟩ := vx_frame hsame
  rw [hhp] at f1 f2
  have hWs : s.WarmedH U.vm := State.WarmedH.trans hW0 hW
  have hcl : s.vm.findClass cls = some ce.cls := by
    have h9 := hOc
    rw [hvm] at h9
    exact h9
  have hall : s.sameButNew ({ U with vm := s.vm } : State) locs mc ms := by
    subst hA
    obtain ⟨e1, e2⟩ := hsame
    rw [State.setFrames_setFrames] at e1
    have h2 : (T.setVm s.vm).sameButNew ({ U with vm := s.vm } : State) [] (0 + 1) (0 + 6) := ⟨e1, e2⟩
    have h3 := X.same.trans h2
    rw [List.append_nil] at h3
    exact h3.mono hc hs
  refine ⟨U, ?_, .threw T.heap.size, hrun, hend, Or.inr ⟨T.heap.size, rfl, cls, ce, locs, hx U hWs.alike f1 (fun q hq => f2 q hq (fun z hz => nomatch hz)), hce, hOv, hcl, hWs, hall, hf⟩⟩
  refine st1 _ ?_
  show Steps p.tables e below (T1.setTop { method := m, pc := pc + 3, locals := ls, stack := .ref T.heap.size :: rest, locked := none }) _
  jvm_step X₁.here [X₁.here.top, hexec, d3', Value.category]
  exact X₁.ldcString hexec (own := own) (text := text) (index := is) (a := sa) hown' hstr'.1 hstr'.2
    (g := { method := m, pc := pc + 4, locals := ls, stack := .ref T.heap.size :: .ref T.heap.size :: rest, locked := none }) rfl d4' _ hsteps

theorem vy_throwSW {cc : ByteArray} {pc : Nat} (hexec : p.tables.exec = Jvm.exec) (hb : c.code = cc) (hl : l.stackTraces = false) {own cls text : String} {names : List String} {ik is ic ix mc ms sa : Nat} {rx : ByteArray} (x0 : decode rx 0 = .ok (.aload_n 0, 1)) (x1 : decode rx 1 = .ok (.aload_n 1, 1)) (x2 : decode rx 2 = .ok (.invokespecial ix, 3)) (x5 : decode rx 5 = .ok (.return_, 1)) {A : Nat → Prop}
    (hown : s.vm.findClass own = some m.cls) (hcls : Bundle.fit cls = true) (hnames : ∀ n ∈ names, Bundle.fit n = true)
    (hk : (Cond.classLink own ik cls).before args s = true) (hini : (Cond.initialized cls).before args s = true) (hstr : vk_R own is text sa s) (hat : ∀ w ∈ vy_atS own ic cls ix rx names, w.before args s = true)
    (hgood : ∀ w ∈ Cond.classLink own ik cls :: Cond.initialized cls :: vy_atS own ic cls ix rx names, vx_ot w = true)
    (hU : vx_Zq Bundle.tN "UNASSIGNED_STACK" Bundle.steD A s s.heap) (hN : vx_Zq Bundle.tN "SUPPRESSED_SENTINEL" Bundle.listD A s s.heap) (hS : va_S A s.heap H locs) (hsize : ls.size = c.maxLocals)
    (d0 : decode cc pc = .ok (.new ik, 3)) (d3 : decode cc (pc + 3) = .ok (.dup, 1)) (d4 : decode cc (pc + 4) = .ok (.ldc_w is, 3)) (d7 : decode cc (pc + 7) = .ok (.invokespecial ic, 3)) (d10 : decode cc (pc + 10) = .ok (.athrow, 1))
    (hout : ∀ x ∈ c.exceptionTable.toList, covers x (pc + 10) = false)
    (hRframes : names.length + 3 < R.frames) (hRlocals : (rest.map fun v => v.category).sum + (13 * (names.length + 1) + 43) ≤ R.locals) (hRcells : cells + 1 ≤ R.cells) (hRslots : slots + 6 ≤ R.slots) (hlocks : meth.locks = false)
    (hx : ∀ t : State, s.vm.Alike t.vm → H.size ≤ t.heap.size → (∀ q : Nat, q < H.size → t.heap[q]? = H[q]?) → XC cls s t)
    (hf : ∀ z ∈ locs, free z.base) (hc : cells + 1 ≤ mc) (hs : slots + 6 ≤ ms) :
    W p l e R s m args below meth c H locs cells slots (vx_MQ below Qc XC args s mc ms free) (F0 m pc ls rest) := by
  intro T hT X
  have htr : e.platform.stackTraces = false := (show e.platform.stackTraces = l.stackTraces by rw [X.admits.platform]).trans hl
  have Y := vx_rebase X (R' := { frames := R.frames, locals := R.locals, cells := 1, slots := 6 }) (Nat.le_refl _) (Nat.le_refl _) hRcells hRslots
  obtain ⟨s', hA⟩ : ∃ z, z = (T.setVm s.vm).setFrames (.invoking m args :: below) := ⟨_, rfl⟩
  rw [← hA] at Y
  have hvm : s'.vm = s.vm := by rw [hA]; rfl
  have hhp : s'.heap = H := by rw [hA]; exact hT
  have hW0 : s.WarmedH s'.vm := by rw [hvm]; exact State.WarmedH.refl s
  have hat' : ∀ w ∈ vy_atS own ic cls ix rx names, w.before args s' = true := fun w hw => vx_ot_at hW0 hvm.symm (hgood w (List.mem_cons_of_mem _ (List.mem_cons_of_mem _ hw))) (hat w hw)
  have hk' : (Cond.classLink own ik cls).before args s' = true := vx_ot_at hW0 hvm.symm (hgood _ List.mem_cons_self) hk
  have hini' : (Cond.initialized cls).before args s' = true := vx_ot_at hW0 hvm.symm (hgood _ (List.mem_cons_of_mem _ List.mem_cons_self)) hini
  have hU' : vx_Zq Bundle.tN "UNASSIGNED_STACK" Bundle.steD A s' s'.heap := by rw [hhp]; exact vx_Zq.moved hW0.alike (hU.kept hS.2.1)
  have hN' : vx_Zq Bundle.tN "SUPPRESSED_SENTINEL" Bundle.listD A s' s'.heap := by rw [hhp]; exact vx_Zq.moved hW0.alike (hN.kept hS.2.1)
  have h : ∀ w ∈ Bundle.ownAtomsX own ic cls ix rx names, w.before args s' = true := vx_own hat' (vx_isRefq hU'.1) (vx_isRefq hN'.1) hU'.2.word hN'.2.word
  have hown' : s'.vm.findClass own = some m.cls := by rw [hvm]; exact hown
  have hins : (Cond.instantiable cls 6).before args s' = true := h _ (by simp [Bundle.ownAtomsX])
  obtain ⟨vm₁, cX, kX, hfX, hkX, -, -, X₁, st1⟩ := Y.newCold hexec (own := own) (C := cls) (index := ik) (n := 6) hown' hk' hins hini'
    (g := F0 m pc ls rest) rfl (by rw [hb]; exact d0) (Nat.le_refl _) (Nat.le_refl _)
  generalize hT1 : (T.setVm vm₁).pushCell { cls := cX, slots := kX.instanceTypes.map defaultValue, vm := .none } = T1 at X₁ st1
  have hcat : (Value.ref T.heap.size).category = 1 := rfl
  have hcellA : T1.heap[T.heap.size]? = some (freshCell cX kX) := by rw [← hT1]; exact State.heap_pushCell_size _ _
  have d3' : decode c.code (pc + 3) = .ok (.dup, 1) := by rw [hb]; exact d3
  have d4' : decode c.code (pc + 4) = .ok (.ldc_w is, 3) := by rw [hb]; exact d4
  have hstr' : vk_R own is text sa s' := vk_R.warm hW0 hstr
  obtain ⟨U, hsteps, hrun, hend, hW, hsame, ce, hce, hOv, hOc⟩ := vy_ctor X₁ hexec htr x0 x1 x2 x5 (own := own) (cls := cls) (names := names) (ic := ic) hown' hcls hnames h (fun x hx => nomatch hx) hfX hkX hcellA (by rw [hhp, hT]; exact Nat.le_refl _) (msg := .ref sa) rfl
    (g := { method := m, pc := pc + 7, locals := ls, stack := .ref sa :: .ref T.heap.size :: .ref T.heap.size :: rest, locked := none }) rfl hsize rfl rfl (rest := rest) rfl
    (by rw [hb]; exact d7) (by rw [hb]; exact d10) hout hRframes (by simp only [List.map_cons, List.sum_cons, hcat]; omega) hlocks
  obtain ⟨f1, f2⟩ := vx_frame hsame
  rw [hhp] at f1 f2
  have hWs : s.WarmedH U.vm := State.WarmedH.trans hW0 hW
  have hcl : s.vm.findClass cls = some ce.cls := by
    have h9 := hOc
    rw [hvm] at h9
    exact h9
  have hall : s.sameButNew ({ U with vm := s.vm } : State) locs mc ms := by
    subst hA
    obtain ⟨e1, e2⟩ := hsame
    rw [State.setFrames_setFrames] at e1
    have h2 : (T.setVm s.vm).sameButNew ({ U with vm := s.vm } : State) [] (0 + 1) (0 + 6) := ⟨e1, e2⟩
    have h3 := X.same.trans h2
    rw [List.append_nil] at h3
    exact h3.mono hc hs
  refine ⟨U, ?_, .threw T.heap.size, hrun, hend, Or.inr ⟨T.heap.size, rfl, cls, ce, locs, hx U hWs.alike f1 (fun q hq => f2 q hq (fun z hz => nomatch hz)), hce, hOv, hcl, hWs, hall, hf⟩⟩
  refine st1 _ ?_
  show Steps p.tables e below (T1.setTop { method := m, pc := pc + 3, locals := ls, stack := .ref T.heap.size :: rest, locked := none }) _
  jvm_step X₁.here [X₁.here.top, hexec, d3', Value.category]
  exact X₁.ldcStringW hexec (own := own) (text := text) (index := is) (a := sa) hown' hstr'.1 hstr'.2
    (g := { method := m, pc := pc + 4, locals := ls, stack := .ref T.heap.size :: .ref T.heap.size :: rest, locked := none }) rfl d4' _ hsteps

end VY2
section VY3
variable {κ : K0} {φ : Fr} {cells slots pc : Nat} {L : List (Option Value)} {st rest : List Value} {μ μ' : Mem} {mr : MR} {mc ms dd n idx : Nat} {as : List Value} {o : Oc} {hh : List (Nat × Nat × Nat × Nat)}
def thrOKX (ik ic : Nat) (E : String) (ix : Nat) (rx : ByteArray) : Prop := Bundle.fit E = true ∧ Cond.classLink RX5 ik E ∈ TW ∧ Cond.initialized E ∈ TW ∧ (∀ w ∈ vy_atS RX5 ic E ix rx nmsE, w ∈ TW ∨ w ∈ nwL) ∧ ∀ w ∈ vy_atS RX5 ic E ix rx nmsE, vx_ot w = true
theorem V_throwX {E text : String} {ik is ic ix : Nat} {rx : ByteArray} (x0 : decode rx 0 = .ok (.aload_n 0, 1)) (x1 : decode rx 1 = .ok (.aload_n 1, 1)) (x2 : decode rx 2 = .ok (.invokespecial ix, 3)) (x5 : decode rx 5 = .ok (.return_, 1)) (hT : thrOKX ik ic E ix rx) (hown : mr.1.cls = RX5) (hstr : (is, text) ∈ strL) (hz : μ.2.2.2 = none) (ho : o = .inr E) (hm : μ' = μ) (hc : cells + 1 ≤ mc ∧ slots + 6 ≤ ms) (hr : 5 < dd) (hw : (st.map fun v => v.category).sum ≤ 8)
    (d0 : decode mr.2.1 pc = .ok (.new ik, 3)) (d3 : decode mr.2.1 (pc + 3) = .ok (.dup, 1)) (d4 : decode mr.2.1 (pc + 4) = .ok (.ldc is, 2)) (d6 : decode mr.2.1 (pc + 6) = .ok (.invokespecial ic, 3)) (d9 : decode mr.2.1 (pc + 9) = .ok (.athrow, 1)) : V κ (phi κ mr dd mc ms o μ') cells slots pc L st μ := by
  intro p e s m args below meth c B H locs ls hl hR hS
  obtain ⟨t1, t2, t3, t4, t5⟩ := hT
  have hts := B.2.2.2.2.1
  have hE := B.2.2.2.2.2.2.2.1
  obtain ⟨sa, hsa⟩ := hE.2.2.2.1 _ hstr
  refine vy_throwS (A := kA κ) (names := nmsE) (own := RX5) (text := text) (sa := sa) (x0 := x0) (x1 := x1) (x2 := x2) (x5 := x5) B.1 B.2.1 hE.1 (by rw [← hown]; exact B.2.2.2.1) t1 (by decide +kernel) (hts _ t2) (hts _ t3) hsa (fun w hw => (t4 w hw).elim (fun h => hts w h) (fun h => va_Nw.use (nw_tab (nwL_form w h)) (hE.2.2.1 w h))) (fun w hw => ?_) hE.2.2.2.2.2.2.2.1 hE.2.2.2.2.2.2.2.2 hS (hl.1.trans B.2.2.1.symm) d0 d3 d4 d6 d9 (fun x hx => ?_) (by show 2 + 3 < dd; omega) (by show _ + (13 * (2 + 1) + 43) ≤ 64 * dd; omega) (by show cells + 1 ≤ mc; exact hc.1) (by show slots + 6 ≤ ms; exact hc.2) B.2.2.2.2.2.2.1 (fun t hA h1 h2 => ⟨⟨ho, by rw [hm]; exact hR.grow hz h2⟩, ⟨Nat.le_trans hS.1 h1, fun q g1 g2 => (h2 q (Nat.lt_of_lt_of_le g1 hS.1)).trans (hS.2.1 q g1 g2)⟩⟩) hS.2.2 hc.1 hc.2
  · rcases List.mem_cons.mp hw with h | h
    · rw [h]; rfl
    · rcases List.mem_cons.mp h with h | h
      · rw [h]; rfl
      · exact t5 w h
  · rw [B.2.2.2.2.2.2.2.2.2.1] at hx
    cases hx
theorem V_throwXW {E text : String} {ik is ic ix : Nat} {rx : ByteArray} (x0 : decode rx 0 = .ok (.aload_n 0, 1)) (x1 : decode rx 1 = .ok (.aload_n 1, 1)) (x2 : decode rx 2 = .ok (.invokespecial ix, 3)) (x5 : decode rx 5 = .ok (.return_, 1)) (hT : thrOKX ik ic E ix rx) (hown : mr.1.cls = RX5) (hstr : (is, text) ∈ strL) (hz : μ.2.2.2 = none) (ho : o = .inr E) (hm : μ' = μ) (hc : cells + 1 ≤ mc ∧ slots + 6 ≤ ms) (hr : 5 < dd) (hw : (st.map fun v => v.category).sum ≤ 8)
    (d0 : decode mr.2.1 pc = .ok (.new ik, 3)) (d3 : decode mr.2.1 (pc + 3) = .ok (.dup, 1)) (d4 : decode mr.2.1 (pc + 4) = .ok (.ldc_w is, 3)) (d7 : decode mr.2.1 (pc + 7) = .ok (.invokespecial ic, 3)) (d10 : decode mr.2.1 (pc + 10) = .ok (.athrow, 1)) : V κ (phi κ mr dd mc ms o μ') cells slots pc L st μ := by
  intro p e s m args below meth c B H locs ls hl hR hS
  obtain ⟨t1, t2, t3, t4, t5⟩ := hT
  have hts := B.2.2.2.2.1
  have hE := B.2.2.2.2.2.2.2.1
  obtain ⟨sa, hsa⟩ := hE.2.2.2.1 _ hstr
  refine vy_throwSW (A := kA κ) (names := nmsE) (own := RX5) (text := text) (sa := sa) (x0 := x0) (x1 := x1) (x2 := x2) (x5 := x5) B.1 B.2.1 hE.1 (by rw [← hown]; exact B.2.2.2.1) t1 (by decide +kernel) (hts _ t2) (hts _ t3) hsa (fun w hw => (t4 w hw).elim (fun h => hts w h) (fun h => va_Nw.use (nw_tab (nwL_form w h)) (hE.2.2.1 w h))) (fun w hw => ?_) hE.2.2.2.2.2.2.2.1 hE.2.2.2.2.2.2.2.2 hS (hl.1.trans B.2.2.1.symm) d0 d3 d4 d7 d10 (fun x hx => ?_) (by show 2 + 3 < dd; omega) (by show _ + (13 * (2 + 1) + 43) ≤ 64 * dd; omega) (by show cells + 1 ≤ mc; exact hc.1) (by show slots + 6 ≤ ms; exact hc.2) B.2.2.2.2.2.2.1 (fun t hA h1 h2 => ⟨⟨ho, by rw [hm]; exact hR.grow hz h2⟩, ⟨Nat.le_trans hS.1 h1, fun q g1 g2 => (h2 q (Nat.lt_of_lt_of_le g1 hS.1)).trans (hS.2.1 q g1 g2)⟩⟩) hS.2.2 hc.1 hc.2
  · rcases List.mem_cons.mp hw with h | h
    · rw [h]; rfl
    · rcases List.mem_cons.mp h with h | h
      · rw [h]; rfl
      · exact t5 w h
  · rw [B.2.2.2.2.2.2.2.2.2.1] at hx
    cases hx
end VY3
end
