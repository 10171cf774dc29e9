-- ===== PART A: goes FIRST, ahead of the names: the tables' words, and 'selects' of the private methods out of them =====
/-- a private method of a class that the tables say can be made, by its rows of tables_1 -/
def lw_okq (q : MethodName × Nat) : Prop := (q.1.cls ≠ "java/lang/invoke/MethodHandle" ∧ q.1.cls ≠ "java/lang/invoke/VarHandle") ∧ Cond.instantiable q.1.cls q.2 ∈ tables_1 ∧ Cond.privateMethod q.1 ∈ tables_1 ∧ Cond.instanceMethod q.1 ∈ tables_1
theorem lw_p0 : lw_okq (⟨"OrderedTable", "isReplica", "(I)Z"⟩, 10) := ⟨⟨by decide +kernel, by decide +kernel⟩, List.mem_of_getElem? (i := 25) (by decide +kernel), List.mem_of_getElem? (i := 473) (by decide +kernel), List.mem_of_getElem? (i := 474) (by decide +kernel)⟩
theorem lw_p1 : lw_okq (⟨"OrderedTable", "isKey", "(I)Z"⟩, 10) := ⟨⟨by decide +kernel, by decide +kernel⟩, List.mem_of_getElem? (i := 25) (by decide +kernel), List.mem_of_getElem? (i := 493) (by decide +kernel), List.mem_of_getElem? (i := 494) (by decide +kernel)⟩
theorem lw_p2 : lw_okq (⟨"OrderedTable$Words", "isNew", "(I)Z"⟩, 5) := ⟨⟨by decide +kernel, by decide +kernel⟩, List.mem_of_getElem? (i := 73) (by decide +kernel), List.mem_of_getElem? (i := 517) (by decide +kernel), List.mem_of_getElem? (i := 518) (by decide +kernel)⟩
theorem lw_p3 : lw_okq (⟨"OrderedTable$Words", "executeRequest", "(I)V"⟩, 5) := ⟨⟨by decide +kernel, by decide +kernel⟩, List.mem_of_getElem? (i := 73) (by decide +kernel), List.mem_of_getElem? (i := 521) (by decide +kernel), List.mem_of_getElem? (i := 522) (by decide +kernel)⟩
theorem lw_p4 : lw_okq (⟨"OrderedTable", "isClient", "(I)Z"⟩, 10) := ⟨⟨by decide +kernel, by decide +kernel⟩, List.mem_of_getElem? (i := 25) (by decide +kernel), List.mem_of_getElem? (i := 529) (by decide +kernel), List.mem_of_getElem? (i := 530) (by decide +kernel)⟩
theorem lw_p5 : lw_okq (⟨"java/lang/Throwable", "fillInStackTrace", "(I)Ljava/lang/Throwable;"⟩, 6) := ⟨⟨by decide +kernel, by decide +kernel⟩, List.mem_of_getElem? (i := 632) (by decide +kernel), List.mem_of_getElem? (i := 630) (by decide +kernel), List.mem_of_getElem? (i := 631) (by decide +kernel)⟩
theorem lw_p6 : lw_okq (⟨"OrderedTable", "stamp", "(I)V"⟩, 10) := ⟨⟨by decide +kernel, by decide +kernel⟩, List.mem_of_getElem? (i := 25) (by decide +kernel), List.mem_of_getElem? (i := 702) (by decide +kernel), List.mem_of_getElem? (i := 703) (by decide +kernel)⟩
theorem lw_p7 : lw_okq (⟨"OrderedTable", "handOver", "(LOrderedTable$Message;)V"⟩, 10) := ⟨⟨by decide +kernel, by decide +kernel⟩, List.mem_of_getElem? (i := 25) (by decide +kernel), List.mem_of_getElem? (i := 735) (by decide +kernel), List.mem_of_getElem? (i := 736) (by decide +kernel)⟩
theorem lw_p8 : lw_okq (⟨"OrderedTable$Client", "placeOf", "(LOrderedTable$View;I)I"⟩, 13) := ⟨⟨by decide +kernel, by decide +kernel⟩, List.mem_of_getElem? (i := 377) (by decide +kernel), List.mem_of_getElem? (i := 743) (by decide +kernel), List.mem_of_getElem? (i := 744) (by decide +kernel)⟩
theorem lw_p9 : lw_okq (⟨"OrderedTable$Replica", "sendTurns", "()V"⟩, 15) := ⟨⟨by decide +kernel, by decide +kernel⟩, List.mem_of_getElem? (i := 239) (by decide +kernel), List.mem_of_getElem? (i := 781) (by decide +kernel), List.mem_of_getElem? (i := 782) (by decide +kernel)⟩
theorem lw_p10 : lw_okq (⟨"OrderedTable$Replica", "sendToOthers", "(II)V"⟩, 15) := ⟨⟨by decide +kernel, by decide +kernel⟩, List.mem_of_getElem? (i := 239) (by decide +kernel), List.mem_of_getElem? (i := 785) (by decide +kernel), List.mem_of_getElem? (i := 786) (by decide +kernel)⟩
theorem lw_p11 : lw_okq (⟨"OrderedTable$Replica", "send", "(III)LOrderedTable$Message;"⟩, 15) := ⟨⟨by decide +kernel, by decide +kernel⟩, List.mem_of_getElem? (i := 239) (by decide +kernel), List.mem_of_getElem? (i := 789) (by decide +kernel), List.mem_of_getElem? (i := 790) (by decide +kernel)⟩
theorem lw_p12 : lw_okq (⟨"OrderedTable$Replica", "sendLog", "(II)V"⟩, 15) := ⟨⟨by decide +kernel, by decide +kernel⟩, List.mem_of_getElem? (i := 239) (by decide +kernel), List.mem_of_getElem? (i := 795) (by decide +kernel), List.mem_of_getElem? (i := 796) (by decide +kernel)⟩
theorem lw_p13 : lw_okq (⟨"OrderedTable$Held", "indexOf", "(I)I"⟩, 3) := ⟨⟨by decide +kernel, by decide +kernel⟩, List.mem_of_getElem? (i := 247) (by decide +kernel), List.mem_of_getElem? (i := 810) (by decide +kernel), List.mem_of_getElem? (i := 811) (by decide +kernel)⟩
theorem lw_p14 : lw_okq (⟨"OrderedTable$Replica", "takeHeld", "()V"⟩, 15) := ⟨⟨by decide +kernel, by decide +kernel⟩, List.mem_of_getElem? (i := 239) (by decide +kernel), List.mem_of_getElem? (i := 822) (by decide +kernel), List.mem_of_getElem? (i := 823) (by decide +kernel)⟩
theorem lw_p15 : lw_okq (⟨"OrderedTable$Replica", "reply", "(II)V"⟩, 15) := ⟨⟨by decide +kernel, by decide +kernel⟩, List.mem_of_getElem? (i := 239) (by decide +kernel), List.mem_of_getElem? (i := 834) (by decide +kernel), List.mem_of_getElem? (i := 835) (by decide +kernel)⟩
def lw_privs_1 : List (MethodName × Nat) := [(⟨"OrderedTable", "isReplica", "(I)Z"⟩, 10), (⟨"OrderedTable", "isKey", "(I)Z"⟩, 10), (⟨"OrderedTable$Words", "isNew", "(I)Z"⟩, 5), (⟨"OrderedTable$Words", "executeRequest", "(I)V"⟩, 5), (⟨"OrderedTable", "isClient", "(I)Z"⟩, 10), (⟨"java/lang/Throwable", "fillInStackTrace", "(I)Ljava/lang/Throwable;"⟩, 6), (⟨"OrderedTable", "stamp", "(I)V"⟩, 10), (⟨"OrderedTable", "handOver", "(LOrderedTable$Message;)V"⟩, 10), (⟨"OrderedTable$Client", "placeOf", "(LOrderedTable$View;I)I"⟩, 13), (⟨"OrderedTable$Replica", "sendTurns", "()V"⟩, 15), (⟨"OrderedTable$Replica", "sendToOthers", "(II)V"⟩, 15), (⟨"OrderedTable$Replica", "send", "(III)LOrderedTable$Message;"⟩, 15), (⟨"OrderedTable$Replica", "sendLog", "(II)V"⟩, 15), (⟨"OrderedTable$Held", "indexOf", "(I)I"⟩, 3), (⟨"OrderedTable$Replica", "takeHeld", "()V"⟩, 15), (⟨"OrderedTable$Replica", "reply", "(II)V"⟩, 15)]
theorem lw_r1 : ∀ q ∈ lw_privs_1, lw_okq q := List.forall_mem_cons.mpr ⟨lw_p0, List.forall_mem_cons.mpr ⟨lw_p1, List.forall_mem_cons.mpr ⟨lw_p2, List.forall_mem_cons.mpr ⟨lw_p3, List.forall_mem_cons.mpr ⟨lw_p4, List.forall_mem_cons.mpr ⟨lw_p5, List.forall_mem_cons.mpr ⟨lw_p6, List.forall_mem_cons.mpr ⟨lw_p7, List.forall_mem_cons.mpr ⟨lw_p8, List.forall_mem_cons.mpr ⟨lw_p9, List.forall_mem_cons.mpr ⟨lw_p10, List.forall_mem_cons.mpr ⟨lw_p11, List.forall_mem_cons.mpr ⟨lw_p12, List.forall_mem_cons.mpr ⟨lw_p13, List.forall_mem_cons.mpr ⟨lw_p14, List.forall_mem_cons.mpr ⟨lw_p15, fun _ h => absurd h List.not_mem_nil⟩⟩⟩⟩⟩⟩⟩⟩⟩⟩⟩⟩⟩⟩⟩⟩
theorem lw_p16 : lw_okq (⟨"OrderedTable$Replica", "receiveStart", "(LOrderedTable$Message;)V"⟩, 15) := ⟨⟨by decide +kernel, by decide +kernel⟩, List.mem_of_getElem? (i := 239) (by decide +kernel), List.mem_of_getElem? (i := 852) (by decide +kernel), List.mem_of_getElem? (i := 853) (by decide +kernel)⟩
theorem lw_p17 : lw_okq (⟨"OrderedTable$Replica", "becomeNormal", "()V"⟩, 15) := ⟨⟨by decide +kernel, by decide +kernel⟩, List.mem_of_getElem? (i := 239) (by decide +kernel), List.mem_of_getElem? (i := 858) (by decide +kernel), List.mem_of_getElem? (i := 859) (by decide +kernel)⟩
theorem lw_p18 : lw_okq (⟨"OrderedTable$Replica", "receiveTurned", "(LOrderedTable$Message;)V"⟩, 15) := ⟨⟨by decide +kernel, by decide +kernel⟩, List.mem_of_getElem? (i := 239) (by decide +kernel), List.mem_of_getElem? (i := 869) (by decide +kernel), List.mem_of_getElem? (i := 870) (by decide +kernel)⟩
theorem lw_p19 : lw_okq (⟨"OrderedTable$Replica", "isEnough", "(I)Z"⟩, 15) := ⟨⟨by decide +kernel, by decide +kernel⟩, List.mem_of_getElem? (i := 239) (by decide +kernel), List.mem_of_getElem? (i := 878) (by decide +kernel), List.mem_of_getElem? (i := 879) (by decide +kernel)⟩
theorem lw_p20 : lw_okq (⟨"OrderedTable$Replica", "mergeLogs", "()V"⟩, 15) := ⟨⟨by decide +kernel, by decide +kernel⟩, List.mem_of_getElem? (i := 239) (by decide +kernel), List.mem_of_getElem? (i := 883) (by decide +kernel), List.mem_of_getElem? (i := 884) (by decide +kernel)⟩
theorem lw_p21 : lw_okq (⟨"OrderedTable$Replica", "isMerged", "(ILOrderedTable$View;)Z"⟩, 15) := ⟨⟨by decide +kernel, by decide +kernel⟩, List.mem_of_getElem? (i := 239) (by decide +kernel), List.mem_of_getElem? (i := 895) (by decide +kernel), List.mem_of_getElem? (i := 896) (by decide +kernel)⟩
theorem lw_p22 : lw_okq (⟨"OrderedTable$Replica", "mergedEntry", "(ILOrderedTable$View;)I"⟩, 15) := ⟨⟨by decide +kernel, by decide +kernel⟩, List.mem_of_getElem? (i := 239) (by decide +kernel), List.mem_of_getElem? (i := 900) (by decide +kernel), List.mem_of_getElem? (i := 901) (by decide +kernel)⟩
theorem lw_p23 : lw_okq (⟨"OrderedTable$Replica", "receiveLookup", "(II)V"⟩, 15) := ⟨⟨by decide +kernel, by decide +kernel⟩, List.mem_of_getElem? (i := 239) (by decide +kernel), List.mem_of_getElem? (i := 915) (by decide +kernel), List.mem_of_getElem? (i := 916) (by decide +kernel)⟩
theorem lw_p24 : lw_okq (⟨"OrderedTable$Replica", "receiveFound", "(II)V"⟩, 15) := ⟨⟨by decide +kernel, by decide +kernel⟩, List.mem_of_getElem? (i := 239) (by decide +kernel), List.mem_of_getElem? (i := 919) (by decide +kernel), List.mem_of_getElem? (i := 920) (by decide +kernel)⟩
theorem lw_p25 : lw_okq (⟨"OrderedTable$Replica", "receiveGapCommit", "(I)V"⟩, 15) := ⟨⟨by decide +kernel, by decide +kernel⟩, List.mem_of_getElem? (i := 239) (by decide +kernel), List.mem_of_getElem? (i := 923) (by decide +kernel), List.mem_of_getElem? (i := 924) (by decide +kernel)⟩
theorem lw_p26 : lw_okq (⟨"OrderedTable$Replica", "receiveGapReply", "(II)V"⟩, 15) := ⟨⟨by decide +kernel, by decide +kernel⟩, List.mem_of_getElem? (i := 239) (by decide +kernel), List.mem_of_getElem? (i := 927) (by decide +kernel), List.mem_of_getElem? (i := 928) (by decide +kernel)⟩
theorem lw_p27 : lw_okq (⟨"OrderedTable$Replica", "receiveSync", "(LOrderedTable$Message;)V"⟩, 15) := ⟨⟨by decide +kernel, by decide +kernel⟩, List.mem_of_getElem? (i := 239) (by decide +kernel), List.mem_of_getElem? (i := 931) (by decide +kernel), List.mem_of_getElem? (i := 932) (by decide +kernel)⟩
theorem lw_p28 : lw_okq (⟨"OrderedTable$Replica", "receiveSyncReply", "(II)V"⟩, 15) := ⟨⟨by decide +kernel, by decide +kernel⟩, List.mem_of_getElem? (i := 239) (by decide +kernel), List.mem_of_getElem? (i := 940) (by decide +kernel), List.mem_of_getElem? (i := 941) (by decide +kernel)⟩
theorem lw_p29 : lw_okq (⟨"OrderedTable$Replica", "receivePoint", "(I)V"⟩, 15) := ⟨⟨by decide +kernel, by decide +kernel⟩, List.mem_of_getElem? (i := 239) (by decide +kernel), List.mem_of_getElem? (i := 948) (by decide +kernel), List.mem_of_getElem? (i := 949) (by decide +kernel)⟩
theorem lw_p30 : lw_okq (⟨"OrderedTable", "downNow", "()I"⟩, 10) := ⟨⟨by decide +kernel, by decide +kernel⟩, List.mem_of_getElem? (i := 25) (by decide +kernel), List.mem_of_getElem? (i := 975) (by decide +kernel), List.mem_of_getElem? (i := 976) (by decide +kernel)⟩
theorem lw_p31 : lw_okq (⟨"OrderedTableModel", "stamp", "(I)V"⟩, 79) := ⟨⟨by decide +kernel, by decide +kernel⟩, List.mem_of_getElem? (i := 1020) (by decide +kernel), List.mem_of_getElem? (i := 1276) (by decide +kernel), List.mem_of_getElem? (i := 1277) (by decide +kernel)⟩
def lw_privs_2 : List (MethodName × Nat) := [(⟨"OrderedTable$Replica", "receiveStart", "(LOrderedTable$Message;)V"⟩, 15), (⟨"OrderedTable$Replica", "becomeNormal", "()V"⟩, 15), (⟨"OrderedTable$Replica", "receiveTurned", "(LOrderedTable$Message;)V"⟩, 15), (⟨"OrderedTable$Replica", "isEnough", "(I)Z"⟩, 15), (⟨"OrderedTable$Replica", "mergeLogs", "()V"⟩, 15), (⟨"OrderedTable$Replica", "isMerged", "(ILOrderedTable$View;)Z"⟩, 15), (⟨"OrderedTable$Replica", "mergedEntry", "(ILOrderedTable$View;)I"⟩, 15), (⟨"OrderedTable$Replica", "receiveLookup", "(II)V"⟩, 15), (⟨"OrderedTable$Replica", "receiveFound", "(II)V"⟩, 15), (⟨"OrderedTable$Replica", "receiveGapCommit", "(I)V"⟩, 15), (⟨"OrderedTable$Replica", "receiveGapReply", "(II)V"⟩, 15), (⟨"OrderedTable$Replica", "receiveSync", "(LOrderedTable$Message;)V"⟩, 15), (⟨"OrderedTable$Replica", "receiveSyncReply", "(II)V"⟩, 15), (⟨"OrderedTable$Replica", "receivePoint", "(I)V"⟩, 15), (⟨"OrderedTable", "downNow", "()I"⟩, 10), (⟨"OrderedTableModel", "stamp", "(I)V"⟩, 79)]
theorem lw_r2 : ∀ q ∈ lw_privs_2, lw_okq q := List.forall_mem_cons.mpr ⟨lw_p16, List.forall_mem_cons.mpr ⟨lw_p17, List.forall_mem_cons.mpr ⟨lw_p18, List.forall_mem_cons.mpr ⟨lw_p19, List.forall_mem_cons.mpr ⟨lw_p20, List.forall_mem_cons.mpr ⟨lw_p21, List.forall_mem_cons.mpr ⟨lw_p22, List.forall_mem_cons.mpr ⟨lw_p23, List.forall_mem_cons.mpr ⟨lw_p24, List.forall_mem_cons.mpr ⟨lw_p25, List.forall_mem_cons.mpr ⟨lw_p26, List.forall_mem_cons.mpr ⟨lw_p27, List.forall_mem_cons.mpr ⟨lw_p28, List.forall_mem_cons.mpr ⟨lw_p29, List.forall_mem_cons.mpr ⟨lw_p30, List.forall_mem_cons.mpr ⟨lw_p31, fun _ h => absurd h List.not_mem_nil⟩⟩⟩⟩⟩⟩⟩⟩⟩⟩⟩⟩⟩⟩⟩⟩
theorem lw_p32 : lw_okq (⟨"OrderedTableModel", "send", "(IIIIIII)I"⟩, 79) := ⟨⟨by decide +kernel, by decide +kernel⟩, List.mem_of_getElem? (i := 1020) (by decide +kernel), List.mem_of_getElem? (i := 1280) (by decide +kernel), List.mem_of_getElem? (i := 1281) (by decide +kernel)⟩
theorem lw_p33 : lw_okq (⟨"OrderedTableModel", "find", "(I)I"⟩, 79) := ⟨⟨by decide +kernel, by decide +kernel⟩, List.mem_of_getElem? (i := 1020) (by decide +kernel), List.mem_of_getElem? (i := 1292) (by decide +kernel), List.mem_of_getElem? (i := 1293) (by decide +kernel)⟩
theorem lw_p34 : lw_okq (⟨"OrderedTableModel", "arrive", "(I)V"⟩, 79) := ⟨⟨by decide +kernel, by decide +kernel⟩, List.mem_of_getElem? (i := 1020) (by decide +kernel), List.mem_of_getElem? (i := 1296) (by decide +kernel), List.mem_of_getElem? (i := 1297) (by decide +kernel)⟩
theorem lw_p35 : lw_okq (⟨"OrderedTableModel", "taken", "(I)I"⟩, 79) := ⟨⟨by decide +kernel, by decide +kernel⟩, List.mem_of_getElem? (i := 1020) (by decide +kernel), List.mem_of_getElem? (i := 1300) (by decide +kernel), List.mem_of_getElem? (i := 1301) (by decide +kernel)⟩
theorem lw_p36 : lw_okq (⟨"OrderedTableModel", "replied", "(IIIIIIZI)V"⟩, 79) := ⟨⟨by decide +kernel, by decide +kernel⟩, List.mem_of_getElem? (i := 1020) (by decide +kernel), List.mem_of_getElem? (i := 1304) (by decide +kernel), List.mem_of_getElem? (i := 1305) (by decide +kernel)⟩
theorem lw_p37 : lw_okq (⟨"OrderedTableModel", "forgetFirst", "(I)I"⟩, 79) := ⟨⟨by decide +kernel, by decide +kernel⟩, List.mem_of_getElem? (i := 1020) (by decide +kernel), List.mem_of_getElem? (i := 1308) (by decide +kernel), List.mem_of_getElem? (i := 1309) (by decide +kernel)⟩
theorem lw_p38 : lw_okq (⟨"OrderedTableModel", "stamped", "(IIII)V"⟩, 79) := ⟨⟨by decide +kernel, by decide +kernel⟩, List.mem_of_getElem? (i := 1020) (by decide +kernel), List.mem_of_getElem? (i := 1315) (by decide +kernel), List.mem_of_getElem? (i := 1316) (by decide +kernel)⟩
theorem lw_p39 : lw_okq (⟨"OrderedTableModel", "turn", "(III)V"⟩, 79) := ⟨⟨by decide +kernel, by decide +kernel⟩, List.mem_of_getElem? (i := 1020) (by decide +kernel), List.mem_of_getElem? (i := 1319) (by decide +kernel), List.mem_of_getElem? (i := 1320) (by decide +kernel)⟩
theorem lw_p40 : lw_okq (⟨"OrderedTableModel", "forget", "(I)V"⟩, 79) := ⟨⟨by decide +kernel, by decide +kernel⟩, List.mem_of_getElem? (i := 1020) (by decide +kernel), List.mem_of_getElem? (i := 1323) (by decide +kernel), List.mem_of_getElem? (i := 1324) (by decide +kernel)⟩
theorem lw_p41 : lw_okq (⟨"OrderedTableModel", "all", "(III)V"⟩, 79) := ⟨⟨by decide +kernel, by decide +kernel⟩, List.mem_of_getElem? (i := 1020) (by decide +kernel), List.mem_of_getElem? (i := 1327) (by decide +kernel), List.mem_of_getElem? (i := 1328) (by decide +kernel)⟩
theorem lw_p42 : lw_okq (⟨"OrderedTableModel", "leads", "(I)Z"⟩, 79) := ⟨⟨by decide +kernel, by decide +kernel⟩, List.mem_of_getElem? (i := 1020) (by decide +kernel), List.mem_of_getElem? (i := 1331) (by decide +kernel), List.mem_of_getElem? (i := 1332) (by decide +kernel)⟩
theorem lw_p43 : lw_okq (⟨"OrderedTableModel", "tellTurned", "(I)V"⟩, 79) := ⟨⟨by decide +kernel, by decide +kernel⟩, List.mem_of_getElem? (i := 1020) (by decide +kernel), List.mem_of_getElem? (i := 1335) (by decide +kernel), List.mem_of_getElem? (i := 1336) (by decide +kernel)⟩
theorem lw_p44 : lw_okq (⟨"OrderedTableModel", "leader", "(I)I"⟩, 79) := ⟨⟨by decide +kernel, by decide +kernel⟩, List.mem_of_getElem? (i := 1020) (by decide +kernel), List.mem_of_getElem? (i := 1339) (by decide +kernel), List.mem_of_getElem? (i := 1340) (by decide +kernel)⟩
theorem lw_p45 : lw_okq (⟨"OrderedTableModel", "load", "(III)V"⟩, 79) := ⟨⟨by decide +kernel, by decide +kernel⟩, List.mem_of_getElem? (i := 1020) (by decide +kernel), List.mem_of_getElem? (i := 1343) (by decide +kernel), List.mem_of_getElem? (i := 1344) (by decide +kernel)⟩
theorem lw_p46 : lw_okq (⟨"OrderedTableModel", "held", "(II)I"⟩, 79) := ⟨⟨by decide +kernel, by decide +kernel⟩, List.mem_of_getElem? (i := 1020) (by decide +kernel), List.mem_of_getElem? (i := 1347) (by decide +kernel), List.mem_of_getElem? (i := 1348) (by decide +kernel)⟩
theorem lw_p47 : lw_okq (⟨"OrderedTableModel", "hold", "(III)V"⟩, 79) := ⟨⟨by decide +kernel, by decide +kernel⟩, List.mem_of_getElem? (i := 1020) (by decide +kernel), List.mem_of_getElem? (i := 1351) (by decide +kernel), List.mem_of_getElem? (i := 1352) (by decide +kernel)⟩
def lw_privs_3 : List (MethodName × Nat) := [(⟨"OrderedTableModel", "send", "(IIIIIII)I"⟩, 79), (⟨"OrderedTableModel", "find", "(I)I"⟩, 79), (⟨"OrderedTableModel", "arrive", "(I)V"⟩, 79), (⟨"OrderedTableModel", "taken", "(I)I"⟩, 79), (⟨"OrderedTableModel", "replied", "(IIIIIIZI)V"⟩, 79), (⟨"OrderedTableModel", "forgetFirst", "(I)I"⟩, 79), (⟨"OrderedTableModel", "stamped", "(IIII)V"⟩, 79), (⟨"OrderedTableModel", "turn", "(III)V"⟩, 79), (⟨"OrderedTableModel", "forget", "(I)V"⟩, 79), (⟨"OrderedTableModel", "all", "(III)V"⟩, 79), (⟨"OrderedTableModel", "leads", "(I)Z"⟩, 79), (⟨"OrderedTableModel", "tellTurned", "(I)V"⟩, 79), (⟨"OrderedTableModel", "leader", "(I)I"⟩, 79), (⟨"OrderedTableModel", "load", "(III)V"⟩, 79), (⟨"OrderedTableModel", "held", "(II)I"⟩, 79), (⟨"OrderedTableModel", "hold", "(III)V"⟩, 79)]
theorem lw_r3 : ∀ q ∈ lw_privs_3, lw_okq q := List.forall_mem_cons.mpr ⟨lw_p32, List.forall_mem_cons.mpr ⟨lw_p33, List.forall_mem_cons.mpr ⟨lw_p34, List.forall_mem_cons.mpr ⟨lw_p35, List.forall_mem_cons.mpr ⟨lw_p36, List.forall_mem_cons.mpr ⟨lw_p37, List.forall_mem_cons.mpr ⟨lw_p38, List.forall_mem_cons.mpr ⟨lw_p39, List.forall_mem_cons.mpr ⟨lw_p40, List.forall_mem_cons.mpr ⟨lw_p41, List.forall_mem_cons.mpr ⟨lw_p42, List.forall_mem_cons.mpr ⟨lw_p43, List.forall_mem_cons.mpr ⟨lw_p44, List.forall_mem_cons.mpr ⟨lw_p45, List.forall_mem_cons.mpr ⟨lw_p46, List.forall_mem_cons.mpr ⟨lw_p47, fun _ h => absurd h List.not_mem_nil⟩⟩⟩⟩⟩⟩⟩⟩⟩⟩⟩⟩⟩⟩⟩⟩
theorem lw_p48 : lw_okq (⟨"OrderedTableModel", "take", "(I)V"⟩, 79) := ⟨⟨by decide +kernel, by decide +kernel⟩, List.mem_of_getElem? (i := 1020) (by decide +kernel), List.mem_of_getElem? (i := 1355) (by decide +kernel), List.mem_of_getElem? (i := 1356) (by decide +kernel)⟩
theorem lw_p49 : lw_okq (⟨"OrderedTableModel", "unhold", "(II)V"⟩, 79) := ⟨⟨by decide +kernel, by decide +kernel⟩, List.mem_of_getElem? (i := 1020) (by decide +kernel), List.mem_of_getElem? (i := 1359) (by decide +kernel), List.mem_of_getElem? (i := 1360) (by decide +kernel)⟩
theorem lw_p50 : lw_okq (⟨"OrderedTableModel", "append", "(II)V"⟩, 79) := ⟨⟨by decide +kernel, by decide +kernel⟩, List.mem_of_getElem? (i := 1020) (by decide +kernel), List.mem_of_getElem? (i := 1363) (by decide +kernel), List.mem_of_getElem? (i := 1364) (by decide +kernel)⟩
theorem lw_p51 : lw_okq (⟨"OrderedTableModel", "answer", "(II)V"⟩, 79) := ⟨⟨by decide +kernel, by decide +kernel⟩, List.mem_of_getElem? (i := 1020) (by decide +kernel), List.mem_of_getElem? (i := 1367) (by decide +kernel), List.mem_of_getElem? (i := 1368) (by decide +kernel)⟩
theorem lw_p52 : lw_okq (⟨"OrderedTableModel", "execute", "(II)V"⟩, 79) := ⟨⟨by decide +kernel, by decide +kernel⟩, List.mem_of_getElem? (i := 1020) (by decide +kernel), List.mem_of_getElem? (i := 1371) (by decide +kernel), List.mem_of_getElem? (i := 1372) (by decide +kernel)⟩
theorem lw_p53 : lw_okq (⟨"OrderedTableModel", "follow", "(III)V"⟩, 79) := ⟨⟨by decide +kernel, by decide +kernel⟩, List.mem_of_getElem? (i := 1020) (by decide +kernel), List.mem_of_getElem? (i := 1375) (by decide +kernel), List.mem_of_getElem? (i := 1376) (by decide +kernel)⟩
theorem lw_p54 : lw_okq (⟨"OrderedTableModel", "turned", "(IIIIIIII)V"⟩, 79) := ⟨⟨by decide +kernel, by decide +kernel⟩, List.mem_of_getElem? (i := 1020) (by decide +kernel), List.mem_of_getElem? (i := 1382) (by decide +kernel), List.mem_of_getElem? (i := 1383) (by decide +kernel)⟩
theorem lw_p55 : lw_okq (⟨"OrderedTableModel", "merge", "(I)V"⟩, 79) := ⟨⟨by decide +kernel, by decide +kernel⟩, List.mem_of_getElem? (i := 1020) (by decide +kernel), List.mem_of_getElem? (i := 1386) (by decide +kernel), List.mem_of_getElem? (i := 1387) (by decide +kernel)⟩
theorem lw_p56 : lw_okq (⟨"OrderedTableModel", "isIn", "(II)Z"⟩, 79) := ⟨⟨by decide +kernel, by decide +kernel⟩, List.mem_of_getElem? (i := 1020) (by decide +kernel), List.mem_of_getElem? (i := 1390) (by decide +kernel), List.mem_of_getElem? (i := 1391) (by decide +kernel)⟩
theorem lw_p57 : lw_okq (⟨"OrderedTableModel", "normalOf", "(IIZ)I"⟩, 79) := ⟨⟨by decide +kernel, by decide +kernel⟩, List.mem_of_getElem? (i := 1020) (by decide +kernel), List.mem_of_getElem? (i := 1394) (by decide +kernel), List.mem_of_getElem? (i := 1395) (by decide +kernel)⟩
theorem lw_p58 : lw_okq (⟨"OrderedTableModel", "lengthOf", "(II)I"⟩, 79) := ⟨⟨by decide +kernel, by decide +kernel⟩, List.mem_of_getElem? (i := 1020) (by decide +kernel), List.mem_of_getElem? (i := 1398) (by decide +kernel), List.mem_of_getElem? (i := 1399) (by decide +kernel)⟩
theorem lw_p59 : lw_okq (⟨"OrderedTableModel", "mergedAt", "(IIII)I"⟩, 79) := ⟨⟨by decide +kernel, by decide +kernel⟩, List.mem_of_getElem? (i := 1020) (by decide +kernel), List.mem_of_getElem? (i := 1402) (by decide +kernel), List.mem_of_getElem? (i := 1403) (by decide +kernel)⟩
theorem lw_p60 : lw_okq (⟨"OrderedTableModel", "entryOf", "(III)I"⟩, 79) := ⟨⟨by decide +kernel, by decide +kernel⟩, List.mem_of_getElem? (i := 1020) (by decide +kernel), List.mem_of_getElem? (i := 1406) (by decide +kernel), List.mem_of_getElem? (i := 1407) (by decide +kernel)⟩
theorem lw_p61 : lw_okq (⟨"OrderedTableModel", "settle", "(I)V"⟩, 79) := ⟨⟨by decide +kernel, by decide +kernel⟩, List.mem_of_getElem? (i := 1020) (by decide +kernel), List.mem_of_getElem? (i := 1410) (by decide +kernel), List.mem_of_getElem? (i := 1411) (by decide +kernel)⟩
theorem lw_p62 : lw_okq (⟨"OrderedTableModel", "start", "(IIIII)V"⟩, 79) := ⟨⟨by decide +kernel, by decide +kernel⟩, List.mem_of_getElem? (i := 1020) (by decide +kernel), List.mem_of_getElem? (i := 1414) (by decide +kernel), List.mem_of_getElem? (i := 1415) (by decide +kernel)⟩
theorem lw_p63 : lw_okq (⟨"OrderedTableModel", "inView", "(IIIII)V"⟩, 79) := ⟨⟨by decide +kernel, by decide +kernel⟩, List.mem_of_getElem? (i := 1020) (by decide +kernel), List.mem_of_getElem? (i := 1418) (by decide +kernel), List.mem_of_getElem? (i := 1419) (by decide +kernel)⟩
def lw_privs_4 : List (MethodName × Nat) := [(⟨"OrderedTableModel", "take", "(I)V"⟩, 79), (⟨"OrderedTableModel", "unhold", "(II)V"⟩, 79), (⟨"OrderedTableModel", "append", "(II)V"⟩, 79), (⟨"OrderedTableModel", "answer", "(II)V"⟩, 79), (⟨"OrderedTableModel", "execute", "(II)V"⟩, 79), (⟨"OrderedTableModel", "follow", "(III)V"⟩, 79), (⟨"OrderedTableModel", "turned", "(IIIIIIII)V"⟩, 79), (⟨"OrderedTableModel", "merge", "(I)V"⟩, 79), (⟨"OrderedTableModel", "isIn", "(II)Z"⟩, 79), (⟨"OrderedTableModel", "normalOf", "(IIZ)I"⟩, 79), (⟨"OrderedTableModel", "lengthOf", "(II)I"⟩, 79), (⟨"OrderedTableModel", "mergedAt", "(IIII)I"⟩, 79), (⟨"OrderedTableModel", "entryOf", "(III)I"⟩, 79), (⟨"OrderedTableModel", "settle", "(I)V"⟩, 79), (⟨"OrderedTableModel", "start", "(IIIII)V"⟩, 79), (⟨"OrderedTableModel", "inView", "(IIIII)V"⟩, 79)]
theorem lw_r4 : ∀ q ∈ lw_privs_4, lw_okq q := List.forall_mem_cons.mpr ⟨lw_p48, List.forall_mem_cons.mpr ⟨lw_p49, List.forall_mem_cons.mpr ⟨lw_p50, List.forall_mem_cons.mpr ⟨lw_p51, List.forall_mem_cons.mpr ⟨lw_p52, List.forall_mem_cons.mpr ⟨lw_p53, List.forall_mem_cons.mpr ⟨lw_p54, List.forall_mem_cons.mpr ⟨lw_p55, List.forall_mem_cons.mpr ⟨lw_p56, List.forall_mem_cons.mpr ⟨lw_p57, List.forall_mem_cons.mpr ⟨lw_p58, List.forall_mem_cons.mpr ⟨lw_p59, List.forall_mem_cons.mpr ⟨lw_p60, List.forall_mem_cons.mpr ⟨lw_p61, List.forall_mem_cons.mpr ⟨lw_p62, List.forall_mem_cons.mpr ⟨lw_p63, fun _ h => absurd h List.not_mem_nil⟩⟩⟩⟩⟩⟩⟩⟩⟩⟩⟩⟩⟩⟩⟩⟩
theorem lw_p64 : lw_okq (⟨"OrderedTableModel", "lookup", "(III)V"⟩, 79) := ⟨⟨by decide +kernel, by decide +kernel⟩, List.mem_of_getElem? (i := 1020) (by decide +kernel), List.mem_of_getElem? (i := 1422) (by decide +kernel), List.mem_of_getElem? (i := 1423) (by decide +kernel)⟩
theorem lw_p65 : lw_okq (⟨"OrderedTableModel", "gapCommit", "(III)V"⟩, 79) := ⟨⟨by decide +kernel, by decide +kernel⟩, List.mem_of_getElem? (i := 1020) (by decide +kernel), List.mem_of_getElem? (i := 1426) (by decide +kernel), List.mem_of_getElem? (i := 1427) (by decide +kernel)⟩
theorem lw_p66 : lw_okq (⟨"OrderedTableModel", "gapReply", "(III)V"⟩, 79) := ⟨⟨by decide +kernel, by decide +kernel⟩, List.mem_of_getElem? (i := 1020) (by decide +kernel), List.mem_of_getElem? (i := 1430) (by decide +kernel), List.mem_of_getElem? (i := 1431) (by decide +kernel)⟩
theorem lw_p67 : lw_okq (⟨"OrderedTableModel", "sync", "(II)V"⟩, 79) := ⟨⟨by decide +kernel, by decide +kernel⟩, List.mem_of_getElem? (i := 1020) (by decide +kernel), List.mem_of_getElem? (i := 1434) (by decide +kernel), List.mem_of_getElem? (i := 1435) (by decide +kernel)⟩
theorem lw_p68 : lw_okq (⟨"OrderedTableModel", "syncReply", "(III)V"⟩, 79) := ⟨⟨by decide +kernel, by decide +kernel⟩, List.mem_of_getElem? (i := 1020) (by decide +kernel), List.mem_of_getElem? (i := 1438) (by decide +kernel), List.mem_of_getElem? (i := 1439) (by decide +kernel)⟩
theorem lw_p69 : lw_okq (⟨"OrderedTableModel", "may", "(I)Z"⟩, 79) := ⟨⟨by decide +kernel, by decide +kernel⟩, List.mem_of_getElem? (i := 1020) (by decide +kernel), List.mem_of_getElem? (i := 1462) (by decide +kernel), List.mem_of_getElem? (i := 1463) (by decide +kernel)⟩
theorem lw_p70 : lw_okq (⟨"OrderedTableModel", "executed", "(I)I"⟩, 79) := ⟨⟨by decide +kernel, by decide +kernel⟩, List.mem_of_getElem? (i := 1020) (by decide +kernel), List.mem_of_getElem? (i := 1494) (by decide +kernel), List.mem_of_getElem? (i := 1495) (by decide +kernel)⟩
theorem lw_p71 : lw_okq (⟨"OrderedTableModel", "has", "(II)Z"⟩, 79) := ⟨⟨by decide +kernel, by decide +kernel⟩, List.mem_of_getElem? (i := 1020) (by decide +kernel), List.mem_of_getElem? (i := 1518) (by decide +kernel), List.mem_of_getElem? (i := 1519) (by decide +kernel)⟩
def lw_privs_5 : List (MethodName × Nat) := [(⟨"OrderedTableModel", "lookup", "(III)V"⟩, 79), (⟨"OrderedTableModel", "gapCommit", "(III)V"⟩, 79), (⟨"OrderedTableModel", "gapReply", "(III)V"⟩, 79), (⟨"OrderedTableModel", "sync", "(II)V"⟩, 79), (⟨"OrderedTableModel", "syncReply", "(III)V"⟩, 79), (⟨"OrderedTableModel", "may", "(I)Z"⟩, 79), (⟨"OrderedTableModel", "executed", "(I)I"⟩, 79), (⟨"OrderedTableModel", "has", "(II)Z"⟩, 79)]
theorem lw_r5 : ∀ q ∈ lw_privs_5, lw_okq q := List.forall_mem_cons.mpr ⟨lw_p64, List.forall_mem_cons.mpr ⟨lw_p65, List.forall_mem_cons.mpr ⟨lw_p66, List.forall_mem_cons.mpr ⟨lw_p67, List.forall_mem_cons.mpr ⟨lw_p68, List.forall_mem_cons.mpr ⟨lw_p69, List.forall_mem_cons.mpr ⟨lw_p70, List.forall_mem_cons.mpr ⟨lw_p71, fun _ h => absurd h List.not_mem_nil⟩⟩⟩⟩⟩⟩⟩⟩
def lw_privs : List (MethodName × Nat) := lw_privs_1 ++ (lw_privs_2 ++ (lw_privs_3 ++ (lw_privs_4 ++ (lw_privs_5))))
def lw_tbl : List Cond := k2_sels lw_privs ++ tables_1
theorem lw_privs_ok : ∀ q ∈ lw_privs, lw_okq q := by
  show ∀ q ∈ lw_privs_1 ++ (lw_privs_2 ++ (lw_privs_3 ++ (lw_privs_4 ++ (lw_privs_5)))), lw_okq q
  exact List.forall_mem_append.mpr ⟨lw_r1, List.forall_mem_append.mpr ⟨lw_r2, List.forall_mem_append.mpr ⟨lw_r3, List.forall_mem_append.mpr ⟨lw_r4, lw_r5⟩⟩⟩⟩

def RX0 : String := "OrderedTable$AcceptedOnes"
def TX0 : u_T := fun k => match k with
  | 0 => ("OrderedTable$AcceptedOnes", "total", "I", false)
  | 1 => ("OrderedTable$AcceptedOnes", "requests", "[I", true)
  | 2 => ("OrderedTable$AcceptedOnes", "views", "[LOrderedTable$View;", true)
  | 3 => ("OrderedTable$AcceptedOnes", "slots", "[I", true)
  | 4 => ("OrderedTable$AcceptedOnes", "answers", "[I", true)
  | 5 => ("OrderedTable$AcceptedOnes", "marks", "[I", true)
  | 6 => ("OrderedTable$AcceptedOnes", "kept", "I", false)
  | _ => ("OrderedTable$AcceptedOnes", "next", "I", false)
def tyX0 : Nat → FieldType := fun k => match k with
  | 0 => .int
  | 1 => .array .int
  | 2 => .array (.object "OrderedTable$View")
  | 3 => .array .int
  | 4 => .array .int
  | 5 => .array .int
  | 6 => .int
  | _ => .int
abbrev wsX00 : List Cond := u_ws RX0 TX0 8
theorem nmX0 : ∀ a, a < 8 → ∀ b, b < 8 → a ≠ b → (TX0 a).2.1 ≠ (TX0 b).2.1 := by decide +kernel
theorem tyX0_ok : ∀ k, k < 8 → parseFieldDescriptor (TX0 k).2.2.1 = some (tyX0 k) := by decide +kernel
abbrev cX0_init : ByteArray := prog_2_method_1_code
def yX0_init : MethodName := ⟨RX0, "<init>", "()V"⟩
abbrev cX0_add : ByteArray := prog_2_method_2_code
def yX0_add : MethodName := ⟨RX0, "add", "(ILOrderedTable$View;II)V"⟩
abbrev cX0_unmark : ByteArray := prog_2_method_3_code
def yX0_unmark : MethodName := ⟨RX0, "unmark", "()V"⟩
abbrev cX0_markNotHeldTo : ByteArray := prog_2_method_4_code
def yX0_markNotHeldTo : MethodName := ⟨RX0, "markNotHeldTo", "(LOrderedTable$Replica;LOrderedTable$Words;)V"⟩
abbrev cX0_marked : ByteArray := prog_2_method_5_code
def yX0_marked : MethodName := ⟨RX0, "marked", "()I"⟩
def RX1 : String := "OrderedTable$Air"
def TX1 : u_T := fun k => match k with
  | 0 => ("OrderedTable$Air", "messages", "[LOrderedTable$Message;", true)
  | 1 => ("OrderedTable$Air", "lying", "I", false)
  | 2 => ("OrderedTable$Air", "sent", "I", false)
  | 3 => ("OrderedTable$Air", "lost", "I", false)
  | 4 => ("OrderedTable$Air", "takenOut", "LOrderedTable$Message;", false)
  | _ => ("OrderedTable$Air", "noRoom", "LOrderedTable$Message;", true)
def tyX1 : Nat → FieldType := fun k => match k with
  | 0 => .array (.object "OrderedTable$Message")
  | 1 => .int
  | 2 => .int
  | 3 => .int
  | 4 => .object "OrderedTable$Message"
  | _ => .object "OrderedTable$Message"
abbrev wsX10 : List Cond := u_ws RX1 TX1 6
theorem nmX1 : ∀ a, a < 6 → ∀ b, b < 6 → a ≠ b → (TX1 a).2.1 ≠ (TX1 b).2.1 := by decide +kernel
theorem tyX1_ok : ∀ k, k < 6 → parseFieldDescriptor (TX1 k).2.2.1 = some (tyX1 k) := by decide +kernel
abbrev cX1_init : ByteArray := prog_3_method_1_code
def yX1_init : MethodName := ⟨RX1, "<init>", "()V"⟩
abbrev cX1_send : ByteArray := prog_3_method_2_code
def yX1_send : MethodName := ⟨RX1, "send", "(III)LOrderedTable$Message;"⟩
abbrev cX1_placeOf : ByteArray := prog_3_method_3_code
def yX1_placeOf : MethodName := ⟨RX1, "placeOf", "(I)I"⟩
abbrev cX1_takeOut : ByteArray := prog_3_method_4_code
def yX1_takeOut : MethodName := ⟨RX1, "takeOut", "(I)LOrderedTable$Message;"⟩
def RX2 : String := "OrderedTable$Client"
def TX2 : u_T := fun k => match k with
  | 0 => ("OrderedTable$Client", "asked", "I", false)
  | 1 => ("OrderedTable$Client", "latest", "I", false)
  | 2 => ("OrderedTable$Client", "state", "I", false)
  | 3 => ("OrderedTable$Client", "acceptedView", "LOrderedTable$View;", false)
  | 4 => ("OrderedTable$Client", "acceptedSlot", "I", false)
  | 5 => ("OrderedTable$Client", "answer", "I", false)
  | 6 => ("OrderedTable$Client", "size", "I", true)
  | 7 => ("OrderedTable$Client", "views", "[LOrderedTable$View;", true)
  | 8 => ("OrderedTable$Client", "slots", "[I", true)
  | 9 => ("OrderedTable$Client", "senders", "[I", true)
  | 10 => ("OrderedTable$Client", "answers", "[I", true)
  | 11 => ("OrderedTable$Client", "places", "I", false)
  | _ => ("OrderedTable$Client", "next", "I", false)
def tyX2 : Nat → FieldType := fun k => match k with
  | 0 => .int
  | 1 => .int
  | 2 => .int
  | 3 => .object "OrderedTable$View"
  | 4 => .int
  | 5 => .int
  | 6 => .int
  | 7 => .array (.object "OrderedTable$View")
  | 8 => .array .int
  | 9 => .array .int
  | 10 => .array .int
  | 11 => .int
  | _ => .int
abbrev wsX20 : List Cond := u_ws RX2 TX2 13
theorem nmX2 : ∀ a, a < 13 → ∀ b, b < 13 → a ≠ b → (TX2 a).2.1 ≠ (TX2 b).2.1 := by decide +kernel
theorem tyX2_ok : ∀ k, k < 13 → parseFieldDescriptor (TX2 k).2.2.1 = some (tyX2 k) := by decide +kernel
abbrev cX2_init : ByteArray := prog_4_method_1_code
def yX2_init : MethodName := ⟨RX2, "<init>", "(I)V"⟩
abbrev cX2_ask : ByteArray := prog_4_method_2_code
def yX2_ask : MethodName := ⟨RX2, "ask", "(I)V"⟩
abbrev cX2_hear : ByteArray := prog_4_method_3_code
def yX2_hear : MethodName := ⟨RX2, "hear", "(LOrderedTable$Message;)Z"⟩
abbrev cX2_placeOf : ByteArray := prog_4_method_4_code
def yX2_placeOf : MethodName := ⟨RX2, "placeOf", "(LOrderedTable$View;I)I"⟩
def RX3 : String := "OrderedTable$Held"
def TX3 : u_T := fun k => match k with
  | 0 => ("OrderedTable$Held", "slots", "[I", true)
  | 1 => ("OrderedTable$Held", "requests", "[I", true)
  | _ => ("OrderedTable$Held", "size", "I", false)
def tyX3 : Nat → FieldType := fun k => match k with
  | 0 => .array .int
  | 1 => .array .int
  | _ => .int
abbrev wsX30 : List Cond := u_ws RX3 TX3 3
theorem nmX3 : ∀ a, a < 3 → ∀ b, b < 3 → a ≠ b → (TX3 a).2.1 ≠ (TX3 b).2.1 := by decide +kernel
theorem tyX3_ok : ∀ k, k < 3 → parseFieldDescriptor (TX3 k).2.2.1 = some (tyX3 k) := by decide +kernel
abbrev cX3_init : ByteArray := prog_5_method_1_code
def yX3_init : MethodName := ⟨RX3, "<init>", "()V"⟩
abbrev cX3_has : ByteArray := prog_5_method_2_code
def yX3_has : MethodName := ⟨RX3, "has", "(I)Z"⟩
abbrev cX3_put : ByteArray := prog_5_method_3_code
def yX3_put : MethodName := ⟨RX3, "put", "(II)V"⟩
abbrev cX3_remove : ByteArray := prog_5_method_4_code
def yX3_remove : MethodName := ⟨RX3, "remove", "(I)I"⟩
abbrev cX3_indexOf : ByteArray := prog_5_method_5_code
def yX3_indexOf : MethodName := ⟨RX3, "indexOf", "(I)I"⟩
def RX4 : String := "OrderedTable$Log"
def TX4 : u_T := fun k => match k with
  | 0 => ("OrderedTable$Log", "entries", "[I", true)
  | _ => ("OrderedTable$Log", "length", "I", false)
def tyX4 : Nat → FieldType := fun k => match k with
  | 0 => .array .int
  | _ => .int
abbrev wsX40 : List Cond := u_ws RX4 TX4 2
theorem nmX4 : ∀ a, a < 2 → ∀ b, b < 2 → a ≠ b → (TX4 a).2.1 ≠ (TX4 b).2.1 := by decide +kernel
theorem tyX4_ok : ∀ k, k < 2 → parseFieldDescriptor (TX4 k).2.2.1 = some (tyX4 k) := by decide +kernel
abbrev cX4_init : ByteArray := prog_6_method_1_code
def yX4_init : MethodName := ⟨RX4, "<init>", "()V"⟩
abbrev cX4_has : ByteArray := prog_6_method_2_code
def yX4_has : MethodName := ⟨RX4, "has", "(I)Z"⟩
abbrev cX4_isFull : ByteArray := prog_6_method_3_code
def yX4_isFull : MethodName := ⟨RX4, "isFull", "()Z"⟩
abbrev cX4_at : ByteArray := prog_6_method_4_code
def yX4_at : MethodName := ⟨RX4, "at", "(I)I"⟩
abbrev cX4_put : ByteArray := prog_6_method_5_code
def yX4_put : MethodName := ⟨RX4, "put", "(II)V"⟩
abbrev cX4_copy : ByteArray := prog_6_method_6_code
def yX4_copy : MethodName := ⟨RX4, "copy", "(LOrderedTable$Log;)V"⟩
abbrev cX4_copyFirst : ByteArray := prog_6_method_7_code
def yX4_copyFirst : MethodName := ⟨RX4, "copyFirst", "(LOrderedTable$Log;I)V"⟩
def RX5 : String := "OrderedTable$Message"
def TX5 : u_T := fun k => match k with
  | 0 => ("OrderedTable$Message", "number", "I", false)
  | 1 => ("OrderedTable$Message", "kind", "I", false)
  | 2 => ("OrderedTable$Message", "from", "I", false)
  | 3 => ("OrderedTable$Message", "to", "I", false)
  | 4 => ("OrderedTable$Message", "view", "LOrderedTable$View;", false)
  | 5 => ("OrderedTable$Message", "session", "I", false)
  | 6 => ("OrderedTable$Message", "position", "I", false)
  | 7 => ("OrderedTable$Message", "request", "I", false)
  | 8 => ("OrderedTable$Message", "answer", "I", false)
  | 9 => ("OrderedTable$Message", "lastNormal", "LOrderedTable$View;", false)
  | 10 => ("OrderedTable$Message", "base", "I", false)
  | _ => ("OrderedTable$Message", "log", "LOrderedTable$Log;", true)
def tyX5 : Nat → FieldType := fun k => match k with
  | 0 => .int
  | 1 => .int
  | 2 => .int
  | 3 => .int
  | 4 => .object "OrderedTable$View"
  | 5 => .int
  | 6 => .int
  | 7 => .int
  | 8 => .int
  | 9 => .object "OrderedTable$View"
  | 10 => .int
  | _ => .object "OrderedTable$Log"
abbrev wsX50 : List Cond := u_ws RX5 TX5 12
theorem nmX5 : ∀ a, a < 12 → ∀ b, b < 12 → a ≠ b → (TX5 a).2.1 ≠ (TX5 b).2.1 := by decide +kernel
theorem tyX5_ok : ∀ k, k < 12 → parseFieldDescriptor (TX5 k).2.2.1 = some (tyX5 k) := by decide +kernel
abbrev cX5_init : ByteArray := prog_7_method_1_code
def yX5_init : MethodName := ⟨RX5, "<init>", "()V"⟩
def RX6 : String := "OrderedTable$Replica"
def TX6 : u_T := fun k => match k with
  | 0 => ("OrderedTable$Replica", "log", "LOrderedTable$Log;", true)
  | 1 => ("OrderedTable$Replica", "held", "LOrderedTable$Held;", true)
  | 2 => ("OrderedTable$Replica", "isDown", "Z", false)
  | 3 => ("OrderedTable$Replica", "status", "I", false)
  | 4 => ("OrderedTable$Replica", "view", "LOrderedTable$View;", false)
  | 5 => ("OrderedTable$Replica", "lastNormal", "LOrderedTable$View;", false)
  | 6 => ("OrderedTable$Replica", "base", "I", false)
  | 7 => ("OrderedTable$Replica", "point", "I", false)
  | 8 => ("OrderedTable$Replica", "synced", "I", false)
  | 9 => ("OrderedTable$Replica", "me", "I", true)
  | 10 => ("OrderedTable$Replica", "size", "I", true)
  | 11 => ("OrderedTable$Replica", "requests", "LOrderedTable$Requests;", true)
  | 12 => ("OrderedTable$Replica", "words", "LOrderedTable$Words;", true)
  | 13 => ("OrderedTable$Replica", "air", "LOrderedTable$Air;", true)
  | _ => ("OrderedTable$Replica", "tally", "LOrderedTable$Tally;", true)
def tyX6 : Nat → FieldType := fun k => match k with
  | 0 => .object "OrderedTable$Log"
  | 1 => .object "OrderedTable$Held"
  | 2 => .boolean
  | 3 => .int
  | 4 => .object "OrderedTable$View"
  | 5 => .object "OrderedTable$View"
  | 6 => .int
  | 7 => .int
  | 8 => .int
  | 9 => .int
  | 10 => .int
  | 11 => .object "OrderedTable$Requests"
  | 12 => .object "OrderedTable$Words"
  | 13 => .object "OrderedTable$Air"
  | _ => .object "OrderedTable$Tally"
abbrev wsX60 : List Cond := u_ws RX6 TX6 15
theorem nmX6 : ∀ a, a < 15 → ∀ b, b < 15 → a ≠ b → (TX6 a).2.1 ≠ (TX6 b).2.1 := by decide +kernel
theorem tyX6_ok : ∀ k, k < 15 → parseFieldDescriptor (TX6 k).2.2.1 = some (tyX6 k) := by decide +kernel
abbrev cX6_init : ByteArray := prog_8_method_1_code
def yX6_init : MethodName := ⟨RX6, "<init>", "(IILOrderedTable$Requests;LOrderedTable$Words;LOrderedTable$Air;)V"⟩
abbrev cX6_leads : ByteArray := prog_8_method_2_code
def yX6_leads : MethodName := ⟨RX6, "leads", "()Z"⟩
abbrev cX6_executed : ByteArray := prog_8_method_3_code
def yX6_executed : MethodName := ⟨RX6, "executed", "()I"⟩
abbrev cX6_forget : ByteArray := prog_8_method_4_code
def yX6_forget : MethodName := ⟨RX6, "forget", "()V"⟩
abbrev cX6_turnTo : ByteArray := prog_8_method_5_code
def yX6_turnTo : MethodName := ⟨RX6, "turnTo", "(LOrderedTable$View;)V"⟩
abbrev cX6_askAgain : ByteArray := prog_8_method_6_code
def yX6_askAgain : MethodName := ⟨RX6, "askAgain", "()V"⟩
abbrev cX6_receiveStamped : ByteArray := prog_8_method_7_code
def yX6_receiveStamped : MethodName := ⟨RX6, "receiveStamped", "(LOrderedTable$Message;)V"⟩
abbrev cX6_receiveOfAnyView : ByteArray := prog_8_method_8_code
def yX6_receiveOfAnyView : MethodName := ⟨RX6, "receiveOfAnyView", "(LOrderedTable$Message;)V"⟩
abbrev cX6_receiveOfItsView : ByteArray := prog_8_method_9_code
def yX6_receiveOfItsView : MethodName := ⟨RX6, "receiveOfItsView", "(LOrderedTable$Message;)V"⟩
abbrev cX6_receiveLookup : ByteArray := prog_8_method_10_code
def yX6_receiveLookup : MethodName := ⟨RX6, "receiveLookup", "(II)V"⟩
abbrev cX6_receiveFound : ByteArray := prog_8_method_11_code
def yX6_receiveFound : MethodName := ⟨RX6, "receiveFound", "(II)V"⟩
abbrev cX6_receiveGapCommit : ByteArray := prog_8_method_12_code
def yX6_receiveGapCommit : MethodName := ⟨RX6, "receiveGapCommit", "(I)V"⟩
abbrev cX6_receiveGapReply : ByteArray := prog_8_method_13_code
def yX6_receiveGapReply : MethodName := ⟨RX6, "receiveGapReply", "(II)V"⟩
abbrev cX6_receiveSync : ByteArray := prog_8_method_14_code
def yX6_receiveSync : MethodName := ⟨RX6, "receiveSync", "(LOrderedTable$Message;)V"⟩
abbrev cX6_receiveSyncReply : ByteArray := prog_8_method_15_code
def yX6_receiveSyncReply : MethodName := ⟨RX6, "receiveSyncReply", "(II)V"⟩
abbrev cX6_receivePoint : ByteArray := prog_8_method_16_code
def yX6_receivePoint : MethodName := ⟨RX6, "receivePoint", "(I)V"⟩
abbrev cX6_receiveTurned : ByteArray := prog_8_method_17_code
def yX6_receiveTurned : MethodName := ⟨RX6, "receiveTurned", "(LOrderedTable$Message;)V"⟩
abbrev cX6_receiveStart : ByteArray := prog_8_method_18_code
def yX6_receiveStart : MethodName := ⟨RX6, "receiveStart", "(LOrderedTable$Message;)V"⟩
abbrev cX6_becomeNormal : ByteArray := prog_8_method_19_code
def yX6_becomeNormal : MethodName := ⟨RX6, "becomeNormal", "()V"⟩
abbrev cX6_takeHeld : ByteArray := prog_8_method_20_code
def yX6_takeHeld : MethodName := ⟨RX6, "takeHeld", "()V"⟩
abbrev cX6_reply : ByteArray := prog_8_method_21_code
def yX6_reply : MethodName := ⟨RX6, "reply", "(II)V"⟩
abbrev cX6_mergeLogs : ByteArray := prog_8_method_22_code
def yX6_mergeLogs : MethodName := ⟨RX6, "mergeLogs", "()V"⟩
abbrev cX6_isMerged : ByteArray := prog_8_method_23_code
def yX6_isMerged : MethodName := ⟨RX6, "isMerged", "(ILOrderedTable$View;)Z"⟩
abbrev cX6_mergedEntry : ByteArray := prog_8_method_24_code
def yX6_mergedEntry : MethodName := ⟨RX6, "mergedEntry", "(ILOrderedTable$View;)I"⟩
abbrev cX6_isEnough : ByteArray := prog_8_method_25_code
def yX6_isEnough : MethodName := ⟨RX6, "isEnough", "(I)Z"⟩
abbrev cX6_sendTurns : ByteArray := prog_8_method_26_code
def yX6_sendTurns : MethodName := ⟨RX6, "sendTurns", "()V"⟩
abbrev cX6_sendToOthers : ByteArray := prog_8_method_27_code
def yX6_sendToOthers : MethodName := ⟨RX6, "sendToOthers", "(II)V"⟩
abbrev cX6_sendLogToOthers : ByteArray := prog_8_method_28_code
def yX6_sendLogToOthers : MethodName := ⟨RX6, "sendLogToOthers", "(I)V"⟩
abbrev cX6_sendLog : ByteArray := prog_8_method_29_code
def yX6_sendLog : MethodName := ⟨RX6, "sendLog", "(II)V"⟩
abbrev cX6_send : ByteArray := prog_8_method_30_code
def yX6_send : MethodName := ⟨RX6, "send", "(III)LOrderedTable$Message;"⟩
def RX7 : String := "OrderedTable$Requests"
def TX7 : u_T := fun k => match k with
  | 0 => ("OrderedTable$Requests", "client", "[I", true)
  | 1 => ("OrderedTable$Requests", "number", "[I", true)
  | 2 => ("OrderedTable$Requests", "kind", "[I", true)
  | 3 => ("OrderedTable$Requests", "key", "[I", true)
  | 4 => ("OrderedTable$Requests", "word", "[I", true)
  | _ => ("OrderedTable$Requests", "latest", "I", false)
def tyX7 : Nat → FieldType := fun k => match k with
  | 0 => .array .int
  | 1 => .array .int
  | 2 => .array .int
  | 3 => .array .int
  | 4 => .array .int
  | _ => .int
abbrev wsX70 : List Cond := u_ws RX7 TX7 6
theorem nmX7 : ∀ a, a < 6 → ∀ b, b < 6 → a ≠ b → (TX7 a).2.1 ≠ (TX7 b).2.1 := by decide +kernel
theorem tyX7_ok : ∀ k, k < 6 → parseFieldDescriptor (TX7 k).2.2.1 = some (tyX7 k) := by decide +kernel
abbrev cX7_init : ByteArray := prog_9_method_1_code
def yX7_init : MethodName := ⟨RX7, "<init>", "()V"⟩
abbrev cX7_add : ByteArray := prog_9_method_2_code
def yX7_add : MethodName := ⟨RX7, "add", "(IIIII)I"⟩
def RX8 : String := "OrderedTable$Tally"
def TX8 : u_T := fun k => match k with
  | 0 => ("OrderedTable$Tally", "gapReplies", "I", false)
  | 1 => ("OrderedTable$Tally", "syncReplies", "I", false)
  | 2 => ("OrderedTable$Tally", "syncRepliesFor", "I", false)
  | 3 => ("OrderedTable$Tally", "turned", "I", false)
  | 4 => ("OrderedTable$Tally", "lastNormals", "[LOrderedTable$View;", true)
  | 5 => ("OrderedTable$Tally", "bases", "[I", true)
  | _ => ("OrderedTable$Tally", "logs", "[LOrderedTable$Log;", true)
def tyX8 : Nat → FieldType := fun k => match k with
  | 0 => .int
  | 1 => .int
  | 2 => .int
  | 3 => .int
  | 4 => .array (.object "OrderedTable$View")
  | 5 => .array .int
  | _ => .array (.object "OrderedTable$Log")
abbrev wsX80 : List Cond := u_ws RX8 TX8 7
theorem nmX8 : ∀ a, a < 7 → ∀ b, b < 7 → a ≠ b → (TX8 a).2.1 ≠ (TX8 b).2.1 := by decide +kernel
theorem tyX8_ok : ∀ k, k < 7 → parseFieldDescriptor (TX8 k).2.2.1 = some (tyX8 k) := by decide +kernel
abbrev cX8_init : ByteArray := prog_10_method_1_code
def yX8_init : MethodName := ⟨RX8, "<init>", "(I)V"⟩
abbrev cX8_clear : ByteArray := prog_10_method_2_code
def yX8_clear : MethodName := ⟨RX8, "clear", "()V"⟩
abbrev cX8_addSyncReply : ByteArray := prog_10_method_3_code
def yX8_addSyncReply : MethodName := ⟨RX8, "addSyncReply", "(II)V"⟩
abbrev cX8_addTurned : ByteArray := prog_10_method_4_code
def yX8_addTurned : MethodName := ⟨RX8, "addTurned", "(LOrderedTable$Message;)V"⟩
abbrev cX8_hasTurned : ByteArray := prog_10_method_5_code
def yX8_hasTurned : MethodName := ⟨RX8, "hasTurned", "(I)Z"⟩
def RX9 : String := "OrderedTable$View"
def TX9 : u_T := fun k => match k with
  | 0 => ("OrderedTable$View", "lead", "I", true)
  | _ => ("OrderedTable$View", "session", "I", true)
def tyX9 : Nat → FieldType := fun k => match k with
  | 0 => .int
  | _ => .int
abbrev wsX90 : List Cond := u_ws RX9 TX9 2
theorem nmX9 : ∀ a, a < 2 → ∀ b, b < 2 → a ≠ b → (TX9 a).2.1 ≠ (TX9 b).2.1 := by decide +kernel
theorem tyX9_ok : ∀ k, k < 2 → parseFieldDescriptor (TX9 k).2.2.1 = some (tyX9 k) := by decide +kernel
abbrev cX9_init : ByteArray := prog_11_method_1_code
def yX9_init : MethodName := ⟨RX9, "<init>", "(II)V"⟩
abbrev cX9_isSame : ByteArray := prog_11_method_2_code
def yX9_isSame : MethodName := ⟨RX9, "isSame", "(LOrderedTable$View;)Z"⟩
abbrev cX9_isBehind : ByteArray := prog_11_method_3_code
def yX9_isBehind : MethodName := ⟨RX9, "isBehind", "(LOrderedTable$View;)Z"⟩
abbrev cX9_isLater : ByteArray := prog_11_method_4_code
def yX9_isLater : MethodName := ⟨RX9, "isLater", "(LOrderedTable$View;)Z"⟩
abbrev cX9_joinedWith : ByteArray := prog_11_method_5_code
def yX9_joinedWith : MethodName := ⟨RX9, "joinedWith", "(LOrderedTable$View;)LOrderedTable$View;"⟩
abbrev cX9_leader : ByteArray := prog_11_method_6_code
def yX9_leader : MethodName := ⟨RX9, "leader", "(I)I"⟩
def RX10 : String := "OrderedTable$Words"
def TX10 : u_T := fun k => match k with
  | 0 => ("OrderedTable$Words", "words", "[I", true)
  | 1 => ("OrderedTable$Words", "requests", "LOrderedTable$Requests;", true)
  | 2 => ("OrderedTable$Words", "latest", "[I", true)
  | 3 => ("OrderedTable$Words", "executed", "[I", true)
  | _ => ("OrderedTable$Words", "answers", "[I", true)
def tyX10 : Nat → FieldType := fun k => match k with
  | 0 => .array .int
  | 1 => .object "OrderedTable$Requests"
  | 2 => .array .int
  | 3 => .array .int
  | _ => .array .int
abbrev wsX100 : List Cond := u_ws RX10 TX10 5
theorem nmX10 : ∀ a, a < 5 → ∀ b, b < 5 → a ≠ b → (TX10 a).2.1 ≠ (TX10 b).2.1 := by decide +kernel
theorem tyX10_ok : ∀ k, k < 5 → parseFieldDescriptor (TX10 k).2.2.1 = some (tyX10 k) := by decide +kernel
abbrev cX10_init : ByteArray := prog_12_method_1_code
def yX10_init : MethodName := ⟨RX10, "<init>", "(LOrderedTable$Requests;)V"⟩
abbrev cX10_execute : ByteArray := prog_12_method_2_code
def yX10_execute : MethodName := ⟨RX10, "execute", "(LOrderedTable$Log;I)V"⟩
abbrev cX10_hasExecuted : ByteArray := prog_12_method_3_code
def yX10_hasExecuted : MethodName := ⟨RX10, "hasExecuted", "(I)Z"⟩
abbrev cX10_isLatest : ByteArray := prog_12_method_4_code
def yX10_isLatest : MethodName := ⟨RX10, "isLatest", "(I)Z"⟩
abbrev cX10_answerTo : ByteArray := prog_12_method_5_code
def yX10_answerTo : MethodName := ⟨RX10, "answerTo", "(I)I"⟩
abbrev cX10_isNew : ByteArray := prog_12_method_6_code
def yX10_isNew : MethodName := ⟨RX10, "isNew", "(I)Z"⟩
abbrev cX10_executeRequest : ByteArray := prog_12_method_7_code
def yX10_executeRequest : MethodName := ⟨RX10, "executeRequest", "(I)V"⟩
def RX11 : String := "OrderedTable"
def TX11 : u_T := fun k => match k with
  | 0 => ("OrderedTable", "size", "I", true)
  | 1 => ("OrderedTable", "requests", "LOrderedTable$Requests;", true)
  | 2 => ("OrderedTable", "words", "LOrderedTable$Words;", true)
  | 3 => ("OrderedTable", "air", "LOrderedTable$Air;", true)
  | 4 => ("OrderedTable", "replicas", "[LOrderedTable$Replica;", true)
  | 5 => ("OrderedTable", "clients", "[LOrderedTable$Client;", true)
  | 6 => ("OrderedTable", "accepted", "LOrderedTable$AcceptedOnes;", true)
  | 7 => ("OrderedTable", "sequencerIsUp", "Z", false)
  | 8 => ("OrderedTable", "session", "I", false)
  | _ => ("OrderedTable", "count", "I", false)
def tyX11 : Nat → FieldType := fun k => match k with
  | 0 => .int
  | 1 => .object "OrderedTable$Requests"
  | 2 => .object "OrderedTable$Words"
  | 3 => .object "OrderedTable$Air"
  | 4 => .array (.object "OrderedTable$Replica")
  | 5 => .array (.object "OrderedTable$Client")
  | 6 => .object "OrderedTable$AcceptedOnes"
  | 7 => .boolean
  | 8 => .int
  | _ => .int
abbrev wsX110 : List Cond := u_ws RX11 TX11 10
theorem nmX11 : ∀ a, a < 10 → ∀ b, b < 10 → a ≠ b → (TX11 a).2.1 ≠ (TX11 b).2.1 := by decide +kernel
theorem tyX11_ok : ∀ k, k < 10 → parseFieldDescriptor (TX11 k).2.2.1 = some (tyX11 k) := by decide +kernel
abbrev cX11_init : ByteArray := prog_1_method_1_code
def yX11_init : MethodName := ⟨RX11, "<init>", "(I)V"⟩
abbrev cX11_request : ByteArray := prog_1_method_2_code
def yX11_request : MethodName := ⟨RX11, "request", "(IIII)I"⟩
abbrev cX11_again : ByteArray := prog_1_method_3_code
def yX11_again : MethodName := ⟨RX11, "again", "(I)V"⟩
abbrev cX11_deliver : ByteArray := prog_1_method_4_code
def yX11_deliver : MethodName := ⟨RX11, "deliver", "(I)V"⟩
abbrev cX11_lose : ByteArray := prog_1_method_5_code
def yX11_lose : MethodName := ⟨RX11, "lose", "(I)V"⟩
abbrev cX11_flow : ByteArray := prog_1_method_6_code
def yX11_flow : MethodName := ⟨RX11, "flow", "(I)I"⟩
abbrev cX11_down : ByteArray := prog_1_method_7_code
def yX11_down : MethodName := ⟨RX11, "down", "(I)V"⟩
abbrev cX11_up : ByteArray := prog_1_method_8_code
def yX11_up : MethodName := ⟨RX11, "up", "(I)V"⟩
abbrev cX11_suspect : ByteArray := prog_1_method_9_code
def yX11_suspect : MethodName := ⟨RX11, "suspect", "(I)V"⟩
abbrev cX11_nudge : ByteArray := prog_1_method_10_code
def yX11_nudge : MethodName := ⟨RX11, "nudge", "(I)I"⟩
abbrev cX11_sync : ByteArray := prog_1_method_11_code
def yX11_sync : MethodName := ⟨RX11, "sync", "(I)V"⟩
abbrev cX11_fail : ByteArray := prog_1_method_12_code
def yX11_fail : MethodName := ⟨RX11, "fail", "()Z"⟩
abbrev cX11_install : ByteArray := prog_1_method_13_code
def yX11_install : MethodName := ⟨RX11, "install", "()I"⟩
abbrev cX11_replica : ByteArray := prog_1_method_14_code
def yX11_replica : MethodName := ⟨RX11, "replica", "(II)I"⟩
abbrev cX11_entry : ByteArray := prog_1_method_15_code
def yX11_entry : MethodName := ⟨RX11, "entry", "(III)I"⟩
abbrev cX11_word : ByteArray := prog_1_method_16_code
def yX11_word : MethodName := ⟨RX11, "word", "(II)I"⟩
abbrev cX11_client : ByteArray := prog_1_method_17_code
def yX11_client : MethodName := ⟨RX11, "client", "(II)I"⟩
abbrev cX11_answer : ByteArray := prog_1_method_18_code
def yX11_answer : MethodName := ⟨RX11, "answer", "(I)I"⟩
abbrev cX11_about : ByteArray := prog_1_method_19_code
def yX11_about : MethodName := ⟨RX11, "about", "(I)I"⟩
abbrev cX11_message : ByteArray := prog_1_method_20_code
def yX11_message : MethodName := ⟨RX11, "message", "(II)I"⟩
abbrev cX11_broken : ByteArray := prog_1_method_21_code
def yX11_broken : MethodName := ⟨RX11, "broken", "()I"⟩
abbrev cX11_isClient : ByteArray := prog_1_method_22_code
def yX11_isClient : MethodName := ⟨RX11, "isClient", "(I)Z"⟩
abbrev cX11_isKey : ByteArray := prog_1_method_23_code
def yX11_isKey : MethodName := ⟨RX11, "isKey", "(I)Z"⟩
abbrev cX11_isReplica : ByteArray := prog_1_method_24_code
def yX11_isReplica : MethodName := ⟨RX11, "isReplica", "(I)Z"⟩
abbrev cX11_downNow : ByteArray := prog_1_method_25_code
def yX11_downNow : MethodName := ⟨RX11, "downNow", "()I"⟩
abbrev cX11_stamp : ByteArray := prog_1_method_26_code
def yX11_stamp : MethodName := ⟨RX11, "stamp", "(I)V"⟩
abbrev cX11_handOver : ByteArray := prog_1_method_27_code
def yX11_handOver : MethodName := ⟨RX11, "handOver", "(LOrderedTable$Message;)V"⟩
def RX12 : String := "OrderedTableModel"
def TX12 : u_T := fun k => match k with
  | 0 => ("OrderedTableModel", "thrown", "I", false)
  | 1 => ("OrderedTableModel", "n", "I", true)
  | 2 => ("OrderedTableModel", "f", "I", true)
  | 3 => ("OrderedTableModel", "requests", "I", false)
  | 4 => ("OrderedTableModel", "requestClient", "[I", true)
  | 5 => ("OrderedTableModel", "requestNumber", "[I", true)
  | 6 => ("OrderedTableModel", "requestKind", "[I", true)
  | 7 => ("OrderedTableModel", "requestKey", "[I", true)
  | 8 => ("OrderedTableModel", "requestWord", "[I", true)
  | 9 => ("OrderedTableModel", "up", "Z", false)
  | 10 => ("OrderedTableModel", "session", "I", false)
  | 11 => ("OrderedTableModel", "count", "I", false)
  | 12 => ("OrderedTableModel", "air", "I", false)
  | 13 => ("OrderedTableModel", "sent", "I", false)
  | 14 => ("OrderedTableModel", "lost", "I", false)
  | 15 => ("OrderedTableModel", "order", "[I", true)
  | 16 => ("OrderedTableModel", "free", "[I", true)
  | 17 => ("OrderedTableModel", "number", "[I", true)
  | 18 => ("OrderedTableModel", "kind", "[I", true)
  | 19 => ("OrderedTableModel", "from", "[I", true)
  | 20 => ("OrderedTableModel", "to", "[I", true)
  | 21 => ("OrderedTableModel", "viewL", "[I", true)
  | 22 => ("OrderedTableModel", "viewS", "[I", true)
  | 23 => ("OrderedTableModel", "told", "[I", true)
  | 24 => ("OrderedTableModel", "about", "[I", true)
  | 25 => ("OrderedTableModel", "reply", "[I", true)
  | 26 => ("OrderedTableModel", "lastL", "[I", true)
  | 27 => ("OrderedTableModel", "lastS", "[I", true)
  | 28 => ("OrderedTableModel", "bases", "[I", true)
  | 29 => ("OrderedTableModel", "lengths", "[I", true)
  | 30 => ("OrderedTableModel", "answers", "[Z", true)
  | 31 => ("OrderedTableModel", "logs", "[I", true)
  | 32 => ("OrderedTableModel", "down", "[Z", true)
  | 33 => ("OrderedTableModel", "rL", "[I", true)
  | 34 => ("OrderedTableModel", "rS", "[I", true)
  | 35 => ("OrderedTableModel", "status", "[I", true)
  | 36 => ("OrderedTableModel", "normalL", "[I", true)
  | 37 => ("OrderedTableModel", "normalS", "[I", true)
  | 38 => ("OrderedTableModel", "length", "[I", true)
  | 39 => ("OrderedTableModel", "base", "[I", true)
  | 40 => ("OrderedTableModel", "point", "[I", true)
  | 41 => ("OrderedTableModel", "synced", "[I", true)
  | 42 => ("OrderedTableModel", "log", "[I", true)
  | 43 => ("OrderedTableModel", "holds", "[I", true)
  | 44 => ("OrderedTableModel", "heldNumber", "[I", true)
  | 45 => ("OrderedTableModel", "heldRequest", "[I", true)
  | 46 => ("OrderedTableModel", "gapBits", "[I", true)
  | 47 => ("OrderedTableModel", "syncBits", "[I", true)
  | 48 => ("OrderedTableModel", "syncAt", "[I", true)
  | 49 => ("OrderedTableModel", "turnedBits", "[I", true)
  | 50 => ("OrderedTableModel", "turnedL", "[I", true)
  | 51 => ("OrderedTableModel", "turnedS", "[I", true)
  | 52 => ("OrderedTableModel", "turnedBase", "[I", true)
  | 53 => ("OrderedTableModel", "turnedLength", "[I", true)
  | 54 => ("OrderedTableModel", "turnedLog", "[I", true)
  | 55 => ("OrderedTableModel", "merged", "[I", true)
  | 56 => ("OrderedTableModel", "carried", "[I", true)
  | 57 => ("OrderedTableModel", "made", "[I", true)
  | 58 => ("OrderedTableModel", "latest", "[I", true)
  | 59 => ("OrderedTableModel", "state", "[I", true)
  | 60 => ("OrderedTableModel", "atSlot", "[I", true)
  | 61 => ("OrderedTableModel", "atL", "[I", true)
  | 62 => ("OrderedTableModel", "atS", "[I", true)
  | 63 => ("OrderedTableModel", "got", "[I", true)
  | 64 => ("OrderedTableModel", "tolds", "[I", true)
  | 65 => ("OrderedTableModel", "toldL", "[I", true)
  | 66 => ("OrderedTableModel", "toldS", "[I", true)
  | 67 => ("OrderedTableModel", "toldSlot", "[I", true)
  | 68 => ("OrderedTableModel", "toldBits", "[I", true)
  | 69 => ("OrderedTableModel", "toldAnswer", "[I", true)
  | 70 => ("OrderedTableModel", "accepted", "I", false)
  | 71 => ("OrderedTableModel", "factRequest", "[I", true)
  | 72 => ("OrderedTableModel", "factL", "[I", true)
  | 73 => ("OrderedTableModel", "factS", "[I", true)
  | 74 => ("OrderedTableModel", "factSlot", "[I", true)
  | 75 => ("OrderedTableModel", "factAnswer", "[I", true)
  | 76 => ("OrderedTableModel", "words", "[I", true)
  | 77 => ("OrderedTableModel", "done", "[I", true)
  | _ => ("OrderedTableModel", "answered", "[I", true)
def tyX12 : Nat → FieldType := fun k => match k with
  | 0 => .int
  | 1 => .int
  | 2 => .int
  | 3 => .int
  | 4 => .array .int
  | 5 => .array .int
  | 6 => .array .int
  | 7 => .array .int
  | 8 => .array .int
  | 9 => .boolean
  | 10 => .int
  | 11 => .int
  | 12 => .int
  | 13 => .int
  | 14 => .int
  | 15 => .array .int
  | 16 => .array .int
  | 17 => .array .int
  | 18 => .array .int
  | 19 => .array .int
  | 20 => .array .int
  | 21 => .array .int
  | 22 => .array .int
  | 23 => .array .int
  | 24 => .array .int
  | 25 => .array .int
  | 26 => .array .int
  | 27 => .array .int
  | 28 => .array .int
  | 29 => .array .int
  | 30 => .array .boolean
  | 31 => .array .int
  | 32 => .array .boolean
  | 33 => .array .int
  | 34 => .array .int
  | 35 => .array .int
  | 36 => .array .int
  | 37 => .array .int
  | 38 => .array .int
  | 39 => .array .int
  | 40 => .array .int
  | 41 => .array .int
  | 42 => .array .int
  | 43 => .array .int
  | 44 => .array .int
  | 45 => .array .int
  | 46 => .array .int
  | 47 => .array .int
  | 48 => .array .int
  | 49 => .array .int
  | 50 => .array .int
  | 51 => .array .int
  | 52 => .array .int
  | 53 => .array .int
  | 54 => .array .int
  | 55 => .array .int
  | 56 => .array .int
  | 57 => .array .int
  | 58 => .array .int
  | 59 => .array .int
  | 60 => .array .int
  | 61 => .array .int
  | 62 => .array .int
  | 63 => .array .int
  | 64 => .array .int
  | 65 => .array .int
  | 66 => .array .int
  | 67 => .array .int
  | 68 => .array .int
  | 69 => .array .int
  | 70 => .int
  | 71 => .array .int
  | 72 => .array .int
  | 73 => .array .int
  | 74 => .array .int
  | 75 => .array .int
  | 76 => .array .int
  | 77 => .array .int
  | _ => .array .int
abbrev wsX120 : List Cond := u_ws RX12 TX12 79
theorem nmX12 : ∀ a, a < 79 → ∀ b, b < 79 → a ≠ b → (TX12 a).2.1 ≠ (TX12 b).2.1 := by decide +kernel
theorem tyX12_ok : ∀ k, k < 79 → parseFieldDescriptor (TX12 k).2.2.1 = some (tyX12 k) := by decide +kernel
abbrev cX12_init : ByteArray := prog_14_method_1_code
def yX12_init : MethodName := ⟨RX12, "<init>", "(I)V"⟩
abbrev cX12_thrown : ByteArray := prog_14_method_2_code
def yX12_thrown : MethodName := ⟨RX12, "thrown", "()I"⟩
abbrev cX12_in : ByteArray := prog_14_method_3_code
def yX12_in : MethodName := ⟨RX12, "in", "(II)Z"⟩
abbrev cX12_ones : ByteArray := prog_14_method_4_code
def yX12_ones : MethodName := ⟨RX12, "ones", "(I)I"⟩
abbrev cX12_send : ByteArray := prog_14_method_5_code
def yX12_send : MethodName := ⟨RX12, "send", "(IIIIIII)I"⟩
abbrev cX12_taken : ByteArray := prog_14_method_6_code
def yX12_taken : MethodName := ⟨RX12, "taken", "(I)I"⟩
abbrev cX12_find : ByteArray := prog_14_method_7_code
def yX12_find : MethodName := ⟨RX12, "find", "(I)I"⟩
abbrev cX12_all : ByteArray := prog_14_method_8_code
def yX12_all : MethodName := ⟨RX12, "all", "(III)V"⟩
abbrev cX12_load : ByteArray := prog_14_method_9_code
def yX12_load : MethodName := ⟨RX12, "load", "(III)V"⟩
abbrev cX12_stamp : ByteArray := prog_14_method_10_code
def yX12_stamp : MethodName := ⟨RX12, "stamp", "(I)V"⟩
abbrev cX12_execute : ByteArray := prog_14_method_11_code
def yX12_execute : MethodName := ⟨RX12, "execute", "(II)V"⟩
abbrev cX12_leads : ByteArray := prog_14_method_12_code
def yX12_leads : MethodName := ⟨RX12, "leads", "(I)Z"⟩
abbrev cX12_leader : ByteArray := prog_14_method_13_code
def yX12_leader : MethodName := ⟨RX12, "leader", "(I)I"⟩
abbrev cX12_executed : ByteArray := prog_14_method_14_code
def yX12_executed : MethodName := ⟨RX12, "executed", "(I)I"⟩
abbrev cX12_held : ByteArray := prog_14_method_15_code
def yX12_held : MethodName := ⟨RX12, "held", "(II)I"⟩
abbrev cX12_hold : ByteArray := prog_14_method_16_code
def yX12_hold : MethodName := ⟨RX12, "hold", "(III)V"⟩
abbrev cX12_unhold : ByteArray := prog_14_method_17_code
def yX12_unhold : MethodName := ⟨RX12, "unhold", "(II)V"⟩
abbrev cX12_forget : ByteArray := prog_14_method_18_code
def yX12_forget : MethodName := ⟨RX12, "forget", "(I)V"⟩
abbrev cX12_append : ByteArray := prog_14_method_19_code
def yX12_append : MethodName := ⟨RX12, "append", "(II)V"⟩
abbrev cX12_answer : ByteArray := prog_14_method_20_code
def yX12_answer : MethodName := ⟨RX12, "answer", "(II)V"⟩
abbrev cX12_take : ByteArray := prog_14_method_21_code
def yX12_take : MethodName := ⟨RX12, "take", "(I)V"⟩
abbrev cX12_tellTurned : ByteArray := prog_14_method_22_code
def yX12_tellTurned : MethodName := ⟨RX12, "tellTurned", "(I)V"⟩
abbrev cX12_turn : ByteArray := prog_14_method_23_code
def yX12_turn : MethodName := ⟨RX12, "turn", "(III)V"⟩
abbrev cX12_normalOf : ByteArray := prog_14_method_24_code
def yX12_normalOf : MethodName := ⟨RX12, "normalOf", "(IIZ)I"⟩
abbrev cX12_lengthOf : ByteArray := prog_14_method_25_code
def yX12_lengthOf : MethodName := ⟨RX12, "lengthOf", "(II)I"⟩
abbrev cX12_entryOf : ByteArray := prog_14_method_26_code
def yX12_entryOf : MethodName := ⟨RX12, "entryOf", "(III)I"⟩
abbrev cX12_isIn : ByteArray := prog_14_method_27_code
def yX12_isIn : MethodName := ⟨RX12, "isIn", "(II)Z"⟩
abbrev cX12_mergedAt : ByteArray := prog_14_method_28_code
def yX12_mergedAt : MethodName := ⟨RX12, "mergedAt", "(IIII)I"⟩
abbrev cX12_merge : ByteArray := prog_14_method_29_code
def yX12_merge : MethodName := ⟨RX12, "merge", "(I)V"⟩
abbrev cX12_settle : ByteArray := prog_14_method_30_code
def yX12_settle : MethodName := ⟨RX12, "settle", "(I)V"⟩
abbrev cX12_isBehind : ByteArray := prog_14_method_31_code
def yX12_isBehind : MethodName := ⟨RX12, "isBehind", "(IIII)Z"⟩
abbrev cX12_stamped : ByteArray := prog_14_method_32_code
def yX12_stamped : MethodName := ⟨RX12, "stamped", "(IIII)V"⟩
abbrev cX12_lookup : ByteArray := prog_14_method_33_code
def yX12_lookup : MethodName := ⟨RX12, "lookup", "(III)V"⟩
abbrev cX12_gapCommit : ByteArray := prog_14_method_34_code
def yX12_gapCommit : MethodName := ⟨RX12, "gapCommit", "(III)V"⟩
abbrev cX12_gapReply : ByteArray := prog_14_method_35_code
def yX12_gapReply : MethodName := ⟨RX12, "gapReply", "(III)V"⟩
abbrev cX12_sync : ByteArray := prog_14_method_36_code
def yX12_sync : MethodName := ⟨RX12, "sync", "(II)V"⟩
abbrev cX12_syncReply : ByteArray := prog_14_method_37_code
def yX12_syncReply : MethodName := ⟨RX12, "syncReply", "(III)V"⟩
abbrev cX12_follow : ByteArray := prog_14_method_38_code
def yX12_follow : MethodName := ⟨RX12, "follow", "(III)V"⟩
abbrev cX12_turned : ByteArray := prog_14_method_39_code
def yX12_turned : MethodName := ⟨RX12, "turned", "(IIIIIIII)V"⟩
abbrev cX12_start : ByteArray := prog_14_method_40_code
def yX12_start : MethodName := ⟨RX12, "start", "(IIIII)V"⟩
abbrev cX12_forgetFirst : ByteArray := prog_14_method_41_code
def yX12_forgetFirst : MethodName := ⟨RX12, "forgetFirst", "(I)I"⟩
abbrev cX12_replied : ByteArray := prog_14_method_42_code
def yX12_replied : MethodName := ⟨RX12, "replied", "(IIIIIIZI)V"⟩
abbrev cX12_inView : ByteArray := prog_14_method_43_code
def yX12_inView : MethodName := ⟨RX12, "inView", "(IIIII)V"⟩
abbrev cX12_arrive : ByteArray := prog_14_method_44_code
def yX12_arrive : MethodName := ⟨RX12, "arrive", "(I)V"⟩
abbrev cX12_request : ByteArray := prog_14_method_45_code
def yX12_request : MethodName := ⟨RX12, "request", "(IIII)I"⟩
abbrev cX12_again : ByteArray := prog_14_method_46_code
def yX12_again : MethodName := ⟨RX12, "again", "(I)V"⟩
abbrev cX12_deliver : ByteArray := prog_14_method_47_code
def yX12_deliver : MethodName := ⟨RX12, "deliver", "(I)V"⟩
abbrev cX12_lose : ByteArray := prog_14_method_48_code
def yX12_lose : MethodName := ⟨RX12, "lose", "(I)V"⟩
abbrev cX12_flow : ByteArray := prog_14_method_49_code
def yX12_flow : MethodName := ⟨RX12, "flow", "(I)I"⟩
abbrev cX12_down : ByteArray := prog_14_method_50_code
def yX12_down : MethodName := ⟨RX12, "down", "(I)V"⟩
abbrev cX12_up : ByteArray := prog_14_method_51_code
def yX12_up : MethodName := ⟨RX12, "up", "(I)V"⟩
abbrev cX12_may : ByteArray := prog_14_method_52_code
def yX12_may : MethodName := ⟨RX12, "may", "(I)Z"⟩
abbrev cX12_suspect : ByteArray := prog_14_method_53_code
def yX12_suspect : MethodName := ⟨RX12, "suspect", "(I)V"⟩
abbrev cX12_nudge : ByteArray := prog_14_method_54_code
def yX12_nudge : MethodName := ⟨RX12, "nudge", "(I)I"⟩
abbrev cX12_sync_ : ByteArray := prog_14_method_55_code
def yX12_sync_ : MethodName := ⟨RX12, "sync", "(I)V"⟩
abbrev cX12_fail : ByteArray := prog_14_method_56_code
def yX12_fail : MethodName := ⟨RX12, "fail", "()Z"⟩
abbrev cX12_install : ByteArray := prog_14_method_57_code
def yX12_install : MethodName := ⟨RX12, "install", "()I"⟩
abbrev cX12_replica : ByteArray := prog_14_method_58_code
def yX12_replica : MethodName := ⟨RX12, "replica", "(II)I"⟩
abbrev cX12_entry : ByteArray := prog_14_method_59_code
def yX12_entry : MethodName := ⟨RX12, "entry", "(III)I"⟩
abbrev cX12_word : ByteArray := prog_14_method_60_code
def yX12_word : MethodName := ⟨RX12, "word", "(II)I"⟩
abbrev cX12_client : ByteArray := prog_14_method_61_code
def yX12_client : MethodName := ⟨RX12, "client", "(II)I"⟩
abbrev cX12_answer_ : ByteArray := prog_14_method_62_code
def yX12_answer_ : MethodName := ⟨RX12, "answer", "(I)I"⟩
abbrev cX12_about : ByteArray := prog_14_method_63_code
def yX12_about : MethodName := ⟨RX12, "about", "(I)I"⟩
abbrev cX12_message : ByteArray := prog_14_method_64_code
def yX12_message : MethodName := ⟨RX12, "message", "(II)I"⟩
abbrev cX12_has : ByteArray := prog_14_method_65_code
def yX12_has : MethodName := ⟨RX12, "has", "(II)Z"⟩
abbrev cX12_broken : ByteArray := prog_14_method_66_code
def yX12_broken : MethodName := ⟨RX12, "broken", "()I"⟩
def RJx145de : String := "java/io/Serializable"
def TJx145de : u_T := fun k => match k with
  | _ => ("", "", "", false)
def tyJx145de : Nat → FieldType := fun k => match k with
  | _ => .int
theorem nmJx145de : ∀ a, a < 0 → ∀ b, b < 0 → a ≠ b → (TJx145de a).2.1 ≠ (TJx145de b).2.1 := by decide +kernel
theorem tyJx145de_ok : ∀ k, k < 0 → parseFieldDescriptor (TJx145de k).2.2.1 = some (tyJx145de k) := by decide +kernel
def RJ6 : String := "java/lang/Integer"
def TJ6 : u_T := fun k => match k with
  | _ => ("", "", "", false)
def tyJ6 : Nat → FieldType := fun k => match k with
  | _ => .int
theorem nmJ6 : ∀ a, a < 0 → ∀ b, b < 0 → a ≠ b → (TJ6 a).2.1 ≠ (TJ6 b).2.1 := by decide +kernel
theorem tyJ6_ok : ∀ k, k < 0 → parseFieldDescriptor (TJ6 k).2.2.1 = some (tyJ6 k) := by decide +kernel
abbrev cJ6_bitCount_0f7a4 : ByteArray := prog_19_method_49_code
def yJ6_bitCount_0f7a4 : MethodName := ⟨RJ6, "bitCount", "(I)I"⟩
def RJ9 : String := "java/lang/Math"
def TJ9 : u_T := fun k => match k with
  | _ => ("", "", "", false)
def tyJ9 : Nat → FieldType := fun k => match k with
  | _ => .int
theorem nmJ9 : ∀ a, a < 0 → ∀ b, b < 0 → a ≠ b → (TJ9 a).2.1 ≠ (TJ9 b).2.1 := by decide +kernel
theorem tyJ9_ok : ∀ k, k < 0 → parseFieldDescriptor (TJ9 k).2.2.1 = some (tyJ9 k) := by decide +kernel
abbrev cJ9_floorMod_7cf53 : ByteArray := prog_20_method_50_code
def yJ9_floorMod_7cf53 : MethodName := ⟨RJ9, "floorMod", "(II)I"⟩
abbrev cJ9_max_7cf53 : ByteArray := prog_20_method_65_code
def yJ9_max_7cf53 : MethodName := ⟨RJ9, "max", "(II)I"⟩
abbrev cJ9_min_7cf53 : ByteArray := prog_20_method_69_code
def yJ9_min_7cf53 : MethodName := ⟨RJ9, "min", "(II)I"⟩
def RJ0 : String := "java/lang/String"
def TJ0 : u_T := fun k => match k with
  | _ => ("", "", "", false)
def tyJ0 : Nat → FieldType := fun k => match k with
  | _ => .int
theorem nmJ0 : ∀ a, a < 0 → ∀ b, b < 0 → a ≠ b → (TJ0 a).2.1 ≠ (TJ0 b).2.1 := by decide +kernel
theorem tyJ0_ok : ∀ k, k < 0 → parseFieldDescriptor (TJ0 k).2.2.1 = some (tyJ0 k) := by decide +kernel
def RJ10 : String := "java/lang/System"
def TJ10 : u_T := fun k => match k with
  | _ => ("", "", "", false)
def tyJ10 : Nat → FieldType := fun k => match k with
  | _ => .int
theorem nmJ10 : ∀ a, a < 0 → ∀ b, b < 0 → a ≠ b → (TJ10 a).2.1 ≠ (TJ10 b).2.1 := by decide +kernel
theorem tyJ10_ok : ∀ k, k < 0 → parseFieldDescriptor (TJ10 k).2.2.1 = some (tyJ10 k) := by decide +kernel
def RJ7 : String := "java/util/Arrays"
def TJ7 : u_T := fun k => match k with
  | _ => ("", "", "", false)
def tyJ7 : Nat → FieldType := fun k => match k with
  | _ => .int
theorem nmJ7 : ∀ a, a < 0 → ∀ b, b < 0 → a ≠ b → (TJ7 a).2.1 ≠ (TJ7 b).2.1 := by decide +kernel
theorem tyJ7_ok : ∀ k, k < 0 → parseFieldDescriptor (TJ7 k).2.2.1 = some (tyJ7 k) := by decide +kernel
abbrev cJ7_fill_53178 : ByteArray := prog_25_method_103_code
def yJ7_fill_53178 : MethodName := ⟨RJ7, "fill", "([II)V"⟩
def RL : String := "OrderedTableLaw"
abbrev cL_cell : ByteArray := method_2_code
def yL_cell : MethodName := ⟨RL, "cell", "([II)I"⟩
abbrev cL_request : ByteArray := method_3_code
def yL_request : MethodName := ⟨RL, "request", "(LOrderedTable;IIII[J)I"⟩
abbrev cL_again : ByteArray := method_4_code
def yL_again : MethodName := ⟨RL, "again", "(LOrderedTable;I)I"⟩
abbrev cL_deliver : ByteArray := method_5_code
def yL_deliver : MethodName := ⟨RL, "deliver", "(LOrderedTable;I)I"⟩
abbrev cL_lose : ByteArray := method_6_code
def yL_lose : MethodName := ⟨RL, "lose", "(LOrderedTable;I)I"⟩
abbrev cL_flow : ByteArray := method_7_code
def yL_flow : MethodName := ⟨RL, "flow", "(LOrderedTable;I[J)I"⟩
abbrev cL_down : ByteArray := method_8_code
def yL_down : MethodName := ⟨RL, "down", "(LOrderedTable;I)I"⟩
abbrev cL_up : ByteArray := method_9_code
def yL_up : MethodName := ⟨RL, "up", "(LOrderedTable;I)I"⟩
abbrev cL_suspect : ByteArray := method_10_code
def yL_suspect : MethodName := ⟨RL, "suspect", "(LOrderedTable;I)I"⟩
abbrev cL_nudge : ByteArray := method_11_code
def yL_nudge : MethodName := ⟨RL, "nudge", "(LOrderedTable;I[J)I"⟩
abbrev cL_sync : ByteArray := method_12_code
def yL_sync : MethodName := ⟨RL, "sync", "(LOrderedTable;I)I"⟩
abbrev cL_law : ByteArray := code
def yL_law : MethodName := ⟨RL, "law", "([I)Z"⟩
abbrev vwCl : List vw_C := [(RX0, TX0, 8), (RX1, TX1, 6), (RX2, TX2, 13), (RX3, TX3, 3), (RX4, TX4, 2), (RX5, TX5, 12), (RX6, TX6, 15), (RX7, TX7, 6), (RX8, TX8, 7), (RX9, TX9, 2), (RX10, TX10, 5), (RX11, TX11, 10), (RX12, TX12, 79)]
